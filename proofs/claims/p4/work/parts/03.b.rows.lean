theorem dX0_number_0 : decode cX0_number 0 = .ok (.aload_n 0, 1) := by decide +kernel
theorem dX0_number_1 : decode cX0_number 1 = .ok (.getfield 19, 3) := by decide +kernel
theorem dX0_number_4 : decode cX0_number 4 = .ok (.ireturn, 1) := by decide +kernel
theorem dX0_forget_0 : decode cX0_forget 0 = .ok (.aload_n 0, 1) := by decide +kernel
theorem dX0_forget_1 : decode cX0_forget 1 = .ok (.iconst 0, 1) := by decide +kernel
theorem dX0_forget_2 : decode cX0_forget 2 = .ok (.putfield 19, 3) := by decide +kernel
theorem dX0_forget_5 : decode cX0_forget 5 = .ok (.return_, 1) := by decide +kernel
theorem dX0_keep_0 : decode cX0_keep 0 = .ok (.aload_n 1, 1) := by decide +kernel
theorem dX0_keep_1 : decode cX0_keep 1 = .ok (.aload_n 0, 1) := by decide +kernel
theorem dX0_keep_2 : decode cX0_keep 2 = .ok (.getfield 11, 3) := by decide +kernel
theorem dX0_keep_5 : decode cX0_keep 5 = .ok (.aload_n 0, 1) := by decide +kernel
theorem dX0_keep_6 : decode cX0_keep 6 = .ok (.getfield 15, 3) := by decide +kernel
theorem dX0_keep_9 : decode cX0_keep 9 = .ok (.bipush 58, 2) := by decide +kernel
theorem dX0_keep_11 : decode cX0_keep 11 = .ok (.imul, 1) := by decide +kernel
theorem dX0_keep_12 : decode cX0_keep 12 = .ok (.invokevirtual 22, 3) := by decide +kernel
theorem dX0_keep_15 : decode cX0_keep 15 = .ok (.aload_n 0, 1) := by decide +kernel
theorem dX0_keep_16 : decode cX0_keep 16 = .ok (.aload_n 0, 1) := by decide +kernel
theorem dX0_keep_17 : decode cX0_keep 17 = .ok (.getfield 15, 3) := by decide +kernel
theorem dX0_keep_20 : decode cX0_keep 20 = .ok (.iconst 1, 1) := by decide +kernel
theorem dX0_keep_21 : decode cX0_keep 21 = .ok (.iadd, 1) := by decide +kernel
theorem dX0_keep_22 : decode cX0_keep 22 = .ok (.bipush 40, 2) := by decide +kernel
theorem dX0_keep_24 : decode cX0_keep 24 = .ok (.irem, 1) := by decide +kernel
theorem dX0_keep_25 : decode cX0_keep 25 = .ok (.putfield 15, 3) := by decide +kernel
theorem dX0_keep_28 : decode cX0_keep 28 = .ok (.aload_n 0, 1) := by decide +kernel
theorem dX0_keep_29 : decode cX0_keep 29 = .ok (.bipush 40, 2) := by decide +kernel
theorem dX0_keep_31 : decode cX0_keep 31 = .ok (.aload_n 0, 1) := by decide +kernel
theorem dX0_keep_32 : decode cX0_keep 32 = .ok (.getfield 19, 3) := by decide +kernel
theorem dX0_keep_35 : decode cX0_keep 35 = .ok (.iconst 1, 1) := by decide +kernel
theorem dX0_keep_36 : decode cX0_keep 36 = .ok (.iadd, 1) := by decide +kernel
theorem dX0_keep_37 : decode cX0_keep 37 = .ok (.invokestatic 26, 3) := by decide +kernel
theorem dX0_keep_40 : decode cX0_keep 40 = .ok (.putfield 19, 3) := by decide +kernel
theorem dX0_keep_43 : decode cX0_keep 43 = .ok (.return_, 1) := by decide +kernel
theorem dX0_takeBack_0 : decode cX0_takeBack 0 = .ok (.aload_n 0, 1) := by decide +kernel
theorem dX0_takeBack_1 : decode cX0_takeBack 1 = .ok (.getfield 19, 3) := by decide +kernel
theorem dX0_takeBack_4 : decode cX0_takeBack 4 = .ok (.iconst 1, 1) := by decide +kernel
theorem dX0_takeBack_5 : decode cX0_takeBack 5 = .ok (.if_icmp .ge 5, 3) := by decide +kernel
theorem dX0_takeBack_8 : decode cX0_takeBack 8 = .ok (.iconst 0, 1) := by decide +kernel
theorem dX0_takeBack_9 : decode cX0_takeBack 9 = .ok (.ireturn, 1) := by decide +kernel
theorem dX0_takeBack_10 : decode cX0_takeBack 10 = .ok (.aload_n 0, 1) := by decide +kernel
theorem dX0_takeBack_11 : decode cX0_takeBack 11 = .ok (.aload_n 0, 1) := by decide +kernel
theorem dX0_takeBack_12 : decode cX0_takeBack 12 = .ok (.getfield 15, 3) := by decide +kernel
theorem dX0_takeBack_15 : decode cX0_takeBack 15 = .ok (.bipush 40, 2) := by decide +kernel
theorem dX0_takeBack_17 : decode cX0_takeBack 17 = .ok (.iadd, 1) := by decide +kernel
theorem dX0_takeBack_18 : decode cX0_takeBack 18 = .ok (.iconst 1, 1) := by decide +kernel
theorem dX0_takeBack_19 : decode cX0_takeBack 19 = .ok (.isub, 1) := by decide +kernel
theorem dX0_takeBack_20 : decode cX0_takeBack 20 = .ok (.bipush 40, 2) := by decide +kernel
theorem dX0_takeBack_22 : decode cX0_takeBack 22 = .ok (.irem, 1) := by decide +kernel
theorem dX0_takeBack_23 : decode cX0_takeBack 23 = .ok (.putfield 15, 3) := by decide +kernel
theorem dX0_takeBack_26 : decode cX0_takeBack 26 = .ok (.aload_n 0, 1) := by decide +kernel
theorem dX0_takeBack_27 : decode cX0_takeBack 27 = .ok (.dup, 1) := by decide +kernel
theorem dX0_takeBack_28 : decode cX0_takeBack 28 = .ok (.getfield 19, 3) := by decide +kernel
theorem dX0_takeBack_31 : decode cX0_takeBack 31 = .ok (.iconst 1, 1) := by decide +kernel
theorem dX0_takeBack_32 : decode cX0_takeBack 32 = .ok (.isub, 1) := by decide +kernel
theorem dX0_takeBack_33 : decode cX0_takeBack 33 = .ok (.putfield 19, 3) := by decide +kernel
theorem dX0_takeBack_36 : decode cX0_takeBack 36 = .ok (.aload_n 1, 1) := by decide +kernel
theorem dX0_takeBack_37 : decode cX0_takeBack 37 = .ok (.aload_n 0, 1) := by decide +kernel
theorem dX0_takeBack_38 : decode cX0_takeBack 38 = .ok (.getfield 11, 3) := by decide +kernel
theorem dX0_takeBack_41 : decode cX0_takeBack 41 = .ok (.aload_n 0, 1) := by decide +kernel
theorem dX0_takeBack_42 : decode cX0_takeBack 42 = .ok (.getfield 15, 3) := by decide +kernel
theorem dX0_takeBack_45 : decode cX0_takeBack 45 = .ok (.bipush 58, 2) := by decide +kernel
theorem dX0_takeBack_47 : decode cX0_takeBack 47 = .ok (.imul, 1) := by decide +kernel
theorem dX0_takeBack_48 : decode cX0_takeBack 48 = .ok (.invokevirtual 32, 3) := by decide +kernel
theorem dX0_takeBack_51 : decode cX0_takeBack 51 = .ok (.iconst 1, 1) := by decide +kernel
theorem dX0_takeBack_52 : decode cX0_takeBack 52 = .ok (.ireturn, 1) := by decide +kernel
theorem dX1_put_0 : decode cX1_put 0 = .ok (.iload_n 1, 1) := by decide +kernel
theorem dX1_put_1 : decode cX1_put 1 = .ok (.invokestatic 15, 3) := by decide +kernel
theorem dX1_put_4 : decode cX1_put 4 = .ok (.istore 5, 2) := by decide +kernel
theorem dX1_put_6 : decode cX1_put 6 = .ok (.aload_n 0, 1) := by decide +kernel
theorem dX1_put_7 : decode cX1_put 7 = .ok (.getfield 11, 3) := by decide +kernel
theorem dX1_put_10 : decode cX1_put 10 = .ok (.iload 5, 2) := by decide +kernel
theorem dX1_put_12 : decode cX1_put 12 = .ok (.iload_n 2, 1) := by decide +kernel
theorem dX1_put_13 : decode cX1_put 13 = .ok (.iastore, 1) := by decide +kernel
theorem dX1_put_14 : decode cX1_put 14 = .ok (.aload_n 0, 1) := by decide +kernel
theorem dX1_put_15 : decode cX1_put 15 = .ok (.getfield 11, 3) := by decide +kernel
theorem dX1_put_18 : decode cX1_put 18 = .ok (.iload 5, 2) := by decide +kernel
theorem dX1_put_20 : decode cX1_put 20 = .ok (.iconst 1, 1) := by decide +kernel
theorem dX1_put_21 : decode cX1_put 21 = .ok (.iadd, 1) := by decide +kernel
theorem dX1_put_22 : decode cX1_put 22 = .ok (.iload_n 3, 1) := by decide +kernel
theorem dX1_put_23 : decode cX1_put 23 = .ok (.iastore, 1) := by decide +kernel
theorem dX1_put_24 : decode cX1_put 24 = .ok (.aload_n 0, 1) := by decide +kernel
theorem dX1_put_25 : decode cX1_put 25 = .ok (.getfield 11, 3) := by decide +kernel
theorem dX1_put_28 : decode cX1_put 28 = .ok (.iload 5, 2) := by decide +kernel
theorem dX1_put_30 : decode cX1_put 30 = .ok (.iconst 2, 1) := by decide +kernel
theorem dX1_put_31 : decode cX1_put 31 = .ok (.iadd, 1) := by decide +kernel
theorem dX1_put_32 : decode cX1_put 32 = .ok (.iload 4, 2) := by decide +kernel
theorem dX1_put_34 : decode cX1_put 34 = .ok (.iastore, 1) := by decide +kernel
theorem dX1_put_35 : decode cX1_put 35 = .ok (.return_, 1) := by decide +kernel
theorem dX1_rowOf_0 : decode cX1_rowOf 0 = .ok (.iload_n 0, 1) := by decide +kernel
theorem dX1_rowOf_1 : decode cX1_rowOf 1 = .ok (.bipush 100, 2) := by decide +kernel
theorem dX1_rowOf_3 : decode cX1_rowOf 3 = .ok (.invokestatic 19, 3) := by decide +kernel
theorem dX1_rowOf_6 : decode cX1_rowOf 6 = .ok (.iconst 3, 1) := by decide +kernel
theorem dX1_rowOf_7 : decode cX1_rowOf 7 = .ok (.imul, 1) := by decide +kernel
theorem dX1_rowOf_8 : decode cX1_rowOf 8 = .ok (.ireturn, 1) := by decide +kernel
theorem dX1_lengthOn_0 : decode cX1_lengthOn 0 = .ok (.iload_n 0, 1) := by decide +kernel
theorem dX1_lengthOn_1 : decode cX1_lengthOn 1 = .ok (.bipush 60, 2) := by decide +kernel
theorem dX1_lengthOn_3 : decode cX1_lengthOn 3 = .ok (.invokestatic 25, 3) := by decide +kernel
theorem dX1_lengthOn_6 : decode cX1_lengthOn 6 = .ok (.ireturn, 1) := by decide +kernel
theorem dX1_told_0 : decode cX1_told 0 = .ok (.iload_n 2, 1) := by decide +kernel
theorem dX1_told_1 : decode cX1_told 1 = .ok (.ifCond .lt 20, 3) := by decide +kernel
theorem dX1_told_4 : decode cX1_told 4 = .ok (.iload_n 2, 1) := by decide +kernel
theorem dX1_told_5 : decode cX1_told 5 = .ok (.iload_n 1, 1) := by decide +kernel
theorem dX1_told_6 : decode cX1_told 6 = .ok (.invokestatic 28, 3) := by decide +kernel
theorem dX1_told_9 : decode cX1_told 9 = .ok (.if_icmp .ge 12, 3) := by decide +kernel
theorem dX1_told_12 : decode cX1_told 12 = .ok (.iload_n 3, 1) := by decide +kernel
theorem dX1_told_13 : decode cX1_told 13 = .ok (.ifCond .lt 8, 3) := by decide +kernel
theorem dX1_told_16 : decode cX1_told 16 = .ok (.iload_n 3, 1) := by decide +kernel
theorem dX1_told_17 : decode cX1_told 17 = .ok (.iconst 3, 1) := by decide +kernel
theorem dX1_told_18 : decode cX1_told 18 = .ok (.if_icmp .lt 5, 3) := by decide +kernel
theorem dX1_told_21 : decode cX1_told 21 = .ok (.iconst (-1), 1) := by decide +kernel
theorem dX1_told_22 : decode cX1_told 22 = .ok (.ireturn, 1) := by decide +kernel
theorem dX1_told_23 : decode cX1_told 23 = .ok (.aload_n 0, 1) := by decide +kernel
theorem dX1_told_24 : decode cX1_told 24 = .ok (.getfield 11, 3) := by decide +kernel
theorem dX1_told_27 : decode cX1_told 27 = .ok (.iload_n 1, 1) := by decide +kernel
theorem dX1_told_28 : decode cX1_told 28 = .ok (.iconst 1, 1) := by decide +kernel
theorem dX1_told_29 : decode cX1_told 29 = .ok (.isub, 1) := by decide +kernel
theorem dX1_told_30 : decode cX1_told 30 = .ok (.iload_n 2, 1) := by decide +kernel
theorem dX1_told_31 : decode cX1_told 31 = .ok (.isub, 1) := by decide +kernel
theorem dX1_told_32 : decode cX1_told 32 = .ok (.invokestatic 15, 3) := by decide +kernel
theorem dX1_told_35 : decode cX1_told 35 = .ok (.iload_n 3, 1) := by decide +kernel
theorem dX1_told_36 : decode cX1_told 36 = .ok (.iadd, 1) := by decide +kernel
theorem dX1_told_37 : decode cX1_told 37 = .ok (.iaload, 1) := by decide +kernel
theorem dX1_told_38 : decode cX1_told 38 = .ok (.ireturn, 1) := by decide +kernel
theorem dX1_become_0 : decode cX1_become 0 = .ok (.aload_n 1, 1) := by decide +kernel
theorem dX1_become_1 : decode cX1_become 1 = .ok (.getfield 11, 3) := by decide +kernel
theorem dX1_become_4 : decode cX1_become 4 = .ok (.iconst 0, 1) := by decide +kernel
theorem dX1_become_5 : decode cX1_become 5 = .ok (.aload_n 0, 1) := by decide +kernel
theorem dX1_become_6 : decode cX1_become 6 = .ok (.getfield 11, 3) := by decide +kernel
theorem dX1_become_9 : decode cX1_become 9 = .ok (.iconst 0, 1) := by decide +kernel
theorem dX1_become_10 : decode cX1_become 10 = .ok (.aload_n 0, 1) := by decide +kernel
theorem dX1_become_11 : decode cX1_become 11 = .ok (.getfield 11, 3) := by decide +kernel
theorem dX1_become_14 : decode cX1_become 14 = .ok (.arraylength, 1) := by decide +kernel
theorem dX1_become_15 : decode cX1_become 15 = .ok (.invokestatic 31, 3) := by decide +kernel
theorem dX1_become_18 : decode cX1_become 18 = .ok (.return_, 1) := by decide +kernel
theorem dX2_sizeBehind_0 : decode cX2_sizeBehind 0 = .ok (.aload_n 0, 1) := by decide +kernel
theorem dX2_sizeBehind_1 : decode cX2_sizeBehind 1 = .ok (.getfield 14, 3) := by decide +kernel
theorem dX2_sizeBehind_4 : decode cX2_sizeBehind 4 = .ok (.aload_n 1, 1) := by decide +kernel
theorem dX2_sizeBehind_5 : decode cX2_sizeBehind 5 = .ok (.invokevirtual 47, 3) := by decide +kernel
theorem dX2_sizeBehind_8 : decode cX2_sizeBehind 8 = .ok (.iconst 0, 1) := by decide +kernel
theorem dX2_sizeBehind_9 : decode cX2_sizeBehind 9 = .ok (.istore 4, 2) := by decide +kernel
theorem dX2_sizeBehind_11 : decode cX2_sizeBehind 11 = .ok (.iload 4, 2) := by decide +kernel
theorem dX2_sizeBehind_13 : decode cX2_sizeBehind 13 = .ok (.iload_n 3, 1) := by decide +kernel
theorem dX2_sizeBehind_14 : decode cX2_sizeBehind 14 = .ok (.if_icmp .ge 35, 3) := by decide +kernel
theorem dX2_sizeBehind_17 : decode cX2_sizeBehind 17 = .ok (.aload_n 0, 1) := by decide +kernel
theorem dX2_sizeBehind_18 : decode cX2_sizeBehind 18 = .ok (.getfield 14, 3) := by decide +kernel
theorem dX2_sizeBehind_21 : decode cX2_sizeBehind 21 = .ok (.iload_n 2, 1) := by decide +kernel
theorem dX2_sizeBehind_22 : decode cX2_sizeBehind 22 = .ok (.invokevirtual 51, 3) := by decide +kernel
theorem dX2_sizeBehind_25 : decode cX2_sizeBehind 25 = .ok (.ifCond .eq 24, 3) := by decide +kernel
theorem dX2_sizeBehind_28 : decode cX2_sizeBehind 28 = .ok (.aload_n 0, 1) := by decide +kernel
theorem dX2_sizeBehind_29 : decode cX2_sizeBehind 29 = .ok (.getfield 14, 3) := by decide +kernel
theorem dX2_sizeBehind_32 : decode cX2_sizeBehind 32 = .ok (.aload_n 0, 1) := by decide +kernel
theorem dX2_sizeBehind_33 : decode cX2_sizeBehind 33 = .ok (.getfield 39, 3) := by decide +kernel
theorem dX2_sizeBehind_36 : decode cX2_sizeBehind 36 = .ok (.aload_n 0, 1) := by decide +kernel
theorem dX2_sizeBehind_37 : decode cX2_sizeBehind 37 = .ok (.getfield 43, 3) := by decide +kernel
theorem dX2_sizeBehind_40 : decode cX2_sizeBehind 40 = .ok (.invokevirtual 55, 3) := by decide +kernel
theorem dX2_sizeBehind_43 : decode cX2_sizeBehind 43 = .ok (.iinc 4 1, 3) := by decide +kernel
theorem dX2_sizeBehind_46 : decode cX2_sizeBehind 46 = .ok (.goto (-35), 3) := by decide +kernel
theorem dX2_sizeBehind_49 : decode cX2_sizeBehind 49 = .ok (.aload_n 0, 1) := by decide +kernel
theorem dX2_sizeBehind_50 : decode cX2_sizeBehind 50 = .ok (.getfield 14, 3) := by decide +kernel
theorem dX2_sizeBehind_53 : decode cX2_sizeBehind 53 = .ok (.iload_n 2, 1) := by decide +kernel
theorem dX2_sizeBehind_54 : decode cX2_sizeBehind 54 = .ok (.iconst 0, 1) := by decide +kernel
theorem dX2_sizeBehind_55 : decode cX2_sizeBehind 55 = .ok (.invokevirtual 59, 3) := by decide +kernel
theorem dX2_sizeBehind_58 : decode cX2_sizeBehind 58 = .ok (.ireturn, 1) := by decide +kernel
theorem dX2_daysToEnd_0 : decode cX2_daysToEnd 0 = .ok (.aload_n 0, 1) := by decide +kernel
theorem dX2_daysToEnd_1 : decode cX2_daysToEnd 1 = .ok (.getfield 14, 3) := by decide +kernel
theorem dX2_daysToEnd_4 : decode cX2_daysToEnd 4 = .ok (.aload_n 1, 1) := by decide +kernel
theorem dX2_daysToEnd_5 : decode cX2_daysToEnd 5 = .ok (.invokevirtual 47, 3) := by decide +kernel
theorem dX2_daysToEnd_8 : decode cX2_daysToEnd 8 = .ok (.iconst 1, 1) := by decide +kernel
theorem dX2_daysToEnd_9 : decode cX2_daysToEnd 9 = .ok (.istore_n 3, 1) := by decide +kernel
theorem dX2_daysToEnd_10 : decode cX2_daysToEnd 10 = .ok (.iload_n 3, 1) := by decide +kernel
theorem dX2_daysToEnd_11 : decode cX2_daysToEnd 11 = .ok (.bipush 99, 2) := by decide +kernel
theorem dX2_daysToEnd_13 : decode cX2_daysToEnd 13 = .ok (.if_icmp .gt 37, 3) := by decide +kernel
theorem dX2_daysToEnd_16 : decode cX2_daysToEnd 16 = .ok (.aload_n 0, 1) := by decide +kernel
theorem dX2_daysToEnd_17 : decode cX2_daysToEnd 17 = .ok (.getfield 14, 3) := by decide +kernel
theorem dX2_daysToEnd_20 : decode cX2_daysToEnd 20 = .ok (.aload_n 0, 1) := by decide +kernel
theorem dX2_daysToEnd_21 : decode cX2_daysToEnd 21 = .ok (.getfield 39, 3) := by decide +kernel
theorem dX2_daysToEnd_24 : decode cX2_daysToEnd 24 = .ok (.aload_n 0, 1) := by decide +kernel
theorem dX2_daysToEnd_25 : decode cX2_daysToEnd 25 = .ok (.getfield 43, 3) := by decide +kernel
theorem dX2_daysToEnd_28 : decode cX2_daysToEnd 28 = .ok (.invokevirtual 55, 3) := by decide +kernel
theorem dX2_daysToEnd_31 : decode cX2_daysToEnd 31 = .ok (.aload_n 0, 1) := by decide +kernel
theorem dX2_daysToEnd_32 : decode cX2_daysToEnd 32 = .ok (.getfield 14, 3) := by decide +kernel
theorem dX2_daysToEnd_35 : decode cX2_daysToEnd 35 = .ok (.iload_n 2, 1) := by decide +kernel
theorem dX2_daysToEnd_36 : decode cX2_daysToEnd 36 = .ok (.invokevirtual 51, 3) := by decide +kernel
theorem dX2_daysToEnd_39 : decode cX2_daysToEnd 39 = .ok (.ifCond .ne 5, 3) := by decide +kernel
theorem dX2_daysToEnd_42 : decode cX2_daysToEnd 42 = .ok (.iload_n 3, 1) := by decide +kernel
theorem dX2_daysToEnd_43 : decode cX2_daysToEnd 43 = .ok (.ireturn, 1) := by decide +kernel
theorem dX2_daysToEnd_44 : decode cX2_daysToEnd 44 = .ok (.iinc 3 1, 3) := by decide +kernel
theorem dX2_daysToEnd_47 : decode cX2_daysToEnd 47 = .ok (.goto (-37), 3) := by decide +kernel
theorem dX2_daysToEnd_50 : decode cX2_daysToEnd 50 = .ok (.iconst (-1), 1) := by decide +kernel
theorem dX2_daysToEnd_51 : decode cX2_daysToEnd 51 = .ok (.ireturn, 1) := by decide +kernel
theorem dX2_daysToFall_0 : decode cX2_daysToFall 0 = .ok (.aload_n 0, 1) := by decide +kernel
theorem dX2_daysToFall_1 : decode cX2_daysToFall 1 = .ok (.getfield 14, 3) := by decide +kernel
theorem dX2_daysToFall_4 : decode cX2_daysToFall 4 = .ok (.aload_n 1, 1) := by decide +kernel
theorem dX2_daysToFall_5 : decode cX2_daysToFall 5 = .ok (.invokevirtual 47, 3) := by decide +kernel
theorem dX2_daysToFall_8 : decode cX2_daysToFall 8 = .ok (.iconst 1, 1) := by decide +kernel
theorem dX2_daysToFall_9 : decode cX2_daysToFall 9 = .ok (.istore_n 3, 1) := by decide +kernel
theorem dX2_daysToFall_10 : decode cX2_daysToFall 10 = .ok (.iload_n 3, 1) := by decide +kernel
theorem dX2_daysToFall_11 : decode cX2_daysToFall 11 = .ok (.bipush 99, 2) := by decide +kernel
theorem dX2_daysToFall_13 : decode cX2_daysToFall 13 = .ok (.if_icmp .gt 52, 3) := by decide +kernel
theorem dX2_daysToFall_16 : decode cX2_daysToFall 16 = .ok (.aload_n 0, 1) := by decide +kernel
theorem dX2_daysToFall_17 : decode cX2_daysToFall 17 = .ok (.getfield 14, 3) := by decide +kernel
theorem dX2_daysToFall_20 : decode cX2_daysToFall 20 = .ok (.iload_n 2, 1) := by decide +kernel
theorem dX2_daysToFall_21 : decode cX2_daysToFall 21 = .ok (.invokevirtual 51, 3) := by decide +kernel
theorem dX2_daysToFall_24 : decode cX2_daysToFall 24 = .ok (.ifCond .eq 41, 3) := by decide +kernel
theorem dX2_daysToFall_27 : decode cX2_daysToFall 27 = .ok (.aload_n 0, 1) := by decide +kernel
theorem dX2_daysToFall_28 : decode cX2_daysToFall 28 = .ok (.getfield 14, 3) := by decide +kernel
theorem dX2_daysToFall_31 : decode cX2_daysToFall 31 = .ok (.aload_n 0, 1) := by decide +kernel
theorem dX2_daysToFall_32 : decode cX2_daysToFall 32 = .ok (.getfield 39, 3) := by decide +kernel
theorem dX2_daysToFall_35 : decode cX2_daysToFall 35 = .ok (.aload_n 0, 1) := by decide +kernel
theorem dX2_daysToFall_36 : decode cX2_daysToFall 36 = .ok (.getfield 43, 3) := by decide +kernel
theorem dX2_daysToFall_39 : decode cX2_daysToFall 39 = .ok (.invokevirtual 55, 3) := by decide +kernel
theorem dX2_daysToFall_42 : decode cX2_daysToFall 42 = .ok (.aload_n 0, 1) := by decide +kernel
theorem dX2_daysToFall_43 : decode cX2_daysToFall 43 = .ok (.getfield 14, 3) := by decide +kernel
theorem dX2_daysToFall_46 : decode cX2_daysToFall 46 = .ok (.invokevirtual 63, 3) := by decide +kernel
theorem dX2_daysToFall_49 : decode cX2_daysToFall 49 = .ok (.iload_n 2, 1) := by decide +kernel
theorem dX2_daysToFall_50 : decode cX2_daysToFall 50 = .ok (.ishr, 1) := by decide +kernel
theorem dX2_daysToFall_51 : decode cX2_daysToFall 51 = .ok (.iconst 1, 1) := by decide +kernel
theorem dX2_daysToFall_52 : decode cX2_daysToFall 52 = .ok (.iand, 1) := by decide +kernel
theorem dX2_daysToFall_53 : decode cX2_daysToFall 53 = .ok (.iconst 1, 1) := by decide +kernel
theorem dX2_daysToFall_54 : decode cX2_daysToFall 54 = .ok (.if_icmp .ne 5, 3) := by decide +kernel
theorem dX2_daysToFall_57 : decode cX2_daysToFall 57 = .ok (.iload_n 3, 1) := by decide +kernel
theorem dX2_daysToFall_58 : decode cX2_daysToFall 58 = .ok (.ireturn, 1) := by decide +kernel
theorem dX2_daysToFall_59 : decode cX2_daysToFall 59 = .ok (.iinc 3 1, 3) := by decide +kernel
theorem dX2_daysToFall_62 : decode cX2_daysToFall 62 = .ok (.goto (-52), 3) := by decide +kernel
theorem dX2_daysToFall_65 : decode cX2_daysToFall 65 = .ok (.iconst (-1), 1) := by decide +kernel
theorem dX2_daysToFall_66 : decode cX2_daysToFall 66 = .ok (.ireturn, 1) := by decide +kernel
theorem dX2_play_0 : decode cX2_play 0 = .ok (.iconst 0, 1) := by decide +kernel
theorem dX2_play_1 : decode cX2_play 1 = .ok (.aload_n 1, 1) := by decide +kernel
theorem dX2_play_2 : decode cX2_play 2 = .ok (.iload_n 2, 1) := by decide +kernel
theorem dX2_play_3 : decode cX2_play 3 = .ok (.iconst 1, 1) := by decide +kernel
theorem dX2_play_4 : decode cX2_play 4 = .ok (.invokevirtual 59, 3) := by decide +kernel
theorem dX2_play_7 : decode cX2_play 7 = .ok (.iload_n 3, 1) := by decide +kernel
theorem dX2_play_8 : decode cX2_play 8 = .ok (.isub, 1) := by decide +kernel
theorem dX2_play_9 : decode cX2_play 9 = .ok (.invokestatic 67, 3) := by decide +kernel
theorem dX2_play_12 : decode cX2_play 12 = .ok (.istore 5, 2) := by decide +kernel
theorem dX2_play_14 : decode cX2_play 14 = .ok (.iconst 0, 1) := by decide +kernel
theorem dX2_play_15 : decode cX2_play 15 = .ok (.aload_n 1, 1) := by decide +kernel
theorem dX2_play_16 : decode cX2_play 16 = .ok (.iload_n 2, 1) := by decide +kernel
theorem dX2_play_17 : decode cX2_play 17 = .ok (.iconst 2, 1) := by decide +kernel
theorem dX2_play_18 : decode cX2_play 18 = .ok (.invokevirtual 59, 3) := by decide +kernel
theorem dX2_play_21 : decode cX2_play 21 = .ok (.iload 4, 2) := by decide +kernel
theorem dX2_play_23 : decode cX2_play 23 = .ok (.isub, 1) := by decide +kernel
theorem dX2_play_24 : decode cX2_play 24 = .ok (.invokestatic 67, 3) := by decide +kernel
theorem dX2_play_27 : decode cX2_play 27 = .ok (.istore 6, 2) := by decide +kernel
theorem dX2_play_29 : decode cX2_play 29 = .ok (.aload_n 0, 1) := by decide +kernel
theorem dX2_play_30 : decode cX2_play 30 = .ok (.getfield 14, 3) := by decide +kernel
theorem dX2_play_33 : decode cX2_play 33 = .ok (.invokevirtual 72, 3) := by decide +kernel
theorem dX2_play_36 : decode cX2_play 36 = .ok (.aload_n 0, 1) := by decide +kernel
theorem dX2_play_37 : decode cX2_play 37 = .ok (.getfield 14, 3) := by decide +kernel
theorem dX2_play_40 : decode cX2_play 40 = .ok (.aload_n 1, 1) := by decide +kernel
theorem dX2_play_41 : decode cX2_play 41 = .ok (.invokevirtual 75, 3) := by decide +kernel
theorem dX2_play_44 : decode cX2_play 44 = .ok (.invokevirtual 78, 3) := by decide +kernel
theorem dX2_play_47 : decode cX2_play 47 = .ok (.aload_n 0, 1) := by decide +kernel
theorem dX2_play_48 : decode cX2_play 48 = .ok (.getfield 14, 3) := by decide +kernel
theorem dX2_play_51 : decode cX2_play 51 = .ok (.iconst 0, 1) := by decide +kernel
theorem dX2_play_52 : decode cX2_play 52 = .ok (.aload_n 1, 1) := by decide +kernel
theorem dX2_play_53 : decode cX2_play 53 = .ok (.iload_n 2, 1) := by decide +kernel
theorem dX2_play_54 : decode cX2_play 54 = .ok (.iconst 0, 1) := by decide +kernel
theorem dX2_play_55 : decode cX2_play 55 = .ok (.invokevirtual 59, 3) := by decide +kernel
theorem dX2_play_58 : decode cX2_play 58 = .ok (.iload 5, 2) := by decide +kernel
theorem dX2_play_60 : decode cX2_play 60 = .ok (.iload 6, 2) := by decide +kernel
theorem dX2_play_62 : decode cX2_play 62 = .ok (.aload_n 1, 1) := by decide +kernel
theorem dX2_play_63 : decode cX2_play 63 = .ok (.iload_n 2, 1) := by decide +kernel
theorem dX2_play_64 : decode cX2_play 64 = .ok (.iconst 3, 1) := by decide +kernel
theorem dX2_play_65 : decode cX2_play 65 = .ok (.invokevirtual 59, 3) := by decide +kernel
theorem dX2_play_68 : decode cX2_play 68 = .ok (.aload_n 1, 1) := by decide +kernel
theorem dX2_play_69 : decode cX2_play 69 = .ok (.iload_n 2, 1) := by decide +kernel
theorem dX2_play_70 : decode cX2_play 70 = .ok (.iconst 4, 1) := by decide +kernel
theorem dX2_play_71 : decode cX2_play 71 = .ok (.invokevirtual 59, 3) := by decide +kernel
theorem dX2_play_74 : decode cX2_play 74 = .ok (.invokevirtual 82, 3) := by decide +kernel
theorem dX2_play_77 : decode cX2_play 77 = .ok (.aload_n 0, 1) := by decide +kernel
theorem dX2_play_78 : decode cX2_play 78 = .ok (.getfield 14, 3) := by decide +kernel
theorem dX2_play_81 : decode cX2_play 81 = .ok (.iconst 0, 1) := by decide +kernel
theorem dX2_play_82 : decode cX2_play 82 = .ok (.iconst 5, 1) := by decide +kernel
theorem dX2_play_83 : decode cX2_play 83 = .ok (.aload_n 1, 1) := by decide +kernel
theorem dX2_play_84 : decode cX2_play 84 = .ok (.iload_n 2, 1) := by decide +kernel
theorem dX2_play_85 : decode cX2_play 85 = .ok (.iconst 5, 1) := by decide +kernel
theorem dX2_play_86 : decode cX2_play 86 = .ok (.invokevirtual 59, 3) := by decide +kernel
theorem dX2_play_89 : decode cX2_play 89 = .ok (.invokevirtual 86, 3) := by decide +kernel
theorem dX2_play_92 : decode cX2_play 92 = .ok (.iconst 0, 1) := by decide +kernel
theorem dX2_play_93 : decode cX2_play 93 = .ok (.istore 7, 2) := by decide +kernel
theorem dX2_play_95 : decode cX2_play 95 = .ok (.iload 7, 2) := by decide +kernel
theorem dX2_play_97 : decode cX2_play 97 = .ok (.iconst 3, 1) := by decide +kernel
theorem dX2_play_98 : decode cX2_play 98 = .ok (.if_icmp .ge 35, 3) := by decide +kernel
theorem dX2_play_101 : decode cX2_play 101 = .ok (.aload_n 0, 1) := by decide +kernel
theorem dX2_play_102 : decode cX2_play 102 = .ok (.getfield 14, 3) := by decide +kernel
theorem dX2_play_105 : decode cX2_play 105 = .ok (.iconst 0, 1) := by decide +kernel
theorem dX2_play_106 : decode cX2_play 106 = .ok (.invokevirtual 51, 3) := by decide +kernel
theorem dX2_play_109 : decode cX2_play 109 = .ok (.ifCond .eq 24, 3) := by decide +kernel
theorem dX2_play_112 : decode cX2_play 112 = .ok (.aload_n 0, 1) := by decide +kernel
theorem dX2_play_113 : decode cX2_play 113 = .ok (.getfield 14, 3) := by decide +kernel
theorem dX2_play_116 : decode cX2_play 116 = .ok (.aload_n 0, 1) := by decide +kernel
theorem dX2_play_117 : decode cX2_play 117 = .ok (.getfield 39, 3) := by decide +kernel
theorem dX2_play_120 : decode cX2_play 120 = .ok (.aload_n 0, 1) := by decide +kernel
theorem dX2_play_121 : decode cX2_play 121 = .ok (.getfield 43, 3) := by decide +kernel
theorem dX2_play_124 : decode cX2_play 124 = .ok (.invokevirtual 55, 3) := by decide +kernel
theorem dX2_play_127 : decode cX2_play 127 = .ok (.iinc 7 1, 3) := by decide +kernel
theorem dX2_play_130 : decode cX2_play 130 = .ok (.goto (-35), 3) := by decide +kernel
theorem dX2_play_133 : decode cX2_play 133 = .ok (.aload_n 0, 1) := by decide +kernel
theorem dX2_play_134 : decode cX2_play 134 = .ok (.getfield 14, 3) := by decide +kernel
theorem dX2_play_137 : decode cX2_play 137 = .ok (.iconst 0, 1) := by decide +kernel
theorem dX2_play_138 : decode cX2_play 138 = .ok (.invokevirtual 51, 3) := by decide +kernel
theorem dX2_play_141 : decode cX2_play 141 = .ok (.ifCond .ne 7, 3) := by decide +kernel
theorem dX2_play_144 : decode cX2_play 144 = .ok (.iconst 1, 1) := by decide +kernel
theorem dX2_play_145 : decode cX2_play 145 = .ok (.goto 4, 3) := by decide +kernel
theorem dX2_play_148 : decode cX2_play 148 = .ok (.iconst 0, 1) := by decide +kernel
theorem dX2_play_149 : decode cX2_play 149 = .ok (.istore 7, 2) := by decide +kernel
theorem dX2_play_151 : decode cX2_play 151 = .ok (.aload_n 0, 1) := by decide +kernel
theorem dX2_play_152 : decode cX2_play 152 = .ok (.getfield 14, 3) := by decide +kernel
theorem dX2_play_155 : decode cX2_play 155 = .ok (.iconst 0, 1) := by decide +kernel
theorem dX2_play_156 : decode cX2_play 156 = .ok (.iconst 4, 1) := by decide +kernel
theorem dX2_play_157 : decode cX2_play 157 = .ok (.invokevirtual 59, 3) := by decide +kernel
theorem dX2_play_160 : decode cX2_play 160 = .ok (.istore 8, 2) := by decide +kernel
theorem dX2_play_162 : decode cX2_play 162 = .ok (.bipush 30, 2) := by decide +kernel
theorem dX2_play_164 : decode cX2_play 164 = .ok (.aload_n 0, 1) := by decide +kernel
theorem dX2_play_165 : decode cX2_play 165 = .ok (.getfield 14, 3) := by decide +kernel
theorem dX2_play_168 : decode cX2_play 168 = .ok (.iconst 0, 1) := by decide +kernel
theorem dX2_play_169 : decode cX2_play 169 = .ok (.iconst 0, 1) := by decide +kernel
theorem dX2_play_170 : decode cX2_play 170 = .ok (.invokevirtual 59, 3) := by decide +kernel
theorem dX2_play_173 : decode cX2_play 173 = .ok (.isub, 1) := by decide +kernel
theorem dX2_play_174 : decode cX2_play 174 = .ok (.istore 9, 2) := by decide +kernel
theorem dX2_play_176 : decode cX2_play 176 = .ok (.aload_n 0, 1) := by decide +kernel
theorem dX2_play_177 : decode cX2_play 177 = .ok (.iload_n 3, 1) := by decide +kernel
theorem dX2_play_178 : decode cX2_play 178 = .ok (.iload 4, 2) := by decide +kernel
theorem dX2_play_180 : decode cX2_play 180 = .ok (.iconst 0, 1) := by decide +kernel
theorem dX2_play_181 : decode cX2_play 181 = .ok (.iload 9, 2) := by decide +kernel
theorem dX2_play_183 : decode cX2_play 183 = .ok (.iconst 2, 1) := by decide +kernel
theorem dX2_play_184 : decode cX2_play 184 = .ok (.iload_n 3, 1) := by decide +kernel
theorem dX2_play_185 : decode cX2_play 185 = .ok (.imul, 1) := by decide +kernel
theorem dX2_play_186 : decode cX2_play 186 = .ok (.isub, 1) := by decide +kernel
theorem dX2_play_187 : decode cX2_play 187 = .ok (.iload 7, 2) := by decide +kernel
theorem dX2_play_189 : decode cX2_play 189 = .ok (.ifCond .ne 8, 3) := by decide +kernel
theorem dX2_play_192 : decode cX2_play 192 = .ok (.iload 8, 2) := by decide +kernel
theorem dX2_play_194 : decode cX2_play 194 = .ok (.ifCond .ne 7, 3) := by decide +kernel
theorem dX2_play_197 : decode cX2_play 197 = .ok (.iconst 3, 1) := by decide +kernel
theorem dX2_play_198 : decode cX2_play 198 = .ok (.goto 4, 3) := by decide +kernel
theorem dX2_play_201 : decode cX2_play 201 = .ok (.iconst 0, 1) := by decide +kernel
theorem dX2_play_202 : decode cX2_play 202 = .ok (.iadd, 1) := by decide +kernel
theorem dX2_play_203 : decode cX2_play 203 = .ok (.invokevirtual 90, 3) := by decide +kernel
theorem dX2_play_206 : decode cX2_play 206 = .ok (.aload_n 0, 1) := by decide +kernel
theorem dX2_play_207 : decode cX2_play 207 = .ok (.iload_n 3, 1) := by decide +kernel
theorem dX2_play_208 : decode cX2_play 208 = .ok (.iload 4, 2) := by decide +kernel
theorem dX2_play_210 : decode cX2_play 210 = .ok (.iconst 1, 1) := by decide +kernel
theorem dX2_play_211 : decode cX2_play 211 = .ok (.iload 9, 2) := by decide +kernel
theorem dX2_play_213 : decode cX2_play 213 = .ok (.iconst 2, 1) := by decide +kernel
theorem dX2_play_214 : decode cX2_play 214 = .ok (.iload 4, 2) := by decide +kernel
theorem dX2_play_216 : decode cX2_play 216 = .ok (.imul, 1) := by decide +kernel
theorem dX2_play_217 : decode cX2_play 217 = .ok (.isub, 1) := by decide +kernel
theorem dX2_play_218 : decode cX2_play 218 = .ok (.iload 7, 2) := by decide +kernel
theorem dX2_play_220 : decode cX2_play 220 = .ok (.ifCond .ne 9, 3) := by decide +kernel
theorem dX2_play_223 : decode cX2_play 223 = .ok (.iload 8, 2) := by decide +kernel
theorem dX2_play_225 : decode cX2_play 225 = .ok (.iconst 1, 1) := by decide +kernel
theorem dX2_play_226 : decode cX2_play 226 = .ok (.if_icmp .ne 7, 3) := by decide +kernel
theorem dX2_play_229 : decode cX2_play 229 = .ok (.iconst 3, 1) := by decide +kernel
theorem dX2_play_230 : decode cX2_play 230 = .ok (.goto 4, 3) := by decide +kernel
theorem dX2_play_233 : decode cX2_play 233 = .ok (.iconst 0, 1) := by decide +kernel
theorem dX2_play_234 : decode cX2_play 234 = .ok (.iadd, 1) := by decide +kernel
theorem dX2_play_235 : decode cX2_play 235 = .ok (.invokevirtual 90, 3) := by decide +kernel
theorem dX2_play_238 : decode cX2_play 238 = .ok (.return_, 1) := by decide +kernel
theorem dX2_outcomeCell_0 : decode cX2_outcomeCell 0 = .ok (.iload_n 0, 1) := by decide +kernel
theorem dX2_outcomeCell_1 : decode cX2_outcomeCell 1 = .ok (.iconst 4, 1) := by decide +kernel
theorem dX2_outcomeCell_2 : decode cX2_outcomeCell 2 = .ok (.imul, 1) := by decide +kernel
theorem dX2_outcomeCell_3 : decode cX2_outcomeCell 3 = .ok (.iload_n 1, 1) := by decide +kernel
theorem dX2_outcomeCell_4 : decode cX2_outcomeCell 4 = .ok (.iadd, 1) := by decide +kernel
theorem dX2_outcomeCell_5 : decode cX2_outcomeCell 5 = .ok (.iconst 2, 1) := by decide +kernel
theorem dX2_outcomeCell_6 : decode cX2_outcomeCell 6 = .ok (.imul, 1) := by decide +kernel
theorem dX2_outcomeCell_7 : decode cX2_outcomeCell 7 = .ok (.iload_n 2, 1) := by decide +kernel
theorem dX2_outcomeCell_8 : decode cX2_outcomeCell 8 = .ok (.iadd, 1) := by decide +kernel
theorem dX2_outcomeCell_9 : decode cX2_outcomeCell 9 = .ok (.ireturn, 1) := by decide +kernel
theorem dX2_keepOutcome_0 : decode cX2_keepOutcome 0 = .ok (.iload_n 1, 1) := by decide +kernel
theorem dX2_keepOutcome_1 : decode cX2_keepOutcome 1 = .ok (.iload_n 2, 1) := by decide +kernel
theorem dX2_keepOutcome_2 : decode cX2_keepOutcome 2 = .ok (.iload_n 3, 1) := by decide +kernel
theorem dX2_keepOutcome_3 : decode cX2_keepOutcome 3 = .ok (.invokestatic 94, 3) := by decide +kernel
theorem dX2_keepOutcome_6 : decode cX2_keepOutcome 6 = .ok (.istore 5, 2) := by decide +kernel
theorem dX2_keepOutcome_8 : decode cX2_keepOutcome 8 = .ok (.iload 5, 2) := by decide +kernel
theorem dX2_keepOutcome_10 : decode cX2_keepOutcome 10 = .ok (.ifCond .lt 22, 3) := by decide +kernel
theorem dX2_keepOutcome_13 : decode cX2_keepOutcome 13 = .ok (.iload 5, 2) := by decide +kernel
theorem dX2_keepOutcome_15 : decode cX2_keepOutcome 15 = .ok (.aload_n 0, 1) := by decide +kernel
theorem dX2_keepOutcome_16 : decode cX2_keepOutcome 16 = .ok (.getfield 22, 3) := by decide +kernel
theorem dX2_keepOutcome_19 : decode cX2_keepOutcome 19 = .ok (.arraylength, 1) := by decide +kernel
theorem dX2_keepOutcome_20 : decode cX2_keepOutcome 20 = .ok (.if_icmp .ge 12, 3) := by decide +kernel
theorem dX2_keepOutcome_23 : decode cX2_keepOutcome 23 = .ok (.aload_n 0, 1) := by decide +kernel
theorem dX2_keepOutcome_24 : decode cX2_keepOutcome 24 = .ok (.getfield 22, 3) := by decide +kernel
theorem dX2_keepOutcome_27 : decode cX2_keepOutcome 27 = .ok (.iload 5, 2) := by decide +kernel
theorem dX2_keepOutcome_29 : decode cX2_keepOutcome 29 = .ok (.iload 4, 2) := by decide +kernel
theorem dX2_keepOutcome_31 : decode cX2_keepOutcome 31 = .ok (.iastore, 1) := by decide +kernel
theorem dX2_keepOutcome_32 : decode cX2_keepOutcome 32 = .ok (.return_, 1) := by decide +kernel
theorem dX2_outcome_0 : decode cX2_outcome 0 = .ok (.iload_n 1, 1) := by decide +kernel
theorem dX2_outcome_1 : decode cX2_outcome 1 = .ok (.iload_n 2, 1) := by decide +kernel
theorem dX2_outcome_2 : decode cX2_outcome 2 = .ok (.iload_n 3, 1) := by decide +kernel
theorem dX2_outcome_3 : decode cX2_outcome 3 = .ok (.invokestatic 94, 3) := by decide +kernel
theorem dX2_outcome_6 : decode cX2_outcome 6 = .ok (.istore 4, 2) := by decide +kernel
theorem dX2_outcome_8 : decode cX2_outcome 8 = .ok (.iload 4, 2) := by decide +kernel
theorem dX2_outcome_10 : decode cX2_outcome 10 = .ok (.ifCond .lt 23, 3) := by decide +kernel
theorem dX2_outcome_13 : decode cX2_outcome 13 = .ok (.iload 4, 2) := by decide +kernel
theorem dX2_outcome_15 : decode cX2_outcome 15 = .ok (.aload_n 0, 1) := by decide +kernel
theorem dX2_outcome_16 : decode cX2_outcome 16 = .ok (.getfield 22, 3) := by decide +kernel
theorem dX2_outcome_19 : decode cX2_outcome 19 = .ok (.arraylength, 1) := by decide +kernel
theorem dX2_outcome_20 : decode cX2_outcome 20 = .ok (.if_icmp .ge 13, 3) := by decide +kernel
theorem dX2_outcome_23 : decode cX2_outcome 23 = .ok (.aload_n 0, 1) := by decide +kernel
theorem dX2_outcome_24 : decode cX2_outcome 24 = .ok (.getfield 22, 3) := by decide +kernel
theorem dX2_outcome_27 : decode cX2_outcome 27 = .ok (.iload 4, 2) := by decide +kernel
theorem dX2_outcome_29 : decode cX2_outcome 29 = .ok (.iaload, 1) := by decide +kernel
theorem dX2_outcome_30 : decode cX2_outcome 30 = .ok (.goto 5, 3) := by decide +kernel
theorem dX2_outcome_33 : decode cX2_outcome 33 = .ok (.ldc 98, 2) := by decide +kernel
theorem dX2_outcome_35 : decode cX2_outcome 35 = .ok (.ireturn, 1) := by decide +kernel
theorem dX2_restingPoint_0 : decode cX2_restingPoint 0 = .ok (.iconst 0, 1) := by decide +kernel
theorem dX2_restingPoint_1 : decode cX2_restingPoint 1 = .ok (.istore 4, 2) := by decide +kernel
theorem dX2_restingPoint_3 : decode cX2_restingPoint 3 = .ok (.iload 4, 2) := by decide +kernel
theorem dX2_restingPoint_5 : decode cX2_restingPoint 5 = .ok (.bipush 16, 2) := by decide +kernel
theorem dX2_restingPoint_7 : decode cX2_restingPoint 7 = .ok (.if_icmp .ge 23, 3) := by decide +kernel
theorem dX2_restingPoint_10 : decode cX2_restingPoint 10 = .ok (.aload_n 0, 1) := by decide +kernel
theorem dX2_restingPoint_11 : decode cX2_restingPoint 11 = .ok (.aload_n 1, 1) := by decide +kernel
theorem dX2_restingPoint_12 : decode cX2_restingPoint 12 = .ok (.iload_n 2, 1) := by decide +kernel
theorem dX2_restingPoint_13 : decode cX2_restingPoint 13 = .ok (.iload 4, 2) := by decide +kernel
theorem dX2_restingPoint_15 : decode cX2_restingPoint 15 = .ok (.iconst 4, 1) := by decide +kernel
theorem dX2_restingPoint_16 : decode cX2_restingPoint 16 = .ok (.idiv, 1) := by decide +kernel
theorem dX2_restingPoint_17 : decode cX2_restingPoint 17 = .ok (.iload 4, 2) := by decide +kernel
theorem dX2_restingPoint_19 : decode cX2_restingPoint 19 = .ok (.iconst 4, 1) := by decide +kernel
theorem dX2_restingPoint_20 : decode cX2_restingPoint 20 = .ok (.irem, 1) := by decide +kernel
theorem dX2_restingPoint_21 : decode cX2_restingPoint 21 = .ok (.invokevirtual 99, 3) := by decide +kernel
theorem dX2_restingPoint_24 : decode cX2_restingPoint 24 = .ok (.iinc 4 1, 3) := by decide +kernel
theorem dX2_restingPoint_27 : decode cX2_restingPoint 27 = .ok (.goto (-24), 3) := by decide +kernel
theorem dX2_restingPoint_30 : decode cX2_restingPoint 30 = .ok (.iconst 0, 1) := by decide +kernel
theorem dX2_restingPoint_31 : decode cX2_restingPoint 31 = .ok (.istore 4, 2) := by decide +kernel
theorem dX2_restingPoint_33 : decode cX2_restingPoint 33 = .ok (.iconst 0, 1) := by decide +kernel
theorem dX2_restingPoint_34 : decode cX2_restingPoint 34 = .ok (.istore 5, 2) := by decide +kernel
theorem dX2_restingPoint_36 : decode cX2_restingPoint 36 = .ok (.iload 5, 2) := by decide +kernel
theorem dX2_restingPoint_38 : decode cX2_restingPoint 38 = .ok (.bipush 16, 2) := by decide +kernel
theorem dX2_restingPoint_40 : decode cX2_restingPoint 40 = .ok (.if_icmp .ge 46, 3) := by decide +kernel
theorem dX2_restingPoint_43 : decode cX2_restingPoint 43 = .ok (.aload_n 0, 1) := by decide +kernel
theorem dX2_restingPoint_44 : decode cX2_restingPoint 44 = .ok (.iload 5, 2) := by decide +kernel
theorem dX2_restingPoint_46 : decode cX2_restingPoint 46 = .ok (.iconst 4, 1) := by decide +kernel
theorem dX2_restingPoint_47 : decode cX2_restingPoint 47 = .ok (.idiv, 1) := by decide +kernel
theorem dX2_restingPoint_48 : decode cX2_restingPoint 48 = .ok (.iload 5, 2) := by decide +kernel
theorem dX2_restingPoint_50 : decode cX2_restingPoint 50 = .ok (.iconst 4, 1) := by decide +kernel
theorem dX2_restingPoint_51 : decode cX2_restingPoint 51 = .ok (.irem, 1) := by decide +kernel
theorem dX2_restingPoint_52 : decode cX2_restingPoint 52 = .ok (.invokevirtual 103, 3) := by decide +kernel
theorem dX2_restingPoint_55 : decode cX2_restingPoint 55 = .ok (.ifCond .eq 25, 3) := by decide +kernel
theorem dX2_restingPoint_58 : decode cX2_restingPoint 58 = .ok (.iload 4, 2) := by decide +kernel
theorem dX2_restingPoint_60 : decode cX2_restingPoint 60 = .ok (.iload_n 3, 1) := by decide +kernel
theorem dX2_restingPoint_61 : decode cX2_restingPoint 61 = .ok (.if_icmp .ne 16, 3) := by decide +kernel
theorem dX2_restingPoint_64 : decode cX2_restingPoint 64 = .ok (.iload 5, 2) := by decide +kernel
theorem dX2_restingPoint_66 : decode cX2_restingPoint 66 = .ok (.iconst 4, 1) := by decide +kernel
theorem dX2_restingPoint_67 : decode cX2_restingPoint 67 = .ok (.idiv, 1) := by decide +kernel
theorem dX2_restingPoint_68 : decode cX2_restingPoint 68 = .ok (.bipush 10, 2) := by decide +kernel
theorem dX2_restingPoint_70 : decode cX2_restingPoint 70 = .ok (.imul, 1) := by decide +kernel
theorem dX2_restingPoint_71 : decode cX2_restingPoint 71 = .ok (.iload 5, 2) := by decide +kernel
theorem dX2_restingPoint_73 : decode cX2_restingPoint 73 = .ok (.iconst 4, 1) := by decide +kernel
theorem dX2_restingPoint_74 : decode cX2_restingPoint 74 = .ok (.irem, 1) := by decide +kernel
theorem dX2_restingPoint_75 : decode cX2_restingPoint 75 = .ok (.iadd, 1) := by decide +kernel
theorem dX2_restingPoint_76 : decode cX2_restingPoint 76 = .ok (.ireturn, 1) := by decide +kernel
theorem dX2_restingPoint_77 : decode cX2_restingPoint 77 = .ok (.iinc 4 1, 3) := by decide +kernel
theorem dX2_restingPoint_80 : decode cX2_restingPoint 80 = .ok (.iinc 5 1, 3) := by decide +kernel
theorem dX2_restingPoint_83 : decode cX2_restingPoint 83 = .ok (.goto (-47), 3) := by decide +kernel
theorem dX2_restingPoint_86 : decode cX2_restingPoint 86 = .ok (.iload_n 3, 1) := by decide +kernel
theorem dX2_restingPoint_87 : decode cX2_restingPoint 87 = .ok (.iconst (-1), 1) := by decide +kernel
theorem dX2_restingPoint_88 : decode cX2_restingPoint 88 = .ok (.if_icmp .ne 8, 3) := by decide +kernel
theorem dX2_restingPoint_91 : decode cX2_restingPoint 91 = .ok (.iload 4, 2) := by decide +kernel
theorem dX2_restingPoint_93 : decode cX2_restingPoint 93 = .ok (.goto 4, 3) := by decide +kernel
theorem dX2_restingPoint_96 : decode cX2_restingPoint 96 = .ok (.iconst (-1), 1) := by decide +kernel
theorem dX2_restingPoint_97 : decode cX2_restingPoint 97 = .ok (.ireturn, 1) := by decide +kernel
theorem dX2_isRest_0 : decode cX2_isRest 0 = .ok (.iconst 0, 1) := by decide +kernel
theorem dX2_isRest_1 : decode cX2_isRest 1 = .ok (.istore_n 3, 1) := by decide +kernel
theorem dX2_isRest_2 : decode cX2_isRest 2 = .ok (.iload_n 3, 1) := by decide +kernel
theorem dX2_isRest_3 : decode cX2_isRest 3 = .ok (.iconst 4, 1) := by decide +kernel
theorem dX2_isRest_4 : decode cX2_isRest 4 = .ok (.if_icmp .ge 45, 3) := by decide +kernel
theorem dX2_isRest_7 : decode cX2_isRest 7 = .ok (.aload_n 0, 1) := by decide +kernel
theorem dX2_isRest_8 : decode cX2_isRest 8 = .ok (.iload_n 3, 1) := by decide +kernel
theorem dX2_isRest_9 : decode cX2_isRest 9 = .ok (.iload_n 2, 1) := by decide +kernel
theorem dX2_isRest_10 : decode cX2_isRest 10 = .ok (.iconst 0, 1) := by decide +kernel
theorem dX2_isRest_11 : decode cX2_isRest 11 = .ok (.invokevirtual 107, 3) := by decide +kernel
theorem dX2_isRest_14 : decode cX2_isRest 14 = .ok (.aload_n 0, 1) := by decide +kernel
theorem dX2_isRest_15 : decode cX2_isRest 15 = .ok (.iload_n 1, 1) := by decide +kernel
theorem dX2_isRest_16 : decode cX2_isRest 16 = .ok (.iload_n 2, 1) := by decide +kernel
theorem dX2_isRest_17 : decode cX2_isRest 17 = .ok (.iconst 0, 1) := by decide +kernel
theorem dX2_isRest_18 : decode cX2_isRest 18 = .ok (.invokevirtual 107, 3) := by decide +kernel
theorem dX2_isRest_21 : decode cX2_isRest 21 = .ok (.if_icmp .gt 20, 3) := by decide +kernel
theorem dX2_isRest_24 : decode cX2_isRest 24 = .ok (.aload_n 0, 1) := by decide +kernel
theorem dX2_isRest_25 : decode cX2_isRest 25 = .ok (.iload_n 1, 1) := by decide +kernel
theorem dX2_isRest_26 : decode cX2_isRest 26 = .ok (.iload_n 3, 1) := by decide +kernel
theorem dX2_isRest_27 : decode cX2_isRest 27 = .ok (.iconst 1, 1) := by decide +kernel
theorem dX2_isRest_28 : decode cX2_isRest 28 = .ok (.invokevirtual 107, 3) := by decide +kernel
theorem dX2_isRest_31 : decode cX2_isRest 31 = .ok (.aload_n 0, 1) := by decide +kernel
theorem dX2_isRest_32 : decode cX2_isRest 32 = .ok (.iload_n 1, 1) := by decide +kernel
theorem dX2_isRest_33 : decode cX2_isRest 33 = .ok (.iload_n 2, 1) := by decide +kernel
theorem dX2_isRest_34 : decode cX2_isRest 34 = .ok (.iconst 1, 1) := by decide +kernel
theorem dX2_isRest_35 : decode cX2_isRest 35 = .ok (.invokevirtual 107, 3) := by decide +kernel
theorem dX2_isRest_38 : decode cX2_isRest 38 = .ok (.if_icmp .le 5, 3) := by decide +kernel
theorem dX2_isRest_41 : decode cX2_isRest 41 = .ok (.iconst 0, 1) := by decide +kernel
theorem dX2_isRest_42 : decode cX2_isRest 42 = .ok (.ireturn, 1) := by decide +kernel
theorem dX2_isRest_43 : decode cX2_isRest 43 = .ok (.iinc 3 1, 3) := by decide +kernel
theorem dX2_isRest_46 : decode cX2_isRest 46 = .ok (.goto (-44), 3) := by decide +kernel
theorem dX2_isRest_49 : decode cX2_isRest 49 = .ok (.iconst 1, 1) := by decide +kernel
theorem dX2_isRest_50 : decode cX2_isRest 50 = .ok (.ireturn, 1) := by decide +kernel
theorem dX2_partsOf_0 : decode cX2_partsOf 0 = .ok (.aload_n 0, 1) := by decide +kernel
theorem dX2_partsOf_1 : decode cX2_partsOf 1 = .ok (.getfield 18, 3) := by decide +kernel
theorem dX2_partsOf_4 : decode cX2_partsOf 4 = .ok (.iconst 0, 1) := by decide +kernel
theorem dX2_partsOf_5 : decode cX2_partsOf 5 = .ok (.aaload, 1) := by decide +kernel
theorem dX2_partsOf_6 : decode cX2_partsOf 6 = .ok (.aload_n 1, 1) := by decide +kernel
theorem dX2_partsOf_7 : decode cX2_partsOf 7 = .ok (.invokevirtual 47, 3) := by decide +kernel
theorem dX2_partsOf_10 : decode cX2_partsOf 10 = .ok (.aload_n 0, 1) := by decide +kernel
theorem dX2_partsOf_11 : decode cX2_partsOf 11 = .ok (.iload_n 2, 1) := by decide +kernel
theorem dX2_partsOf_12 : decode cX2_partsOf 12 = .ok (.putfield 26, 3) := by decide +kernel
theorem dX2_partsOf_15 : decode cX2_partsOf 15 = .ok (.aload_n 0, 1) := by decide +kernel
theorem dX2_partsOf_16 : decode cX2_partsOf 16 = .ok (.iload_n 3, 1) := by decide +kernel
theorem dX2_partsOf_17 : decode cX2_partsOf 17 = .ok (.putfield 30, 3) := by decide +kernel
theorem dX2_partsOf_20 : decode cX2_partsOf 20 = .ok (.aload_n 0, 1) := by decide +kernel
theorem dX2_partsOf_21 : decode cX2_partsOf 21 = .ok (.iload 4, 2) := by decide +kernel
theorem dX2_partsOf_23 : decode cX2_partsOf 23 = .ok (.putfield 33, 3) := by decide +kernel
theorem dX2_partsOf_26 : decode cX2_partsOf 26 = .ok (.aload_n 0, 1) := by decide +kernel
theorem dX2_partsOf_27 : decode cX2_partsOf 27 = .ok (.iload 5, 2) := by decide +kernel
theorem dX2_partsOf_29 : decode cX2_partsOf 29 = .ok (.putfield 36, 3) := by decide +kernel
theorem dX2_partsOf_32 : decode cX2_partsOf 32 = .ok (.aload_n 0, 1) := by decide +kernel
theorem dX2_partsOf_33 : decode cX2_partsOf 33 = .ok (.iconst 0, 1) := by decide +kernel
theorem dX2_partsOf_34 : decode cX2_partsOf 34 = .ok (.ldc2_w 110, 3) := by decide +kernel
theorem dX2_partsOf_37 : decode cX2_partsOf 37 = .ok (.invokevirtual 112, 3) := by decide +kernel
theorem dX2_partsOf_40 : decode cX2_partsOf 40 = .ok (.l2i, 1) := by decide +kernel
theorem dX2_partsOf_41 : decode cX2_partsOf 41 = .ok (.ireturn, 1) := by decide +kernel
theorem dX2_partsFrom_0 : decode cX2_partsFrom 0 = .ok (.lload_n 2, 1) := by decide +kernel
theorem dX2_partsFrom_1 : decode cX2_partsFrom 1 = .ok (.lconst 0, 1) := by decide +kernel
theorem dX2_partsFrom_2 : decode cX2_partsFrom 2 = .ok (.lcmp, 1) := by decide +kernel
theorem dX2_partsFrom_3 : decode cX2_partsFrom 3 = .ok (.ifCond .eq 13, 3) := by decide +kernel
theorem dX2_partsFrom_6 : decode cX2_partsFrom 6 = .ok (.iload_n 1, 1) := by decide +kernel
theorem dX2_partsFrom_7 : decode cX2_partsFrom 7 = .ok (.ifCond .lt 9, 3) := by decide +kernel
theorem dX2_partsFrom_10 : decode cX2_partsFrom 10 = .ok (.iload_n 1, 1) := by decide +kernel
theorem dX2_partsFrom_11 : decode cX2_partsFrom 11 = .ok (.bipush 6, 2) := by decide +kernel
theorem dX2_partsFrom_13 : decode cX2_partsFrom 13 = .ok (.if_icmp .le 5, 3) := by decide +kernel
theorem dX2_partsFrom_16 : decode cX2_partsFrom 16 = .ok (.lconst 0, 1) := by decide +kernel
theorem dX2_partsFrom_17 : decode cX2_partsFrom 17 = .ok (.lreturn, 1) := by decide +kernel
theorem dX2_partsFrom_18 : decode cX2_partsFrom 18 = .ok (.aload_n 0, 1) := by decide +kernel
theorem dX2_partsFrom_19 : decode cX2_partsFrom 19 = .ok (.getfield 18, 3) := by decide +kernel
theorem dX2_partsFrom_22 : decode cX2_partsFrom 22 = .ok (.iload_n 1, 1) := by decide +kernel
theorem dX2_partsFrom_23 : decode cX2_partsFrom 23 = .ok (.aaload, 1) := by decide +kernel
theorem dX2_partsFrom_24 : decode cX2_partsFrom 24 = .ok (.astore 4, 2) := by decide +kernel
theorem dX2_partsFrom_26 : decode cX2_partsFrom 26 = .ok (.iload_n 1, 1) := by decide +kernel
theorem dX2_partsFrom_27 : decode cX2_partsFrom 27 = .ok (.aload_n 0, 1) := by decide +kernel
theorem dX2_partsFrom_28 : decode cX2_partsFrom 28 = .ok (.getfield 30, 3) := by decide +kernel
theorem dX2_partsFrom_31 : decode cX2_partsFrom 31 = .ok (.if_icmp .ge 15, 3) := by decide +kernel
theorem dX2_partsFrom_34 : decode cX2_partsFrom 34 = .ok (.aload 4, 2) := by decide +kernel
theorem dX2_partsFrom_36 : decode cX2_partsFrom 36 = .ok (.aload_n 0, 1) := by decide +kernel
theorem dX2_partsFrom_37 : decode cX2_partsFrom 37 = .ok (.getfield 26, 3) := by decide +kernel
theorem dX2_partsFrom_40 : decode cX2_partsFrom 40 = .ok (.invokevirtual 51, 3) := by decide +kernel
theorem dX2_partsFrom_43 : decode cX2_partsFrom 43 = .ok (.ifCond .ne 26, 3) := by decide +kernel
theorem dX2_partsFrom_46 : decode cX2_partsFrom 46 = .ok (.aload 4, 2) := by decide +kernel
theorem dX2_partsFrom_48 : decode cX2_partsFrom 48 = .ok (.aload_n 0, 1) := by decide +kernel
theorem dX2_partsFrom_49 : decode cX2_partsFrom 49 = .ok (.getfield 26, 3) := by decide +kernel
theorem dX2_partsFrom_52 : decode cX2_partsFrom 52 = .ok (.iconst 0, 1) := by decide +kernel
theorem dX2_partsFrom_53 : decode cX2_partsFrom 53 = .ok (.invokevirtual 59, 3) := by decide +kernel
theorem dX2_partsFrom_56 : decode cX2_partsFrom 56 = .ok (.aload_n 0, 1) := by decide +kernel
theorem dX2_partsFrom_57 : decode cX2_partsFrom 57 = .ok (.getfield 33, 3) := by decide +kernel
theorem dX2_partsFrom_60 : decode cX2_partsFrom 60 = .ok (.if_icmp .lt 7, 3) := by decide +kernel
theorem dX2_partsFrom_63 : decode cX2_partsFrom 63 = .ok (.lload_n 2, 1) := by decide +kernel
theorem dX2_partsFrom_64 : decode cX2_partsFrom 64 = .ok (.goto 4, 3) := by decide +kernel
theorem dX2_partsFrom_67 : decode cX2_partsFrom 67 = .ok (.lconst 0, 1) := by decide +kernel
theorem dX2_partsFrom_68 : decode cX2_partsFrom 68 = .ok (.lreturn, 1) := by decide +kernel
theorem dX2_partsFrom_69 : decode cX2_partsFrom 69 = .ok (.aload 4, 2) := by decide +kernel
theorem dX2_partsFrom_71 : decode cX2_partsFrom 71 = .ok (.aload_n 0, 1) := by decide +kernel
theorem dX2_partsFrom_72 : decode cX2_partsFrom 72 = .ok (.getfield 26, 3) := by decide +kernel
theorem dX2_partsFrom_75 : decode cX2_partsFrom 75 = .ok (.bipush 6, 2) := by decide +kernel
theorem dX2_partsFrom_77 : decode cX2_partsFrom 77 = .ok (.invokevirtual 59, 3) := by decide +kernel
theorem dX2_partsFrom_80 : decode cX2_partsFrom 80 = .ok (.iconst 1, 1) := by decide +kernel
theorem dX2_partsFrom_81 : decode cX2_partsFrom 81 = .ok (.if_icmp .ne 7, 3) := by decide +kernel
theorem dX2_partsFrom_84 : decode cX2_partsFrom 84 = .ok (.iconst 1, 1) := by decide +kernel
theorem dX2_partsFrom_85 : decode cX2_partsFrom 85 = .ok (.goto 4, 3) := by decide +kernel
theorem dX2_partsFrom_88 : decode cX2_partsFrom 88 = .ok (.iconst 0, 1) := by decide +kernel
theorem dX2_partsFrom_89 : decode cX2_partsFrom 89 = .ok (.istore 5, 2) := by decide +kernel
theorem dX2_partsFrom_91 : decode cX2_partsFrom 91 = .ok (.iload 5, 2) := by decide +kernel
theorem dX2_partsFrom_93 : decode cX2_partsFrom 93 = .ok (.ifCond .eq 7, 3) := by decide +kernel
theorem dX2_partsFrom_96 : decode cX2_partsFrom 96 = .ok (.lload_n 2, 1) := by decide +kernel
theorem dX2_partsFrom_97 : decode cX2_partsFrom 97 = .ok (.goto 14, 3) := by decide +kernel
theorem dX2_partsFrom_100 : decode cX2_partsFrom 100 = .ok (.lload_n 2, 1) := by decide +kernel
theorem dX2_partsFrom_101 : decode cX2_partsFrom 101 = .ok (.aload_n 0, 1) := by decide +kernel
theorem dX2_partsFrom_102 : decode cX2_partsFrom 102 = .ok (.getfield 36, 3) := by decide +kernel
theorem dX2_partsFrom_105 : decode cX2_partsFrom 105 = .ok (.i2l, 1) := by decide +kernel
theorem dX2_partsFrom_106 : decode cX2_partsFrom 106 = .ok (.lmul, 1) := by decide +kernel
theorem dX2_partsFrom_107 : decode cX2_partsFrom 107 = .ok (.ldc2_w 116, 3) := by decide +kernel
theorem dX2_partsFrom_110 : decode cX2_partsFrom 110 = .ok (.ldiv, 1) := by decide +kernel
theorem dX2_partsFrom_111 : decode cX2_partsFrom 111 = .ok (.lstore 6, 2) := by decide +kernel
theorem dX2_partsFrom_113 : decode cX2_partsFrom 113 = .ok (.aload_n 0, 1) := by decide +kernel
theorem dX2_partsFrom_114 : decode cX2_partsFrom 114 = .ok (.iload_n 1, 1) := by decide +kernel
theorem dX2_partsFrom_115 : decode cX2_partsFrom 115 = .ok (.lload 6, 2) := by decide +kernel
theorem dX2_partsFrom_117 : decode cX2_partsFrom 117 = .ok (.iconst 1, 1) := by decide +kernel
theorem dX2_partsFrom_118 : decode cX2_partsFrom 118 = .ok (.invokevirtual 118, 3) := by decide +kernel
theorem dX2_partsFrom_121 : decode cX2_partsFrom 121 = .ok (.aload_n 0, 1) := by decide +kernel
theorem dX2_partsFrom_122 : decode cX2_partsFrom 122 = .ok (.iload_n 1, 1) := by decide +kernel
theorem dX2_partsFrom_123 : decode cX2_partsFrom 123 = .ok (.lload_n 2, 1) := by decide +kernel
theorem dX2_partsFrom_124 : decode cX2_partsFrom 124 = .ok (.lload 6, 2) := by decide +kernel
theorem dX2_partsFrom_126 : decode cX2_partsFrom 126 = .ok (.lsub, 1) := by decide +kernel
theorem dX2_partsFrom_127 : decode cX2_partsFrom 127 = .ok (.iconst 0, 1) := by decide +kernel
theorem dX2_partsFrom_128 : decode cX2_partsFrom 128 = .ok (.invokevirtual 118, 3) := by decide +kernel
theorem dX2_partsFrom_131 : decode cX2_partsFrom 131 = .ok (.ladd, 1) := by decide +kernel
theorem dX2_partsFrom_132 : decode cX2_partsFrom 132 = .ok (.lreturn, 1) := by decide +kernel
theorem dX2_partsBehindDay_0 : decode cX2_partsBehindDay 0 = .ok (.lload_n 2, 1) := by decide +kernel
theorem dX2_partsBehindDay_1 : decode cX2_partsBehindDay 1 = .ok (.lconst 0, 1) := by decide +kernel
theorem dX2_partsBehindDay_2 : decode cX2_partsBehindDay 2 = .ok (.lcmp, 1) := by decide +kernel
theorem dX2_partsBehindDay_3 : decode cX2_partsBehindDay 3 = .ok (.ifCond .eq 13, 3) := by decide +kernel
theorem dX2_partsBehindDay_6 : decode cX2_partsBehindDay 6 = .ok (.iload_n 1, 1) := by decide +kernel
theorem dX2_partsBehindDay_7 : decode cX2_partsBehindDay 7 = .ok (.ifCond .lt 9, 3) := by decide +kernel
theorem dX2_partsBehindDay_10 : decode cX2_partsBehindDay 10 = .ok (.iload_n 1, 1) := by decide +kernel
theorem dX2_partsBehindDay_11 : decode cX2_partsBehindDay 11 = .ok (.bipush 6, 2) := by decide +kernel
theorem dX2_partsBehindDay_13 : decode cX2_partsBehindDay 13 = .ok (.if_icmp .lt 5, 3) := by decide +kernel
theorem dX2_partsBehindDay_16 : decode cX2_partsBehindDay 16 = .ok (.lconst 0, 1) := by decide +kernel
theorem dX2_partsBehindDay_17 : decode cX2_partsBehindDay 17 = .ok (.lreturn, 1) := by decide +kernel
theorem dX2_partsBehindDay_18 : decode cX2_partsBehindDay 18 = .ok (.aload_n 0, 1) := by decide +kernel
theorem dX2_partsBehindDay_19 : decode cX2_partsBehindDay 19 = .ok (.getfield 18, 3) := by decide +kernel
theorem dX2_partsBehindDay_22 : decode cX2_partsBehindDay 22 = .ok (.iload_n 1, 1) := by decide +kernel
theorem dX2_partsBehindDay_23 : decode cX2_partsBehindDay 23 = .ok (.iconst 1, 1) := by decide +kernel
theorem dX2_partsBehindDay_24 : decode cX2_partsBehindDay 24 = .ok (.iadd, 1) := by decide +kernel
theorem dX2_partsBehindDay_25 : decode cX2_partsBehindDay 25 = .ok (.aaload, 1) := by decide +kernel
theorem dX2_partsBehindDay_26 : decode cX2_partsBehindDay 26 = .ok (.astore 5, 2) := by decide +kernel
theorem dX2_partsBehindDay_28 : decode cX2_partsBehindDay 28 = .ok (.aload 5, 2) := by decide +kernel
theorem dX2_partsBehindDay_30 : decode cX2_partsBehindDay 30 = .ok (.aload_n 0, 1) := by decide +kernel
theorem dX2_partsBehindDay_31 : decode cX2_partsBehindDay 31 = .ok (.getfield 18, 3) := by decide +kernel
theorem dX2_partsBehindDay_34 : decode cX2_partsBehindDay 34 = .ok (.iload_n 1, 1) := by decide +kernel
theorem dX2_partsBehindDay_35 : decode cX2_partsBehindDay 35 = .ok (.aaload, 1) := by decide +kernel
theorem dX2_partsBehindDay_36 : decode cX2_partsBehindDay 36 = .ok (.invokevirtual 47, 3) := by decide +kernel
theorem dX2_partsBehindDay_39 : decode cX2_partsBehindDay 39 = .ok (.aload 5, 2) := by decide +kernel
theorem dX2_partsBehindDay_41 : decode cX2_partsBehindDay 41 = .ok (.aload_n 0, 1) := by decide +kernel
theorem dX2_partsBehindDay_42 : decode cX2_partsBehindDay 42 = .ok (.getfield 26, 3) := by decide +kernel
theorem dX2_partsBehindDay_45 : decode cX2_partsBehindDay 45 = .ok (.bipush 6, 2) := by decide +kernel
theorem dX2_partsBehindDay_47 : decode cX2_partsBehindDay 47 = .ok (.iload 4, 2) := by decide +kernel
theorem dX2_partsBehindDay_49 : decode cX2_partsBehindDay 49 = .ok (.invokevirtual 86, 3) := by decide +kernel
theorem dX2_partsBehindDay_52 : decode cX2_partsBehindDay 52 = .ok (.aload 5, 2) := by decide +kernel
theorem dX2_partsBehindDay_54 : decode cX2_partsBehindDay 54 = .ok (.aload_n 0, 1) := by decide +kernel
theorem dX2_partsBehindDay_55 : decode cX2_partsBehindDay 55 = .ok (.getfield 39, 3) := by decide +kernel
theorem dX2_partsBehindDay_58 : decode cX2_partsBehindDay 58 = .ok (.aload_n 0, 1) := by decide +kernel
theorem dX2_partsBehindDay_59 : decode cX2_partsBehindDay 59 = .ok (.getfield 43, 3) := by decide +kernel
theorem dX2_partsBehindDay_62 : decode cX2_partsBehindDay 62 = .ok (.invokevirtual 55, 3) := by decide +kernel
theorem dX2_partsBehindDay_65 : decode cX2_partsBehindDay 65 = .ok (.aload_n 0, 1) := by decide +kernel
theorem dX2_partsBehindDay_66 : decode cX2_partsBehindDay 66 = .ok (.iload_n 1, 1) := by decide +kernel
theorem dX2_partsBehindDay_67 : decode cX2_partsBehindDay 67 = .ok (.iconst 1, 1) := by decide +kernel
theorem dX2_partsBehindDay_68 : decode cX2_partsBehindDay 68 = .ok (.iadd, 1) := by decide +kernel
theorem dX2_partsBehindDay_69 : decode cX2_partsBehindDay 69 = .ok (.lload_n 2, 1) := by decide +kernel
theorem dX2_partsBehindDay_70 : decode cX2_partsBehindDay 70 = .ok (.invokevirtual 112, 3) := by decide +kernel
theorem dX2_partsBehindDay_73 : decode cX2_partsBehindDay 73 = .ok (.lreturn, 1) := by decide +kernel
theorem dX3_copyTo_0 : decode cX3_copyTo 0 = .ok (.aload_n 0, 1) := by decide +kernel
theorem dX3_copyTo_1 : decode cX3_copyTo 1 = .ok (.getfield 15, 3) := by decide +kernel
theorem dX3_copyTo_4 : decode cX3_copyTo 4 = .ok (.aload_n 1, 1) := by decide +kernel
theorem dX3_copyTo_5 : decode cX3_copyTo 5 = .ok (.arraylength, 1) := by decide +kernel
theorem dX3_copyTo_6 : decode cX3_copyTo 6 = .ok (.invokestatic 23, 3) := by decide +kernel
theorem dX3_copyTo_9 : decode cX3_copyTo 9 = .ok (.istore_n 2, 1) := by decide +kernel
theorem dX3_copyTo_10 : decode cX3_copyTo 10 = .ok (.aload_n 0, 1) := by decide +kernel
theorem dX3_copyTo_11 : decode cX3_copyTo 11 = .ok (.getfield 11, 3) := by decide +kernel
theorem dX3_copyTo_14 : decode cX3_copyTo 14 = .ok (.iconst 0, 1) := by decide +kernel
theorem dX3_copyTo_15 : decode cX3_copyTo 15 = .ok (.aload_n 1, 1) := by decide +kernel
theorem dX3_copyTo_16 : decode cX3_copyTo 16 = .ok (.iconst 0, 1) := by decide +kernel
theorem dX3_copyTo_17 : decode cX3_copyTo 17 = .ok (.iload_n 2, 1) := by decide +kernel
theorem dX3_copyTo_18 : decode cX3_copyTo 18 = .ok (.invokestatic 29, 3) := by decide +kernel
theorem dX3_copyTo_21 : decode cX3_copyTo 21 = .ok (.iload_n 2, 1) := by decide +kernel
theorem dX3_copyTo_22 : decode cX3_copyTo 22 = .ok (.ireturn, 1) := by decide +kernel
theorem dX3_read_0 : decode cX3_read 0 = .ok (.aload_n 0, 1) := by decide +kernel
theorem dX3_read_1 : decode cX3_read 1 = .ok (.getfield 19, 3) := by decide +kernel
theorem dX3_read_4 : decode cX3_read 4 = .ok (.invokevirtual 35, 3) := by decide +kernel
theorem dX3_read_7 : decode cX3_read 7 = .ok (.aload_n 0, 1) := by decide +kernel
theorem dX3_read_8 : decode cX3_read 8 = .ok (.iconst 0, 1) := by decide +kernel
theorem dX3_read_9 : decode cX3_read 9 = .ok (.putfield 15, 3) := by decide +kernel
theorem dX3_read_12 : decode cX3_read 12 = .ok (.iconst 0, 1) := by decide +kernel
theorem dX3_read_13 : decode cX3_read 13 = .ok (.istore_n 1, 1) := by decide +kernel
theorem dX3_read_14 : decode cX3_read 14 = .ok (.iload_n 1, 1) := by decide +kernel
theorem dX3_read_15 : decode cX3_read 15 = .ok (.sipush 240, 3) := by decide +kernel
theorem dX3_read_18 : decode cX3_read 18 = .ok (.if_icmp .gt 57, 3) := by decide +kernel
theorem dX3_read_21 : decode cX3_read 21 = .ok (.aload_n 0, 1) := by decide +kernel
theorem dX3_read_22 : decode cX3_read 22 = .ok (.invokevirtual 40, 3) := by decide +kernel
theorem dX3_read_25 : decode cX3_read 25 = .ok (.ifCond .ne 11, 3) := by decide +kernel
theorem dX3_read_28 : decode cX3_read 28 = .ok (.aload_n 0, 1) := by decide +kernel
theorem dX3_read_29 : decode cX3_read 29 = .ok (.getfield 19, 3) := by decide +kernel
theorem dX3_read_32 : decode cX3_read 32 = .ok (.invokevirtual 44, 3) := by decide +kernel
theorem dX3_read_35 : decode cX3_read 35 = .ok (.ireturn, 1) := by decide +kernel
theorem dX3_read_36 : decode cX3_read 36 = .ok (.aload_n 0, 1) := by decide +kernel
theorem dX3_read_37 : decode cX3_read 37 = .ok (.getfield 19, 3) := by decide +kernel
theorem dX3_read_40 : decode cX3_read 40 = .ok (.invokevirtual 48, 3) := by decide +kernel
theorem dX3_read_43 : decode cX3_read 43 = .ok (.iconst (-1), 1) := by decide +kernel
theorem dX3_read_44 : decode cX3_read 44 = .ok (.if_icmp .ne 5, 3) := by decide +kernel
theorem dX3_read_47 : decode cX3_read 47 = .ok (.iconst (-1), 1) := by decide +kernel
theorem dX3_read_48 : decode cX3_read 48 = .ok (.ireturn, 1) := by decide +kernel
theorem dX3_read_49 : decode cX3_read 49 = .ok (.aload_n 0, 1) := by decide +kernel
theorem dX3_read_50 : decode cX3_read 50 = .ok (.getfield 19, 3) := by decide +kernel
theorem dX3_read_53 : decode cX3_read 53 = .ok (.bipush 59, 2) := by decide +kernel
theorem dX3_read_55 : decode cX3_read 55 = .ok (.invokevirtual 51, 3) := by decide +kernel
theorem dX3_read_58 : decode cX3_read 58 = .ok (.ifCond .ne 11, 3) := by decide +kernel
theorem dX3_read_61 : decode cX3_read 61 = .ok (.aload_n 0, 1) := by decide +kernel
theorem dX3_read_62 : decode cX3_read 62 = .ok (.getfield 19, 3) := by decide +kernel
theorem dX3_read_65 : decode cX3_read 65 = .ok (.invokevirtual 44, 3) := by decide +kernel
theorem dX3_read_68 : decode cX3_read 68 = .ok (.ireturn, 1) := by decide +kernel
theorem dX3_read_69 : decode cX3_read 69 = .ok (.iinc 1 1, 3) := by decide +kernel
theorem dX3_read_72 : decode cX3_read 72 = .ok (.goto (-58), 3) := by decide +kernel
theorem dX3_read_75 : decode cX3_read 75 = .ok (.aload_n 0, 1) := by decide +kernel
theorem dX3_read_76 : decode cX3_read 76 = .ok (.getfield 19, 3) := by decide +kernel
theorem dX3_read_79 : decode cX3_read 79 = .ok (.invokevirtual 55, 3) := by decide +kernel
theorem dX3_read_82 : decode cX3_read 82 = .ok (.ireturn, 1) := by decide +kernel
theorem dX3_write_0 : decode cX3_write 0 = .ok (.aload_n 0, 1) := by decide +kernel
theorem dX3_write_1 : decode cX3_write 1 = .ok (.getfield 15, 3) := by decide +kernel
theorem dX3_write_4 : decode cX3_write 4 = .ok (.sipush 256, 3) := by decide +kernel
theorem dX3_write_7 : decode cX3_write 7 = .ok (.if_icmp .ge 28, 3) := by decide +kernel
theorem dX3_write_10 : decode cX3_write 10 = .ok (.aload_n 0, 1) := by decide +kernel
theorem dX3_write_11 : decode cX3_write 11 = .ok (.getfield 11, 3) := by decide +kernel
theorem dX3_write_14 : decode cX3_write 14 = .ok (.aload_n 0, 1) := by decide +kernel
theorem dX3_write_15 : decode cX3_write 15 = .ok (.getfield 15, 3) := by decide +kernel
theorem dX3_write_18 : decode cX3_write 18 = .ok (.iload_n 2, 1) := by decide +kernel
theorem dX3_write_19 : decode cX3_write 19 = .ok (.bipush 16, 2) := by decide +kernel
theorem dX3_write_21 : decode cX3_write 21 = .ok (.imul, 1) := by decide +kernel
theorem dX3_write_22 : decode cX3_write 22 = .ok (.iload_n 1, 1) := by decide +kernel
theorem dX3_write_23 : decode cX3_write 23 = .ok (.iadd, 1) := by decide +kernel
theorem dX3_write_24 : decode cX3_write 24 = .ok (.iastore, 1) := by decide +kernel
theorem dX3_write_25 : decode cX3_write 25 = .ok (.aload_n 0, 1) := by decide +kernel
theorem dX3_write_26 : decode cX3_write 26 = .ok (.dup, 1) := by decide +kernel
theorem dX3_write_27 : decode cX3_write 27 = .ok (.getfield 15, 3) := by decide +kernel
theorem dX3_write_30 : decode cX3_write 30 = .ok (.iconst 1, 1) := by decide +kernel
theorem dX3_write_31 : decode cX3_write 31 = .ok (.iadd, 1) := by decide +kernel
theorem dX3_write_32 : decode cX3_write 32 = .ok (.putfield 15, 3) := by decide +kernel
theorem dX3_write_35 : decode cX3_write 35 = .ok (.return_, 1) := by decide +kernel
theorem dX3_readClause_0 : decode cX3_readClause 0 = .ok (.aload_n 0, 1) := by decide +kernel
theorem dX3_readClause_1 : decode cX3_readClause 1 = .ok (.getfield 19, 3) := by decide +kernel
theorem dX3_readClause_4 : decode cX3_readClause 4 = .ok (.bipush 121, 2) := by decide +kernel
theorem dX3_readClause_6 : decode cX3_readClause 6 = .ok (.invokevirtual 51, 3) := by decide +kernel
theorem dX3_readClause_9 : decode cX3_readClause 9 = .ok (.ifCond .eq 15, 3) := by decide +kernel
theorem dX3_readClause_12 : decode cX3_readClause 12 = .ok (.aload_n 0, 1) := by decide +kernel
theorem dX3_readClause_13 : decode cX3_readClause 13 = .ok (.getfield 19, 3) := by decide +kernel
theorem dX3_readClause_16 : decode cX3_readClause 16 = .ok (.bipush 58, 2) := by decide +kernel
theorem dX3_readClause_18 : decode cX3_readClause 18 = .ok (.invokevirtual 51, 3) := by decide +kernel
theorem dX3_readClause_21 : decode cX3_readClause 21 = .ok (.ifCond .ne 5, 3) := by decide +kernel
theorem dX3_readClause_24 : decode cX3_readClause 24 = .ok (.iconst 0, 1) := by decide +kernel
theorem dX3_readClause_25 : decode cX3_readClause 25 = .ok (.ireturn, 1) := by decide +kernel
theorem dX3_readClause_26 : decode cX3_readClause 26 = .ok (.aload_n 0, 1) := by decide +kernel
theorem dX3_readClause_27 : decode cX3_readClause 27 = .ok (.getfield 19, 3) := by decide +kernel
theorem dX3_readClause_30 : decode cX3_readClause 30 = .ok (.invokevirtual 48, 3) := by decide +kernel
theorem dX3_readClause_33 : decode cX3_readClause 33 = .ok (.istore_n 1, 1) := by decide +kernel
theorem dX3_readClause_34 : decode cX3_readClause 34 = .ok (.iload_n 1, 1) := by decide +kernel
theorem dX3_readClause_35 : decode cX3_readClause 35 = .ok (.bipush 33, 2) := by decide +kernel
theorem dX3_readClause_37 : decode cX3_readClause 37 = .ok (.if_icmp .eq 13, 3) := by decide +kernel
theorem dX3_readClause_40 : decode cX3_readClause 40 = .ok (.iload_n 1, 1) := by decide +kernel
theorem dX3_readClause_41 : decode cX3_readClause 41 = .ok (.bipush 40, 2) := by decide +kernel
theorem dX3_readClause_43 : decode cX3_readClause 43 = .ok (.if_icmp .eq 7, 3) := by decide +kernel
theorem dX3_readClause_46 : decode cX3_readClause 46 = .ok (.iconst 1, 1) := by decide +kernel
theorem dX3_readClause_47 : decode cX3_readClause 47 = .ok (.goto 4, 3) := by decide +kernel
theorem dX3_readClause_50 : decode cX3_readClause 50 = .ok (.iconst 0, 1) := by decide +kernel
theorem dX3_readClause_51 : decode cX3_readClause 51 = .ok (.istore_n 2, 1) := by decide +kernel
theorem dX3_readClause_52 : decode cX3_readClause 52 = .ok (.iload_n 2, 1) := by decide +kernel
theorem dX3_readClause_53 : decode cX3_readClause 53 = .ok (.ifCond .eq 36, 3) := by decide +kernel
theorem dX3_readClause_56 : decode cX3_readClause 56 = .ok (.aload_n 0, 1) := by decide +kernel
theorem dX3_readClause_57 : decode cX3_readClause 57 = .ok (.iconst 0, 1) := by decide +kernel
theorem dX3_readClause_58 : decode cX3_readClause 58 = .ok (.invokevirtual 59, 3) := by decide +kernel
theorem dX3_readClause_61 : decode cX3_readClause 61 = .ok (.ifCond .ne 5, 3) := by decide +kernel
theorem dX3_readClause_64 : decode cX3_readClause 64 = .ok (.iconst 0, 1) := by decide +kernel
theorem dX3_readClause_65 : decode cX3_readClause 65 = .ok (.ireturn, 1) := by decide +kernel
theorem dX3_readClause_66 : decode cX3_readClause 66 = .ok (.aload_n 0, 1) := by decide +kernel
theorem dX3_readClause_67 : decode cX3_readClause 67 = .ok (.getfield 19, 3) := by decide +kernel
theorem dX3_readClause_70 : decode cX3_readClause 70 = .ok (.invokevirtual 48, 3) := by decide +kernel
theorem dX3_readClause_73 : decode cX3_readClause 73 = .ok (.invokestatic 62, 3) := by decide +kernel
theorem dX3_readClause_76 : decode cX3_readClause 76 = .ok (.iconst (-1), 1) := by decide +kernel
theorem dX3_readClause_77 : decode cX3_readClause 77 = .ok (.if_icmp .ne 12, 3) := by decide +kernel
theorem dX3_readClause_80 : decode cX3_readClause 80 = .ok (.aload_n 0, 1) := by decide +kernel
theorem dX3_readClause_81 : decode cX3_readClause 81 = .ok (.bipush 13, 2) := by decide +kernel
theorem dX3_readClause_83 : decode cX3_readClause 83 = .ok (.iconst 0, 1) := by decide +kernel
theorem dX3_readClause_84 : decode cX3_readClause 84 = .ok (.invokevirtual 66, 3) := by decide +kernel
theorem dX3_readClause_87 : decode cX3_readClause 87 = .ok (.iconst 1, 1) := by decide +kernel
theorem dX3_readClause_88 : decode cX3_readClause 88 = .ok (.ireturn, 1) := by decide +kernel
theorem dX3_readClause_89 : decode cX3_readClause 89 = .ok (.aload_n 0, 1) := by decide +kernel
theorem dX3_readClause_90 : decode cX3_readClause 90 = .ok (.iconst 0, 1) := by decide +kernel
theorem dX3_readClause_91 : decode cX3_readClause 91 = .ok (.iload_n 2, 1) := by decide +kernel
theorem dX3_readClause_92 : decode cX3_readClause 92 = .ok (.invokevirtual 70, 3) := by decide +kernel
theorem dX3_readClause_95 : decode cX3_readClause 95 = .ok (.ifCond .eq 15, 3) := by decide +kernel
theorem dX3_readClause_98 : decode cX3_readClause 98 = .ok (.aload_n 0, 1) := by decide +kernel
theorem dX3_readClause_99 : decode cX3_readClause 99 = .ok (.getfield 19, 3) := by decide +kernel
theorem dX3_readClause_102 : decode cX3_readClause 102 = .ok (.bipush 63, 2) := by decide +kernel
theorem dX3_readClause_104 : decode cX3_readClause 104 = .ok (.invokevirtual 51, 3) := by decide +kernel
theorem dX3_readClause_107 : decode cX3_readClause 107 = .ok (.ifCond .ne 5, 3) := by decide +kernel
theorem dX3_readClause_110 : decode cX3_readClause 110 = .ok (.iconst 0, 1) := by decide +kernel
theorem dX3_readClause_111 : decode cX3_readClause 111 = .ok (.ireturn, 1) := by decide +kernel
theorem dX3_readClause_112 : decode cX3_readClause 112 = .ok (.aload_n 0, 1) := by decide +kernel
theorem dX3_readClause_113 : decode cX3_readClause 113 = .ok (.getfield 15, 3) := by decide +kernel
theorem dX3_readClause_116 : decode cX3_readClause 116 = .ok (.istore_n 3, 1) := by decide +kernel
theorem dX3_readClause_117 : decode cX3_readClause 117 = .ok (.aload_n 0, 1) := by decide +kernel
theorem dX3_readClause_118 : decode cX3_readClause 118 = .ok (.bipush 12, 2) := by decide +kernel
theorem dX3_readClause_120 : decode cX3_readClause 120 = .ok (.iconst 0, 1) := by decide +kernel
theorem dX3_readClause_121 : decode cX3_readClause 121 = .ok (.invokevirtual 66, 3) := by decide +kernel
theorem dX3_readClause_124 : decode cX3_readClause 124 = .ok (.aload_n 0, 1) := by decide +kernel
theorem dX3_readClause_125 : decode cX3_readClause 125 = .ok (.iconst 0, 1) := by decide +kernel
theorem dX3_readClause_126 : decode cX3_readClause 126 = .ok (.invokevirtual 59, 3) := by decide +kernel
theorem dX3_readClause_129 : decode cX3_readClause 129 = .ok (.ifCond .ne 5, 3) := by decide +kernel
theorem dX3_readClause_132 : decode cX3_readClause 132 = .ok (.iconst 0, 1) := by decide +kernel
theorem dX3_readClause_133 : decode cX3_readClause 133 = .ok (.ireturn, 1) := by decide +kernel
theorem dX3_readClause_134 : decode cX3_readClause 134 = .ok (.aload_n 0, 1) := by decide +kernel
theorem dX3_readClause_135 : decode cX3_readClause 135 = .ok (.bipush 13, 2) := by decide +kernel
theorem dX3_readClause_137 : decode cX3_readClause 137 = .ok (.iconst 0, 1) := by decide +kernel
theorem dX3_readClause_138 : decode cX3_readClause 138 = .ok (.invokevirtual 66, 3) := by decide +kernel
theorem dX3_readClause_141 : decode cX3_readClause 141 = .ok (.iload_n 3, 1) := by decide +kernel
theorem dX3_readClause_142 : decode cX3_readClause 142 = .ok (.sipush 256, 3) := by decide +kernel
theorem dX3_readClause_145 : decode cX3_readClause 145 = .ok (.if_icmp .ge 19, 3) := by decide +kernel
theorem dX3_readClause_148 : decode cX3_readClause 148 = .ok (.aload_n 0, 1) := by decide +kernel
theorem dX3_readClause_149 : decode cX3_readClause 149 = .ok (.getfield 11, 3) := by decide +kernel
theorem dX3_readClause_152 : decode cX3_readClause 152 = .ok (.iload_n 3, 1) := by decide +kernel
theorem dX3_readClause_153 : decode cX3_readClause 153 = .ok (.aload_n 0, 1) := by decide +kernel
theorem dX3_readClause_154 : decode cX3_readClause 154 = .ok (.getfield 15, 3) := by decide +kernel
theorem dX3_readClause_157 : decode cX3_readClause 157 = .ok (.bipush 16, 2) := by decide +kernel
theorem dX3_readClause_159 : decode cX3_readClause 159 = .ok (.imul, 1) := by decide +kernel
theorem dX3_readClause_160 : decode cX3_readClause 160 = .ok (.bipush 12, 2) := by decide +kernel
theorem dX3_readClause_162 : decode cX3_readClause 162 = .ok (.iadd, 1) := by decide +kernel
theorem dX3_readClause_163 : decode cX3_readClause 163 = .ok (.iastore, 1) := by decide +kernel
theorem dX3_readClause_164 : decode cX3_readClause 164 = .ok (.iconst 1, 1) := by decide +kernel
theorem dX3_readClause_165 : decode cX3_readClause 165 = .ok (.ireturn, 1) := by decide +kernel
theorem dX3_readCondition_0 : decode cX3_readCondition 0 = .ok (.aload_n 0, 1) := by decide +kernel
theorem dX3_readCondition_1 : decode cX3_readCondition 1 = .ok (.iload_n 1, 1) := by decide +kernel
theorem dX3_readCondition_2 : decode cX3_readCondition 2 = .ok (.iload_n 2, 1) := by decide +kernel
theorem dX3_readCondition_3 : decode cX3_readCondition 3 = .ok (.invokevirtual 74, 3) := by decide +kernel
theorem dX3_readCondition_6 : decode cX3_readCondition 6 = .ok (.ifCond .ne 5, 3) := by decide +kernel
theorem dX3_readCondition_9 : decode cX3_readCondition 9 = .ok (.iconst 0, 1) := by decide +kernel
theorem dX3_readCondition_10 : decode cX3_readCondition 10 = .ok (.ireturn, 1) := by decide +kernel
theorem dX3_readCondition_11 : decode cX3_readCondition 11 = .ok (.iconst 0, 1) := by decide +kernel
theorem dX3_readCondition_12 : decode cX3_readCondition 12 = .ok (.istore_n 3, 1) := by decide +kernel
theorem dX3_readCondition_13 : decode cX3_readCondition 13 = .ok (.iload_n 3, 1) := by decide +kernel
theorem dX3_readCondition_14 : decode cX3_readCondition 14 = .ok (.sipush 240, 3) := by decide +kernel
theorem dX3_readCondition_17 : decode cX3_readCondition 17 = .ok (.if_icmp .ge 46, 3) := by decide +kernel
theorem dX3_readCondition_20 : decode cX3_readCondition 20 = .ok (.aload_n 0, 1) := by decide +kernel
theorem dX3_readCondition_21 : decode cX3_readCondition 21 = .ok (.getfield 19, 3) := by decide +kernel
theorem dX3_readCondition_24 : decode cX3_readCondition 24 = .ok (.invokevirtual 48, 3) := by decide +kernel
theorem dX3_readCondition_27 : decode cX3_readCondition 27 = .ok (.bipush 124, 2) := by decide +kernel
theorem dX3_readCondition_29 : decode cX3_readCondition 29 = .ok (.if_icmp .ne 34, 3) := by decide +kernel
theorem dX3_readCondition_32 : decode cX3_readCondition 32 = .ok (.aload_n 0, 1) := by decide +kernel
theorem dX3_readCondition_33 : decode cX3_readCondition 33 = .ok (.getfield 19, 3) := by decide +kernel
theorem dX3_readCondition_36 : decode cX3_readCondition 36 = .ok (.invokevirtual 77, 3) := by decide +kernel
theorem dX3_readCondition_39 : decode cX3_readCondition 39 = .ok (.aload_n 0, 1) := by decide +kernel
theorem dX3_readCondition_40 : decode cX3_readCondition 40 = .ok (.iload_n 1, 1) := by decide +kernel
theorem dX3_readCondition_41 : decode cX3_readCondition 41 = .ok (.iconst 0, 1) := by decide +kernel
theorem dX3_readCondition_42 : decode cX3_readCondition 42 = .ok (.invokevirtual 74, 3) := by decide +kernel
theorem dX3_readCondition_45 : decode cX3_readCondition 45 = .ok (.ifCond .ne 5, 3) := by decide +kernel
theorem dX3_readCondition_48 : decode cX3_readCondition 48 = .ok (.iconst 0, 1) := by decide +kernel
theorem dX3_readCondition_49 : decode cX3_readCondition 49 = .ok (.ireturn, 1) := by decide +kernel
theorem dX3_readCondition_50 : decode cX3_readCondition 50 = .ok (.aload_n 0, 1) := by decide +kernel
theorem dX3_readCondition_51 : decode cX3_readCondition 51 = .ok (.bipush 11, 2) := by decide +kernel
theorem dX3_readCondition_53 : decode cX3_readCondition 53 = .ok (.iconst 0, 1) := by decide +kernel
theorem dX3_readCondition_54 : decode cX3_readCondition 54 = .ok (.invokevirtual 66, 3) := by decide +kernel
theorem dX3_readCondition_57 : decode cX3_readCondition 57 = .ok (.iinc 3 1, 3) := by decide +kernel
theorem dX3_readCondition_60 : decode cX3_readCondition 60 = .ok (.goto (-47), 3) := by decide +kernel
theorem dX3_readCondition_63 : decode cX3_readCondition 63 = .ok (.iconst 1, 1) := by decide +kernel
theorem dX3_readCondition_64 : decode cX3_readCondition 64 = .ok (.ireturn, 1) := by decide +kernel
theorem dX3_readTruth_0 : decode cX3_readTruth 0 = .ok (.aload_n 0, 1) := by decide +kernel
theorem dX3_readTruth_1 : decode cX3_readTruth 1 = .ok (.iload_n 1, 1) := by decide +kernel
theorem dX3_readTruth_2 : decode cX3_readTruth 2 = .ok (.iload_n 2, 1) := by decide +kernel
theorem dX3_readTruth_3 : decode cX3_readTruth 3 = .ok (.invokevirtual 80, 3) := by decide +kernel
theorem dX3_readTruth_6 : decode cX3_readTruth 6 = .ok (.ifCond .ne 5, 3) := by decide +kernel
theorem dX3_readTruth_9 : decode cX3_readTruth 9 = .ok (.iconst 0, 1) := by decide +kernel
theorem dX3_readTruth_10 : decode cX3_readTruth 10 = .ok (.ireturn, 1) := by decide +kernel
theorem dX3_readTruth_11 : decode cX3_readTruth 11 = .ok (.iconst 0, 1) := by decide +kernel
theorem dX3_readTruth_12 : decode cX3_readTruth 12 = .ok (.istore_n 3, 1) := by decide +kernel
theorem dX3_readTruth_13 : decode cX3_readTruth 13 = .ok (.iload_n 3, 1) := by decide +kernel
theorem dX3_readTruth_14 : decode cX3_readTruth 14 = .ok (.sipush 240, 3) := by decide +kernel
theorem dX3_readTruth_17 : decode cX3_readTruth 17 = .ok (.if_icmp .ge 46, 3) := by decide +kernel
theorem dX3_readTruth_20 : decode cX3_readTruth 20 = .ok (.aload_n 0, 1) := by decide +kernel
theorem dX3_readTruth_21 : decode cX3_readTruth 21 = .ok (.getfield 19, 3) := by decide +kernel
theorem dX3_readTruth_24 : decode cX3_readTruth 24 = .ok (.invokevirtual 48, 3) := by decide +kernel
theorem dX3_readTruth_27 : decode cX3_readTruth 27 = .ok (.bipush 38, 2) := by decide +kernel
theorem dX3_readTruth_29 : decode cX3_readTruth 29 = .ok (.if_icmp .ne 34, 3) := by decide +kernel
theorem dX3_readTruth_32 : decode cX3_readTruth 32 = .ok (.aload_n 0, 1) := by decide +kernel
theorem dX3_readTruth_33 : decode cX3_readTruth 33 = .ok (.getfield 19, 3) := by decide +kernel
theorem dX3_readTruth_36 : decode cX3_readTruth 36 = .ok (.invokevirtual 77, 3) := by decide +kernel
theorem dX3_readTruth_39 : decode cX3_readTruth 39 = .ok (.aload_n 0, 1) := by decide +kernel
theorem dX3_readTruth_40 : decode cX3_readTruth 40 = .ok (.iload_n 1, 1) := by decide +kernel
theorem dX3_readTruth_41 : decode cX3_readTruth 41 = .ok (.iconst 0, 1) := by decide +kernel
theorem dX3_readTruth_42 : decode cX3_readTruth 42 = .ok (.invokevirtual 80, 3) := by decide +kernel
theorem dX3_readTruth_45 : decode cX3_readTruth 45 = .ok (.ifCond .ne 5, 3) := by decide +kernel
theorem dX3_readTruth_48 : decode cX3_readTruth 48 = .ok (.iconst 0, 1) := by decide +kernel
theorem dX3_readTruth_49 : decode cX3_readTruth 49 = .ok (.ireturn, 1) := by decide +kernel
theorem dX3_readTruth_50 : decode cX3_readTruth 50 = .ok (.aload_n 0, 1) := by decide +kernel
theorem dX3_readTruth_51 : decode cX3_readTruth 51 = .ok (.bipush 10, 2) := by decide +kernel
theorem dX3_readTruth_53 : decode cX3_readTruth 53 = .ok (.iconst 0, 1) := by decide +kernel
theorem dX3_readTruth_54 : decode cX3_readTruth 54 = .ok (.invokevirtual 66, 3) := by decide +kernel
theorem dX3_readTruth_57 : decode cX3_readTruth 57 = .ok (.iinc 3 1, 3) := by decide +kernel
theorem dX3_readTruth_60 : decode cX3_readTruth 60 = .ok (.goto (-47), 3) := by decide +kernel
theorem dX3_readTruth_63 : decode cX3_readTruth 63 = .ok (.iconst 1, 1) := by decide +kernel
theorem dX3_readTruth_64 : decode cX3_readTruth 64 = .ok (.ireturn, 1) := by decide +kernel
theorem dX3_readUnit_0 : decode cX3_readUnit 0 = .ok (.aload_n 0, 1) := by decide +kernel
theorem dX3_readUnit_1 : decode cX3_readUnit 1 = .ok (.getfield 19, 3) := by decide +kernel
theorem dX3_readUnit_4 : decode cX3_readUnit 4 = .ok (.invokevirtual 48, 3) := by decide +kernel
theorem dX3_readUnit_7 : decode cX3_readUnit 7 = .ok (.istore_n 3, 1) := by decide +kernel
theorem dX3_readUnit_8 : decode cX3_readUnit 8 = .ok (.iload_n 2, 1) := by decide +kernel
theorem dX3_readUnit_9 : decode cX3_readUnit 9 = .ok (.ifCond .ne 93, 3) := by decide +kernel
theorem dX3_readUnit_12 : decode cX3_readUnit 12 = .ok (.iload_n 3, 1) := by decide +kernel
theorem dX3_readUnit_13 : decode cX3_readUnit 13 = .ok (.bipush 33, 2) := by decide +kernel
theorem dX3_readUnit_15 : decode cX3_readUnit 15 = .ok (.if_icmp .eq 9, 3) := by decide +kernel
theorem dX3_readUnit_18 : decode cX3_readUnit 18 = .ok (.iload_n 3, 1) := by decide +kernel
theorem dX3_readUnit_19 : decode cX3_readUnit 19 = .ok (.bipush 40, 2) := by decide +kernel
theorem dX3_readUnit_21 : decode cX3_readUnit 21 = .ok (.if_icmp .ne 81, 3) := by decide +kernel
theorem dX3_readUnit_24 : decode cX3_readUnit 24 = .ok (.iload_n 1, 1) := by decide +kernel
theorem dX3_readUnit_25 : decode cX3_readUnit 25 = .ok (.bipush 6, 2) := by decide +kernel
theorem dX3_readUnit_27 : decode cX3_readUnit 27 = .ok (.if_icmp .lt 11, 3) := by decide +kernel
theorem dX3_readUnit_30 : decode cX3_readUnit 30 = .ok (.aload_n 0, 1) := by decide +kernel
theorem dX3_readUnit_31 : decode cX3_readUnit 31 = .ok (.getfield 19, 3) := by decide +kernel
theorem dX3_readUnit_34 : decode cX3_readUnit 34 = .ok (.invokevirtual 83, 3) := by decide +kernel
theorem dX3_readUnit_37 : decode cX3_readUnit 37 = .ok (.ireturn, 1) := by decide +kernel
theorem dX3_readUnit_38 : decode cX3_readUnit 38 = .ok (.aload_n 0, 1) := by decide +kernel
theorem dX3_readUnit_39 : decode cX3_readUnit 39 = .ok (.getfield 19, 3) := by decide +kernel
theorem dX3_readUnit_42 : decode cX3_readUnit 42 = .ok (.invokevirtual 77, 3) := by decide +kernel
theorem dX3_readUnit_45 : decode cX3_readUnit 45 = .ok (.iload_n 3, 1) := by decide +kernel
theorem dX3_readUnit_46 : decode cX3_readUnit 46 = .ok (.bipush 40, 2) := by decide +kernel
theorem dX3_readUnit_48 : decode cX3_readUnit 48 = .ok (.if_icmp .ne 32, 3) := by decide +kernel
theorem dX3_readUnit_51 : decode cX3_readUnit 51 = .ok (.aload_n 0, 1) := by decide +kernel
theorem dX3_readUnit_52 : decode cX3_readUnit 52 = .ok (.iload_n 1, 1) := by decide +kernel
theorem dX3_readUnit_53 : decode cX3_readUnit 53 = .ok (.iconst 1, 1) := by decide +kernel
theorem dX3_readUnit_54 : decode cX3_readUnit 54 = .ok (.iadd, 1) := by decide +kernel
theorem dX3_readUnit_55 : decode cX3_readUnit 55 = .ok (.iconst 0, 1) := by decide +kernel
theorem dX3_readUnit_56 : decode cX3_readUnit 56 = .ok (.invokevirtual 70, 3) := by decide +kernel
theorem dX3_readUnit_59 : decode cX3_readUnit 59 = .ok (.ifCond .eq 19, 3) := by decide +kernel
theorem dX3_readUnit_62 : decode cX3_readUnit 62 = .ok (.aload_n 0, 1) := by decide +kernel
theorem dX3_readUnit_63 : decode cX3_readUnit 63 = .ok (.getfield 19, 3) := by decide +kernel
theorem dX3_readUnit_66 : decode cX3_readUnit 66 = .ok (.bipush 41, 2) := by decide +kernel
theorem dX3_readUnit_68 : decode cX3_readUnit 68 = .ok (.invokevirtual 51, 3) := by decide +kernel
theorem dX3_readUnit_71 : decode cX3_readUnit 71 = .ok (.ifCond .eq 7, 3) := by decide +kernel
theorem dX3_readUnit_74 : decode cX3_readUnit 74 = .ok (.iconst 1, 1) := by decide +kernel
theorem dX3_readUnit_75 : decode cX3_readUnit 75 = .ok (.goto 4, 3) := by decide +kernel
theorem dX3_readUnit_78 : decode cX3_readUnit 78 = .ok (.iconst 0, 1) := by decide +kernel
theorem dX3_readUnit_79 : decode cX3_readUnit 79 = .ok (.ireturn, 1) := by decide +kernel
theorem dX3_readUnit_80 : decode cX3_readUnit 80 = .ok (.aload_n 0, 1) := by decide +kernel
theorem dX3_readUnit_81 : decode cX3_readUnit 81 = .ok (.iload_n 1, 1) := by decide +kernel
theorem dX3_readUnit_82 : decode cX3_readUnit 82 = .ok (.iconst 1, 1) := by decide +kernel
theorem dX3_readUnit_83 : decode cX3_readUnit 83 = .ok (.iadd, 1) := by decide +kernel
theorem dX3_readUnit_84 : decode cX3_readUnit 84 = .ok (.iconst 0, 1) := by decide +kernel
theorem dX3_readUnit_85 : decode cX3_readUnit 85 = .ok (.invokevirtual 80, 3) := by decide +kernel
theorem dX3_readUnit_88 : decode cX3_readUnit 88 = .ok (.ifCond .ne 5, 3) := by decide +kernel
theorem dX3_readUnit_91 : decode cX3_readUnit 91 = .ok (.iconst 0, 1) := by decide +kernel
theorem dX3_readUnit_92 : decode cX3_readUnit 92 = .ok (.ireturn, 1) := by decide +kernel
theorem dX3_readUnit_93 : decode cX3_readUnit 93 = .ok (.aload_n 0, 1) := by decide +kernel
theorem dX3_readUnit_94 : decode cX3_readUnit 94 = .ok (.bipush 9, 2) := by decide +kernel
theorem dX3_readUnit_96 : decode cX3_readUnit 96 = .ok (.iconst 0, 1) := by decide +kernel
theorem dX3_readUnit_97 : decode cX3_readUnit 97 = .ok (.invokevirtual 66, 3) := by decide +kernel
theorem dX3_readUnit_100 : decode cX3_readUnit 100 = .ok (.iconst 1, 1) := by decide +kernel
theorem dX3_readUnit_101 : decode cX3_readUnit 101 = .ok (.ireturn, 1) := by decide +kernel
theorem dX3_readUnit_102 : decode cX3_readUnit 102 = .ok (.iload_n 2, 1) := by decide +kernel
theorem dX3_readUnit_103 : decode cX3_readUnit 103 = .ok (.ifCond .ne 13, 3) := by decide +kernel
theorem dX3_readUnit_106 : decode cX3_readUnit 106 = .ok (.aload_n 0, 1) := by decide +kernel
theorem dX3_readUnit_107 : decode cX3_readUnit 107 = .ok (.iload_n 1, 1) := by decide +kernel
theorem dX3_readUnit_108 : decode cX3_readUnit 108 = .ok (.invokevirtual 59, 3) := by decide +kernel
theorem dX3_readUnit_111 : decode cX3_readUnit 111 = .ok (.ifCond .ne 5, 3) := by decide +kernel
theorem dX3_readUnit_114 : decode cX3_readUnit 114 = .ok (.iconst 0, 1) := by decide +kernel
theorem dX3_readUnit_115 : decode cX3_readUnit 115 = .ok (.ireturn, 1) := by decide +kernel
theorem dX3_readUnit_116 : decode cX3_readUnit 116 = .ok (.aload_n 0, 1) := by decide +kernel
theorem dX3_readUnit_117 : decode cX3_readUnit 117 = .ok (.getfield 19, 3) := by decide +kernel
theorem dX3_readUnit_120 : decode cX3_readUnit 120 = .ok (.invokevirtual 48, 3) := by decide +kernel
theorem dX3_readUnit_123 : decode cX3_readUnit 123 = .ok (.invokestatic 62, 3) := by decide +kernel
theorem dX3_readUnit_126 : decode cX3_readUnit 126 = .ok (.istore 4, 2) := by decide +kernel
theorem dX3_readUnit_128 : decode cX3_readUnit 128 = .ok (.iload 4, 2) := by decide +kernel
theorem dX3_readUnit_130 : decode cX3_readUnit 130 = .ok (.iconst (-1), 1) := by decide +kernel
theorem dX3_readUnit_131 : decode cX3_readUnit 131 = .ok (.if_icmp .ne 11, 3) := by decide +kernel
theorem dX3_readUnit_134 : decode cX3_readUnit 134 = .ok (.aload_n 0, 1) := by decide +kernel
theorem dX3_readUnit_135 : decode cX3_readUnit 135 = .ok (.getfield 19, 3) := by decide +kernel
theorem dX3_readUnit_138 : decode cX3_readUnit 138 = .ok (.invokevirtual 83, 3) := by decide +kernel
theorem dX3_readUnit_141 : decode cX3_readUnit 141 = .ok (.ireturn, 1) := by decide +kernel
theorem dX3_readUnit_142 : decode cX3_readUnit 142 = .ok (.aload_n 0, 1) := by decide +kernel
theorem dX3_readUnit_143 : decode cX3_readUnit 143 = .ok (.getfield 19, 3) := by decide +kernel
theorem dX3_readUnit_146 : decode cX3_readUnit 146 = .ok (.invokevirtual 77, 3) := by decide +kernel
theorem dX3_readUnit_149 : decode cX3_readUnit 149 = .ok (.aload_n 0, 1) := by decide +kernel
theorem dX3_readUnit_150 : decode cX3_readUnit 150 = .ok (.iload_n 1, 1) := by decide +kernel
theorem dX3_readUnit_151 : decode cX3_readUnit 151 = .ok (.invokevirtual 59, 3) := by decide +kernel
theorem dX3_readUnit_154 : decode cX3_readUnit 154 = .ok (.ifCond .ne 5, 3) := by decide +kernel
theorem dX3_readUnit_157 : decode cX3_readUnit 157 = .ok (.iconst 0, 1) := by decide +kernel
theorem dX3_readUnit_158 : decode cX3_readUnit 158 = .ok (.ireturn, 1) := by decide +kernel
theorem dX3_readUnit_159 : decode cX3_readUnit 159 = .ok (.aload_n 0, 1) := by decide +kernel
theorem dX3_readUnit_160 : decode cX3_readUnit 160 = .ok (.iload 4, 2) := by decide +kernel
theorem dX3_readUnit_162 : decode cX3_readUnit 162 = .ok (.iconst 0, 1) := by decide +kernel
theorem dX3_readUnit_163 : decode cX3_readUnit 163 = .ok (.invokevirtual 66, 3) := by decide +kernel
theorem dX3_readUnit_166 : decode cX3_readUnit 166 = .ok (.iconst 1, 1) := by decide +kernel
theorem dX3_readUnit_167 : decode cX3_readUnit 167 = .ok (.ireturn, 1) := by decide +kernel
theorem dX3_comparing_0 : decode cX3_comparing 0 = .ok (.iload_n 0, 1) := by decide +kernel
theorem dX3_comparing_1 : decode cX3_comparing 1 = .ok (.tableswitch 36 60 62 #[30, 27, 33], 27) := by decide +kernel
theorem dX3_comparing_28 : decode cX3_comparing 28 = .ok (.bipush 6, 2) := by decide +kernel
theorem dX3_comparing_30 : decode cX3_comparing 30 = .ok (.ireturn, 1) := by decide +kernel
theorem dX3_comparing_31 : decode cX3_comparing 31 = .ok (.bipush 7, 2) := by decide +kernel
theorem dX3_comparing_33 : decode cX3_comparing 33 = .ok (.ireturn, 1) := by decide +kernel
theorem dX3_comparing_34 : decode cX3_comparing 34 = .ok (.bipush 8, 2) := by decide +kernel
theorem dX3_comparing_36 : decode cX3_comparing 36 = .ok (.ireturn, 1) := by decide +kernel
theorem dX3_comparing_37 : decode cX3_comparing 37 = .ok (.iconst (-1), 1) := by decide +kernel
theorem dX3_comparing_38 : decode cX3_comparing 38 = .ok (.ireturn, 1) := by decide +kernel
theorem dX3_readSum_0 : decode cX3_readSum 0 = .ok (.aload_n 0, 1) := by decide +kernel
theorem dX3_readSum_1 : decode cX3_readSum 1 = .ok (.iload_n 1, 1) := by decide +kernel
theorem dX3_readSum_2 : decode cX3_readSum 2 = .ok (.invokevirtual 86, 3) := by decide +kernel
theorem dX3_readSum_5 : decode cX3_readSum 5 = .ok (.ifCond .ne 5, 3) := by decide +kernel
theorem dX3_readSum_8 : decode cX3_readSum 8 = .ok (.iconst 0, 1) := by decide +kernel
theorem dX3_readSum_9 : decode cX3_readSum 9 = .ok (.ireturn, 1) := by decide +kernel
theorem dX3_readSum_10 : decode cX3_readSum 10 = .ok (.iconst 0, 1) := by decide +kernel
theorem dX3_readSum_11 : decode cX3_readSum 11 = .ok (.istore_n 2, 1) := by decide +kernel
theorem dX3_readSum_12 : decode cX3_readSum 12 = .ok (.iload_n 2, 1) := by decide +kernel
theorem dX3_readSum_13 : decode cX3_readSum 13 = .ok (.sipush 240, 3) := by decide +kernel
theorem dX3_readSum_16 : decode cX3_readSum 16 = .ok (.if_icmp .ge 64, 3) := by decide +kernel
theorem dX3_readSum_19 : decode cX3_readSum 19 = .ok (.aload_n 0, 1) := by decide +kernel
theorem dX3_readSum_20 : decode cX3_readSum 20 = .ok (.getfield 19, 3) := by decide +kernel
theorem dX3_readSum_23 : decode cX3_readSum 23 = .ok (.invokevirtual 48, 3) := by decide +kernel
theorem dX3_readSum_26 : decode cX3_readSum 26 = .ok (.istore_n 3, 1) := by decide +kernel
theorem dX3_readSum_27 : decode cX3_readSum 27 = .ok (.iload_n 3, 1) := by decide +kernel
theorem dX3_readSum_28 : decode cX3_readSum 28 = .ok (.bipush 43, 2) := by decide +kernel
theorem dX3_readSum_30 : decode cX3_readSum 30 = .ok (.if_icmp .eq 11, 3) := by decide +kernel
theorem dX3_readSum_33 : decode cX3_readSum 33 = .ok (.iload_n 3, 1) := by decide +kernel
theorem dX3_readSum_34 : decode cX3_readSum 34 = .ok (.bipush 45, 2) := by decide +kernel
theorem dX3_readSum_36 : decode cX3_readSum 36 = .ok (.if_icmp .eq 5, 3) := by decide +kernel
theorem dX3_readSum_39 : decode cX3_readSum 39 = .ok (.iconst 1, 1) := by decide +kernel
theorem dX3_readSum_40 : decode cX3_readSum 40 = .ok (.ireturn, 1) := by decide +kernel
theorem dX3_readSum_41 : decode cX3_readSum 41 = .ok (.aload_n 0, 1) := by decide +kernel
theorem dX3_readSum_42 : decode cX3_readSum 42 = .ok (.getfield 19, 3) := by decide +kernel
theorem dX3_readSum_45 : decode cX3_readSum 45 = .ok (.invokevirtual 77, 3) := by decide +kernel
theorem dX3_readSum_48 : decode cX3_readSum 48 = .ok (.aload_n 0, 1) := by decide +kernel
theorem dX3_readSum_49 : decode cX3_readSum 49 = .ok (.iload_n 1, 1) := by decide +kernel
theorem dX3_readSum_50 : decode cX3_readSum 50 = .ok (.invokevirtual 86, 3) := by decide +kernel
theorem dX3_readSum_53 : decode cX3_readSum 53 = .ok (.ifCond .ne 5, 3) := by decide +kernel
theorem dX3_readSum_56 : decode cX3_readSum 56 = .ok (.iconst 0, 1) := by decide +kernel
theorem dX3_readSum_57 : decode cX3_readSum 57 = .ok (.ireturn, 1) := by decide +kernel
theorem dX3_readSum_58 : decode cX3_readSum 58 = .ok (.aload_n 0, 1) := by decide +kernel
theorem dX3_readSum_59 : decode cX3_readSum 59 = .ok (.iload_n 3, 1) := by decide +kernel
theorem dX3_readSum_60 : decode cX3_readSum 60 = .ok (.bipush 43, 2) := by decide +kernel
theorem dX3_readSum_62 : decode cX3_readSum 62 = .ok (.if_icmp .ne 7, 3) := by decide +kernel
theorem dX3_readSum_65 : decode cX3_readSum 65 = .ok (.iconst 2, 1) := by decide +kernel
theorem dX3_readSum_66 : decode cX3_readSum 66 = .ok (.goto 4, 3) := by decide +kernel
theorem dX3_readSum_69 : decode cX3_readSum 69 = .ok (.iconst 3, 1) := by decide +kernel
theorem dX3_readSum_70 : decode cX3_readSum 70 = .ok (.iconst 0, 1) := by decide +kernel
theorem dX3_readSum_71 : decode cX3_readSum 71 = .ok (.invokevirtual 66, 3) := by decide +kernel
theorem dX3_readSum_74 : decode cX3_readSum 74 = .ok (.iinc 2 1, 3) := by decide +kernel
theorem dX3_readSum_77 : decode cX3_readSum 77 = .ok (.goto (-65), 3) := by decide +kernel
theorem dX3_readSum_80 : decode cX3_readSum 80 = .ok (.iconst 1, 1) := by decide +kernel
theorem dX3_readSum_81 : decode cX3_readSum 81 = .ok (.ireturn, 1) := by decide +kernel
theorem dX3_readTerm_0 : decode cX3_readTerm 0 = .ok (.aload_n 0, 1) := by decide +kernel
theorem dX3_readTerm_1 : decode cX3_readTerm 1 = .ok (.iload_n 1, 1) := by decide +kernel
theorem dX3_readTerm_2 : decode cX3_readTerm 2 = .ok (.invokevirtual 89, 3) := by decide +kernel
theorem dX3_readTerm_5 : decode cX3_readTerm 5 = .ok (.ifCond .ne 5, 3) := by decide +kernel
theorem dX3_readTerm_8 : decode cX3_readTerm 8 = .ok (.iconst 0, 1) := by decide +kernel
theorem dX3_readTerm_9 : decode cX3_readTerm 9 = .ok (.ireturn, 1) := by decide +kernel
theorem dX3_readTerm_10 : decode cX3_readTerm 10 = .ok (.iconst 0, 1) := by decide +kernel
theorem dX3_readTerm_11 : decode cX3_readTerm 11 = .ok (.istore_n 2, 1) := by decide +kernel
theorem dX3_readTerm_12 : decode cX3_readTerm 12 = .ok (.iload_n 2, 1) := by decide +kernel
theorem dX3_readTerm_13 : decode cX3_readTerm 13 = .ok (.sipush 240, 3) := by decide +kernel
theorem dX3_readTerm_16 : decode cX3_readTerm 16 = .ok (.if_icmp .ge 64, 3) := by decide +kernel
theorem dX3_readTerm_19 : decode cX3_readTerm 19 = .ok (.aload_n 0, 1) := by decide +kernel
theorem dX3_readTerm_20 : decode cX3_readTerm 20 = .ok (.getfield 19, 3) := by decide +kernel
theorem dX3_readTerm_23 : decode cX3_readTerm 23 = .ok (.invokevirtual 48, 3) := by decide +kernel
theorem dX3_readTerm_26 : decode cX3_readTerm 26 = .ok (.istore_n 3, 1) := by decide +kernel
theorem dX3_readTerm_27 : decode cX3_readTerm 27 = .ok (.iload_n 3, 1) := by decide +kernel
theorem dX3_readTerm_28 : decode cX3_readTerm 28 = .ok (.bipush 42, 2) := by decide +kernel
theorem dX3_readTerm_30 : decode cX3_readTerm 30 = .ok (.if_icmp .eq 11, 3) := by decide +kernel
theorem dX3_readTerm_33 : decode cX3_readTerm 33 = .ok (.iload_n 3, 1) := by decide +kernel
theorem dX3_readTerm_34 : decode cX3_readTerm 34 = .ok (.bipush 47, 2) := by decide +kernel
theorem dX3_readTerm_36 : decode cX3_readTerm 36 = .ok (.if_icmp .eq 5, 3) := by decide +kernel
theorem dX3_readTerm_39 : decode cX3_readTerm 39 = .ok (.iconst 1, 1) := by decide +kernel
theorem dX3_readTerm_40 : decode cX3_readTerm 40 = .ok (.ireturn, 1) := by decide +kernel
theorem dX3_readTerm_41 : decode cX3_readTerm 41 = .ok (.aload_n 0, 1) := by decide +kernel
theorem dX3_readTerm_42 : decode cX3_readTerm 42 = .ok (.getfield 19, 3) := by decide +kernel
theorem dX3_readTerm_45 : decode cX3_readTerm 45 = .ok (.invokevirtual 77, 3) := by decide +kernel
theorem dX3_readTerm_48 : decode cX3_readTerm 48 = .ok (.aload_n 0, 1) := by decide +kernel
theorem dX3_readTerm_49 : decode cX3_readTerm 49 = .ok (.iload_n 1, 1) := by decide +kernel
theorem dX3_readTerm_50 : decode cX3_readTerm 50 = .ok (.invokevirtual 89, 3) := by decide +kernel
theorem dX3_readTerm_53 : decode cX3_readTerm 53 = .ok (.ifCond .ne 5, 3) := by decide +kernel
theorem dX3_readTerm_56 : decode cX3_readTerm 56 = .ok (.iconst 0, 1) := by decide +kernel
theorem dX3_readTerm_57 : decode cX3_readTerm 57 = .ok (.ireturn, 1) := by decide +kernel
theorem dX3_readTerm_58 : decode cX3_readTerm 58 = .ok (.aload_n 0, 1) := by decide +kernel
theorem dX3_readTerm_59 : decode cX3_readTerm 59 = .ok (.iload_n 3, 1) := by decide +kernel
theorem dX3_readTerm_60 : decode cX3_readTerm 60 = .ok (.bipush 42, 2) := by decide +kernel
theorem dX3_readTerm_62 : decode cX3_readTerm 62 = .ok (.if_icmp .ne 7, 3) := by decide +kernel
theorem dX3_readTerm_65 : decode cX3_readTerm 65 = .ok (.iconst 4, 1) := by decide +kernel
theorem dX3_readTerm_66 : decode cX3_readTerm 66 = .ok (.goto 4, 3) := by decide +kernel
theorem dX3_readTerm_69 : decode cX3_readTerm 69 = .ok (.iconst 5, 1) := by decide +kernel
theorem dX3_readTerm_70 : decode cX3_readTerm 70 = .ok (.iconst 0, 1) := by decide +kernel
theorem dX3_readTerm_71 : decode cX3_readTerm 71 = .ok (.invokevirtual 66, 3) := by decide +kernel
theorem dX3_readTerm_74 : decode cX3_readTerm 74 = .ok (.iinc 2 1, 3) := by decide +kernel
theorem dX3_readTerm_77 : decode cX3_readTerm 77 = .ok (.goto (-65), 3) := by decide +kernel
theorem dX3_readTerm_80 : decode cX3_readTerm 80 = .ok (.iconst 1, 1) := by decide +kernel
theorem dX3_readTerm_81 : decode cX3_readTerm 81 = .ok (.ireturn, 1) := by decide +kernel
theorem dX3_readAtom_0 : decode cX3_readAtom 0 = .ok (.aload_n 0, 1) := by decide +kernel
theorem dX3_readAtom_1 : decode cX3_readAtom 1 = .ok (.getfield 19, 3) := by decide +kernel
theorem dX3_readAtom_4 : decode cX3_readAtom 4 = .ok (.invokevirtual 48, 3) := by decide +kernel
theorem dX3_readAtom_7 : decode cX3_readAtom 7 = .ok (.istore_n 2, 1) := by decide +kernel
theorem dX3_readAtom_8 : decode cX3_readAtom 8 = .ok (.iload_n 2, 1) := by decide +kernel
theorem dX3_readAtom_9 : decode cX3_readAtom 9 = .ok (.bipush 91, 2) := by decide +kernel
theorem dX3_readAtom_11 : decode cX3_readAtom 11 = .ok (.if_icmp .ne 44, 3) := by decide +kernel
theorem dX3_readAtom_14 : decode cX3_readAtom 14 = .ok (.iload_n 1, 1) := by decide +kernel
theorem dX3_readAtom_15 : decode cX3_readAtom 15 = .ok (.bipush 6, 2) := by decide +kernel
theorem dX3_readAtom_17 : decode cX3_readAtom 17 = .ok (.if_icmp .ge 38, 3) := by decide +kernel
theorem dX3_readAtom_20 : decode cX3_readAtom 20 = .ok (.aload_n 0, 1) := by decide +kernel
theorem dX3_readAtom_21 : decode cX3_readAtom 21 = .ok (.getfield 19, 3) := by decide +kernel
theorem dX3_readAtom_24 : decode cX3_readAtom 24 = .ok (.invokevirtual 77, 3) := by decide +kernel
theorem dX3_readAtom_27 : decode cX3_readAtom 27 = .ok (.aload_n 0, 1) := by decide +kernel
theorem dX3_readAtom_28 : decode cX3_readAtom 28 = .ok (.iload_n 1, 1) := by decide +kernel
theorem dX3_readAtom_29 : decode cX3_readAtom 29 = .ok (.iconst 1, 1) := by decide +kernel
theorem dX3_readAtom_30 : decode cX3_readAtom 30 = .ok (.iadd, 1) := by decide +kernel
theorem dX3_readAtom_31 : decode cX3_readAtom 31 = .ok (.invokevirtual 59, 3) := by decide +kernel
theorem dX3_readAtom_34 : decode cX3_readAtom 34 = .ok (.ifCond .eq 19, 3) := by decide +kernel
theorem dX3_readAtom_37 : decode cX3_readAtom 37 = .ok (.aload_n 0, 1) := by decide +kernel
theorem dX3_readAtom_38 : decode cX3_readAtom 38 = .ok (.getfield 19, 3) := by decide +kernel
theorem dX3_readAtom_41 : decode cX3_readAtom 41 = .ok (.bipush 93, 2) := by decide +kernel
theorem dX3_readAtom_43 : decode cX3_readAtom 43 = .ok (.invokevirtual 51, 3) := by decide +kernel
theorem dX3_readAtom_46 : decode cX3_readAtom 46 = .ok (.ifCond .eq 7, 3) := by decide +kernel
theorem dX3_readAtom_49 : decode cX3_readAtom 49 = .ok (.iconst 1, 1) := by decide +kernel
theorem dX3_readAtom_50 : decode cX3_readAtom 50 = .ok (.goto 4, 3) := by decide +kernel
theorem dX3_readAtom_53 : decode cX3_readAtom 53 = .ok (.iconst 0, 1) := by decide +kernel
theorem dX3_readAtom_54 : decode cX3_readAtom 54 = .ok (.ireturn, 1) := by decide +kernel
theorem dX3_readAtom_55 : decode cX3_readAtom 55 = .ok (.iload_n 2, 1) := by decide +kernel
theorem dX3_readAtom_56 : decode cX3_readAtom 56 = .ok (.invokestatic 92, 3) := by decide +kernel
theorem dX3_readAtom_59 : decode cX3_readAtom 59 = .ok (.ifCond .eq 30, 3) := by decide +kernel
theorem dX3_readAtom_62 : decode cX3_readAtom 62 = .ok (.aload_n 0, 1) := by decide +kernel
theorem dX3_readAtom_63 : decode cX3_readAtom 63 = .ok (.getfield 19, 3) := by decide +kernel
theorem dX3_readAtom_66 : decode cX3_readAtom 66 = .ok (.iconst 4, 1) := by decide +kernel
theorem dX3_readAtom_67 : decode cX3_readAtom 67 = .ok (.invokevirtual 95, 3) := by decide +kernel
theorem dX3_readAtom_70 : decode cX3_readAtom 70 = .ok (.ifCond .ne 5, 3) := by decide +kernel
theorem dX3_readAtom_73 : decode cX3_readAtom 73 = .ok (.iconst 0, 1) := by decide +kernel
theorem dX3_readAtom_74 : decode cX3_readAtom 74 = .ok (.ireturn, 1) := by decide +kernel
theorem dX3_readAtom_75 : decode cX3_readAtom 75 = .ok (.aload_n 0, 1) := by decide +kernel
theorem dX3_readAtom_76 : decode cX3_readAtom 76 = .ok (.iconst 0, 1) := by decide +kernel
theorem dX3_readAtom_77 : decode cX3_readAtom 77 = .ok (.aload_n 0, 1) := by decide +kernel
theorem dX3_readAtom_78 : decode cX3_readAtom 78 = .ok (.getfield 19, 3) := by decide +kernel
theorem dX3_readAtom_81 : decode cX3_readAtom 81 = .ok (.invokevirtual 98, 3) := by decide +kernel
theorem dX3_readAtom_84 : decode cX3_readAtom 84 = .ok (.invokevirtual 66, 3) := by decide +kernel
theorem dX3_readAtom_87 : decode cX3_readAtom 87 = .ok (.iconst 1, 1) := by decide +kernel
theorem dX3_readAtom_88 : decode cX3_readAtom 88 = .ok (.ireturn, 1) := by decide +kernel
theorem dX3_readAtom_89 : decode cX3_readAtom 89 = .ok (.iload_n 2, 1) := by decide +kernel
theorem dX3_readAtom_90 : decode cX3_readAtom 90 = .ok (.iconst (-1), 1) := by decide +kernel
theorem dX3_readAtom_91 : decode cX3_readAtom 91 = .ok (.if_icmp .ne 7, 3) := by decide +kernel
theorem dX3_readAtom_94 : decode cX3_readAtom 94 = .ok (.iconst (-1), 1) := by decide +kernel
theorem dX3_readAtom_95 : decode cX3_readAtom 95 = .ok (.goto 10, 3) := by decide +kernel
theorem dX3_readAtom_98 : decode cX3_readAtom 98 = .ok (.ldc 101, 2) := by decide +kernel
theorem dX3_readAtom_100 : decode cX3_readAtom 100 = .ok (.iload_n 2, 1) := by decide +kernel
theorem dX3_readAtom_101 : decode cX3_readAtom 101 = .ok (.i2c, 1) := by decide +kernel
theorem dX3_readAtom_102 : decode cX3_readAtom 102 = .ok (.invokevirtual 103, 3) := by decide +kernel
theorem dX3_readAtom_105 : decode cX3_readAtom 105 = .ok (.istore_n 3, 1) := by decide +kernel
theorem dX3_readAtom_106 : decode cX3_readAtom 106 = .ok (.iload_n 3, 1) := by decide +kernel
theorem dX3_readAtom_107 : decode cX3_readAtom 107 = .ok (.ifCond .ge 11, 3) := by decide +kernel
theorem dX3_readAtom_110 : decode cX3_readAtom 110 = .ok (.aload_n 0, 1) := by decide +kernel
theorem dX3_readAtom_111 : decode cX3_readAtom 111 = .ok (.getfield 19, 3) := by decide +kernel
theorem dX3_readAtom_114 : decode cX3_readAtom 114 = .ok (.invokevirtual 83, 3) := by decide +kernel
theorem dX3_readAtom_117 : decode cX3_readAtom 117 = .ok (.ireturn, 1) := by decide +kernel
theorem dX3_readAtom_118 : decode cX3_readAtom 118 = .ok (.aload_n 0, 1) := by decide +kernel
theorem dX3_readAtom_119 : decode cX3_readAtom 119 = .ok (.getfield 19, 3) := by decide +kernel
theorem dX3_readAtom_122 : decode cX3_readAtom 122 = .ok (.invokevirtual 77, 3) := by decide +kernel
theorem dX3_readAtom_125 : decode cX3_readAtom 125 = .ok (.aload_n 0, 1) := by decide +kernel
theorem dX3_readAtom_126 : decode cX3_readAtom 126 = .ok (.iconst 1, 1) := by decide +kernel
theorem dX3_readAtom_127 : decode cX3_readAtom 127 = .ok (.iload_n 3, 1) := by decide +kernel
theorem dX3_readAtom_128 : decode cX3_readAtom 128 = .ok (.invokevirtual 66, 3) := by decide +kernel
theorem dX3_readAtom_131 : decode cX3_readAtom 131 = .ok (.iconst 1, 1) := by decide +kernel
theorem dX3_readAtom_132 : decode cX3_readAtom 132 = .ok (.ireturn, 1) := by decide +kernel
theorem dX4_number_0 : decode cX4_number 0 = .ok (.aload_n 0, 1) := by decide +kernel
theorem dX4_number_1 : decode cX4_number 1 = .ok (.getfield 28, 3) := by decide +kernel
theorem dX4_number_4 : decode cX4_number 4 = .ok (.ireturn, 1) := by decide +kernel
theorem dX4_chosen_0 : decode cX4_chosen 0 = .ok (.aload_n 0, 1) := by decide +kernel
theorem dX4_chosen_1 : decode cX4_chosen 1 = .ok (.getfield 32, 3) := by decide +kernel
theorem dX4_chosen_4 : decode cX4_chosen 4 = .ok (.ireturn, 1) := by decide +kernel
theorem dX4_add_0 : decode cX4_add 0 = .ok (.aload_n 0, 1) := by decide +kernel
theorem dX4_add_1 : decode cX4_add 1 = .ok (.getfield 28, 3) := by decide +kernel
theorem dX4_add_4 : decode cX4_add 4 = .ok (.iconst 4, 1) := by decide +kernel
theorem dX4_add_5 : decode cX4_add 5 = .ok (.if_icmp .lt 5, 3) := by decide +kernel
theorem dX4_add_8 : decode cX4_add 8 = .ok (.iconst (-1), 1) := by decide +kernel
theorem dX4_add_9 : decode cX4_add 9 = .ok (.ireturn, 1) := by decide +kernel
theorem dX4_add_10 : decode cX4_add 10 = .ok (.aload_n 0, 1) := by decide +kernel
theorem dX4_add_11 : decode cX4_add 11 = .ok (.getfield 18, 3) := by decide +kernel
theorem dX4_add_14 : decode cX4_add 14 = .ok (.aload_n 0, 1) := by decide +kernel
theorem dX4_add_15 : decode cX4_add 15 = .ok (.getfield 28, 3) := by decide +kernel
theorem dX4_add_18 : decode cX4_add 18 = .ok (.aload_n 1, 1) := by decide +kernel
theorem dX4_add_19 : decode cX4_add 19 = .ok (.aload_n 0, 1) := by decide +kernel
theorem dX4_add_20 : decode cX4_add 20 = .ok (.getfield 13, 3) := by decide +kernel
theorem dX4_add_23 : decode cX4_add 23 = .ok (.aload_n 0, 1) := by decide +kernel
theorem dX4_add_24 : decode cX4_add 24 = .ok (.getfield 28, 3) := by decide +kernel
theorem dX4_add_27 : decode cX4_add 27 = .ok (.aaload, 1) := by decide +kernel
theorem dX4_add_28 : decode cX4_add 28 = .ok (.invokevirtual 35, 3) := by decide +kernel
theorem dX4_add_31 : decode cX4_add 31 = .ok (.iastore, 1) := by decide +kernel
theorem dX4_add_32 : decode cX4_add 32 = .ok (.aload_n 0, 1) := by decide +kernel
theorem dX4_add_33 : decode cX4_add 33 = .ok (.dup, 1) := by decide +kernel
theorem dX4_add_34 : decode cX4_add 34 = .ok (.getfield 28, 3) := by decide +kernel
theorem dX4_add_37 : decode cX4_add 37 = .ok (.iconst 1, 1) := by decide +kernel
theorem dX4_add_38 : decode cX4_add 38 = .ok (.iadd, 1) := by decide +kernel
theorem dX4_add_39 : decode cX4_add 39 = .ok (.putfield 28, 3) := by decide +kernel
theorem dX4_add_42 : decode cX4_add 42 = .ok (.aload_n 0, 1) := by decide +kernel
theorem dX4_add_43 : decode cX4_add 43 = .ok (.getfield 28, 3) := by decide +kernel
theorem dX4_add_46 : decode cX4_add 46 = .ok (.iconst 1, 1) := by decide +kernel
theorem dX4_add_47 : decode cX4_add 47 = .ok (.isub, 1) := by decide +kernel
theorem dX4_add_48 : decode cX4_add 48 = .ok (.ireturn, 1) := by decide +kernel
theorem dX4_choose_0 : decode cX4_choose 0 = .ok (.iload_n 1, 1) := by decide +kernel
theorem dX4_choose_1 : decode cX4_choose 1 = .ok (.iconst (-1), 1) := by decide +kernel
theorem dX4_choose_2 : decode cX4_choose 2 = .ok (.if_icmp .lt 11, 3) := by decide +kernel
theorem dX4_choose_5 : decode cX4_choose 5 = .ok (.iload_n 1, 1) := by decide +kernel
theorem dX4_choose_6 : decode cX4_choose 6 = .ok (.aload_n 0, 1) := by decide +kernel
theorem dX4_choose_7 : decode cX4_choose 7 = .ok (.getfield 28, 3) := by decide +kernel
theorem dX4_choose_10 : decode cX4_choose 10 = .ok (.if_icmp .lt 5, 3) := by decide +kernel
theorem dX4_choose_13 : decode cX4_choose 13 = .ok (.iconst 0, 1) := by decide +kernel
theorem dX4_choose_14 : decode cX4_choose 14 = .ok (.ireturn, 1) := by decide +kernel
theorem dX4_choose_15 : decode cX4_choose 15 = .ok (.aload_n 0, 1) := by decide +kernel
theorem dX4_choose_16 : decode cX4_choose 16 = .ok (.iload_n 1, 1) := by decide +kernel
theorem dX4_choose_17 : decode cX4_choose 17 = .ok (.putfield 32, 3) := by decide +kernel
theorem dX4_choose_20 : decode cX4_choose 20 = .ok (.iconst 1, 1) := by decide +kernel
theorem dX4_choose_21 : decode cX4_choose 21 = .ok (.ireturn, 1) := by decide +kernel
theorem dX4_growth_0 : decode cX4_growth 0 = .ok (.aload_n 1, 1) := by decide +kernel
theorem dX4_growth_1 : decode cX4_growth 1 = .ok (.iload_n 2, 1) := by decide +kernel
theorem dX4_growth_2 : decode cX4_growth 2 = .ok (.iconst 4, 1) := by decide +kernel
theorem dX4_growth_3 : decode cX4_growth 3 = .ok (.invokevirtual 39, 3) := by decide +kernel
theorem dX4_growth_6 : decode cX4_growth 6 = .ok (.istore_n 3, 1) := by decide +kernel
theorem dX4_growth_7 : decode cX4_growth 7 = .ok (.aload_n 1, 1) := by decide +kernel
theorem dX4_growth_8 : decode cX4_growth 8 = .ok (.iload_n 2, 1) := by decide +kernel
theorem dX4_growth_9 : decode cX4_growth 9 = .ok (.iload_n 3, 1) := by decide +kernel
theorem dX4_growth_10 : decode cX4_growth 10 = .ok (.ifCond .ne 7, 3) := by decide +kernel
theorem dX4_growth_13 : decode cX4_growth 13 = .ok (.iconst 2, 1) := by decide +kernel
theorem dX4_growth_14 : decode cX4_growth 14 = .ok (.goto 4, 3) := by decide +kernel
theorem dX4_growth_17 : decode cX4_growth 17 = .ok (.iconst 1, 1) := by decide +kernel
theorem dX4_growth_18 : decode cX4_growth 18 = .ok (.invokevirtual 39, 3) := by decide +kernel
theorem dX4_growth_21 : decode cX4_growth 21 = .ok (.istore 4, 2) := by decide +kernel
theorem dX4_growth_23 : decode cX4_growth 23 = .ok (.aload_n 1, 1) := by decide +kernel
theorem dX4_growth_24 : decode cX4_growth 24 = .ok (.iload_n 2, 1) := by decide +kernel
theorem dX4_growth_25 : decode cX4_growth 25 = .ok (.invokevirtual 45, 3) := by decide +kernel
theorem dX4_growth_28 : decode cX4_growth 28 = .ok (.istore 5, 2) := by decide +kernel
theorem dX4_growth_30 : decode cX4_growth 30 = .ok (.aload_n 0, 1) := by decide +kernel
theorem dX4_growth_31 : decode cX4_growth 31 = .ok (.getfield 32, 3) := by decide +kernel
theorem dX4_growth_34 : decode cX4_growth 34 = .ok (.ifCond .lt 11, 3) := by decide +kernel
theorem dX4_growth_37 : decode cX4_growth 37 = .ok (.aload_n 0, 1) := by decide +kernel
theorem dX4_growth_38 : decode cX4_growth 38 = .ok (.getfield 32, 3) := by decide +kernel
theorem dX4_growth_41 : decode cX4_growth 41 = .ok (.iconst 4, 1) := by decide +kernel
theorem dX4_growth_42 : decode cX4_growth 42 = .ok (.if_icmp .lt 19, 3) := by decide +kernel
theorem dX4_growth_45 : decode cX4_growth 45 = .ok (.iload 4, 2) := by decide +kernel
theorem dX4_growth_47 : decode cX4_growth 47 = .ok (.iconst 2, 1) := by decide +kernel
theorem dX4_growth_48 : decode cX4_growth 48 = .ok (.idiv, 1) := by decide +kernel
theorem dX4_growth_49 : decode cX4_growth 49 = .ok (.iload 5, 2) := by decide +kernel
theorem dX4_growth_51 : decode cX4_growth 51 = .ok (.iadd, 1) := by decide +kernel
theorem dX4_growth_52 : decode cX4_growth 52 = .ok (.iconst 1, 1) := by decide +kernel
theorem dX4_growth_53 : decode cX4_growth 53 = .ok (.isub, 1) := by decide +kernel
theorem dX4_growth_54 : decode cX4_growth 54 = .ok (.i2l, 1) := by decide +kernel
theorem dX4_growth_55 : decode cX4_growth 55 = .ok (.bipush 9, 2) := by decide +kernel
theorem dX4_growth_57 : decode cX4_growth 57 = .ok (.invokestatic 49, 3) := by decide +kernel
theorem dX4_growth_60 : decode cX4_growth 60 = .ok (.ireturn, 1) := by decide +kernel
theorem dX4_growth_61 : decode cX4_growth 61 = .ok (.aload_n 0, 1) := by decide +kernel
theorem dX4_growth_62 : decode cX4_growth 62 = .ok (.getfield 22, 3) := by decide +kernel
theorem dX4_growth_65 : decode cX4_growth 65 = .ok (.iconst 0, 1) := by decide +kernel
theorem dX4_growth_66 : decode cX4_growth 66 = .ok (.aload_n 1, 1) := by decide +kernel
theorem dX4_growth_67 : decode cX4_growth 67 = .ok (.iload_n 2, 1) := by decide +kernel
theorem dX4_growth_68 : decode cX4_growth 68 = .ok (.iconst 0, 1) := by decide +kernel
theorem dX4_growth_69 : decode cX4_growth 69 = .ok (.invokevirtual 39, 3) := by decide +kernel
theorem dX4_growth_72 : decode cX4_growth 72 = .ok (.iastore, 1) := by decide +kernel
theorem dX4_growth_73 : decode cX4_growth 73 = .ok (.aload_n 0, 1) := by decide +kernel
theorem dX4_growth_74 : decode cX4_growth 74 = .ok (.getfield 22, 3) := by decide +kernel
theorem dX4_growth_77 : decode cX4_growth 77 = .ok (.iconst 1, 1) := by decide +kernel
theorem dX4_growth_78 : decode cX4_growth 78 = .ok (.iload 4, 2) := by decide +kernel
theorem dX4_growth_80 : decode cX4_growth 80 = .ok (.iastore, 1) := by decide +kernel
theorem dX4_growth_81 : decode cX4_growth 81 = .ok (.aload_n 0, 1) := by decide +kernel
theorem dX4_growth_82 : decode cX4_growth 82 = .ok (.getfield 22, 3) := by decide +kernel
theorem dX4_growth_85 : decode cX4_growth 85 = .ok (.iconst 2, 1) := by decide +kernel
theorem dX4_growth_86 : decode cX4_growth 86 = .ok (.aload_n 1, 1) := by decide +kernel
theorem dX4_growth_87 : decode cX4_growth 87 = .ok (.iload_n 2, 1) := by decide +kernel
theorem dX4_growth_88 : decode cX4_growth 88 = .ok (.iload_n 3, 1) := by decide +kernel
theorem dX4_growth_89 : decode cX4_growth 89 = .ok (.ifCond .ne 7, 3) := by decide +kernel
theorem dX4_growth_92 : decode cX4_growth 92 = .ok (.iconst 1, 1) := by decide +kernel
theorem dX4_growth_93 : decode cX4_growth 93 = .ok (.goto 4, 3) := by decide +kernel
theorem dX4_growth_96 : decode cX4_growth 96 = .ok (.iconst 2, 1) := by decide +kernel
theorem dX4_growth_97 : decode cX4_growth 97 = .ok (.invokevirtual 39, 3) := by decide +kernel
theorem dX4_growth_100 : decode cX4_growth 100 = .ok (.iastore, 1) := by decide +kernel
theorem dX4_growth_101 : decode cX4_growth 101 = .ok (.aload_n 0, 1) := by decide +kernel
theorem dX4_growth_102 : decode cX4_growth 102 = .ok (.getfield 22, 3) := by decide +kernel
theorem dX4_growth_105 : decode cX4_growth 105 = .ok (.iconst 3, 1) := by decide +kernel
theorem dX4_growth_106 : decode cX4_growth 106 = .ok (.iload 5, 2) := by decide +kernel
theorem dX4_growth_108 : decode cX4_growth 108 = .ok (.iastore, 1) := by decide +kernel
theorem dX4_growth_109 : decode cX4_growth 109 = .ok (.aload_n 0, 1) := by decide +kernel
theorem dX4_growth_110 : decode cX4_growth 110 = .ok (.getfield 22, 3) := by decide +kernel
theorem dX4_growth_113 : decode cX4_growth 113 = .ok (.iconst 4, 1) := by decide +kernel
theorem dX4_growth_114 : decode cX4_growth 114 = .ok (.aload_n 1, 1) := by decide +kernel
theorem dX4_growth_115 : decode cX4_growth 115 = .ok (.iload_n 2, 1) := by decide +kernel
theorem dX4_growth_116 : decode cX4_growth 116 = .ok (.iconst 5, 1) := by decide +kernel
theorem dX4_growth_117 : decode cX4_growth 117 = .ok (.invokevirtual 39, 3) := by decide +kernel
theorem dX4_growth_120 : decode cX4_growth 120 = .ok (.iastore, 1) := by decide +kernel
theorem dX4_growth_121 : decode cX4_growth 121 = .ok (.aload_n 0, 1) := by decide +kernel
theorem dX4_growth_122 : decode cX4_growth 122 = .ok (.getfield 22, 3) := by decide +kernel
theorem dX4_growth_125 : decode cX4_growth 125 = .ok (.iconst 5, 1) := by decide +kernel
theorem dX4_growth_126 : decode cX4_growth 126 = .ok (.aload_n 1, 1) := by decide +kernel
theorem dX4_growth_127 : decode cX4_growth 127 = .ok (.invokevirtual 53, 3) := by decide +kernel
theorem dX4_growth_130 : decode cX4_growth 130 = .ok (.bipush 100, 2) := by decide +kernel
theorem dX4_growth_132 : decode cX4_growth 132 = .ok (.irem, 1) := by decide +kernel
theorem dX4_growth_133 : decode cX4_growth 133 = .ok (.iastore, 1) := by decide +kernel
theorem dX4_growth_134 : decode cX4_growth 134 = .ok (.aload_n 0, 1) := by decide +kernel
theorem dX4_growth_135 : decode cX4_growth 135 = .ok (.aload_n 0, 1) := by decide +kernel
theorem dX4_growth_136 : decode cX4_growth 136 = .ok (.getfield 13, 3) := by decide +kernel
theorem dX4_growth_139 : decode cX4_growth 139 = .ok (.aload_n 0, 1) := by decide +kernel
theorem dX4_growth_140 : decode cX4_growth 140 = .ok (.getfield 32, 3) := by decide +kernel
theorem dX4_growth_143 : decode cX4_growth 143 = .ok (.aaload, 1) := by decide +kernel
theorem dX4_growth_144 : decode cX4_growth 144 = .ok (.aload_n 0, 1) := by decide +kernel
theorem dX4_growth_145 : decode cX4_growth 145 = .ok (.getfield 18, 3) := by decide +kernel
theorem dX4_growth_148 : decode cX4_growth 148 = .ok (.aload_n 0, 1) := by decide +kernel
theorem dX4_growth_149 : decode cX4_growth 149 = .ok (.getfield 32, 3) := by decide +kernel
theorem dX4_growth_152 : decode cX4_growth 152 = .ok (.iaload, 1) := by decide +kernel
theorem dX4_growth_153 : decode cX4_growth 153 = .ok (.invokevirtual 57, 3) := by decide +kernel
theorem dX4_growth_156 : decode cX4_growth 156 = .ok (.i2l, 1) := by decide +kernel
theorem dX4_growth_157 : decode cX4_growth 157 = .ok (.bipush 9, 2) := by decide +kernel
theorem dX4_growth_159 : decode cX4_growth 159 = .ok (.invokestatic 49, 3) := by decide +kernel
theorem dX4_growth_162 : decode cX4_growth 162 = .ok (.ireturn, 1) := by decide +kernel
theorem dX4_held_0 : decode cX4_held 0 = .ok (.lload_n 0, 1) := by decide +kernel
theorem dX4_held_1 : decode cX4_held 1 = .ok (.iload_n 2, 1) := by decide +kernel
theorem dX4_held_2 : decode cX4_held 2 = .ok (.i2l, 1) := by decide +kernel
theorem dX4_held_3 : decode cX4_held 3 = .ok (.lcmp, 1) := by decide +kernel
theorem dX4_held_4 : decode cX4_held 4 = .ok (.ifCond .le 5, 3) := by decide +kernel
theorem dX4_held_7 : decode cX4_held 7 = .ok (.iload_n 2, 1) := by decide +kernel
theorem dX4_held_8 : decode cX4_held 8 = .ok (.ireturn, 1) := by decide +kernel
theorem dX4_held_9 : decode cX4_held 9 = .ok (.lload_n 0, 1) := by decide +kernel
theorem dX4_held_10 : decode cX4_held 10 = .ok (.iload_n 2, 1) := by decide +kernel
theorem dX4_held_11 : decode cX4_held 11 = .ok (.ineg, 1) := by decide +kernel
theorem dX4_held_12 : decode cX4_held 12 = .ok (.i2l, 1) := by decide +kernel
theorem dX4_held_13 : decode cX4_held 13 = .ok (.lcmp, 1) := by decide +kernel
theorem dX4_held_14 : decode cX4_held 14 = .ok (.ifCond .ge 8, 3) := by decide +kernel
theorem dX4_held_17 : decode cX4_held 17 = .ok (.iload_n 2, 1) := by decide +kernel
theorem dX4_held_18 : decode cX4_held 18 = .ok (.ineg, 1) := by decide +kernel
theorem dX4_held_19 : decode cX4_held 19 = .ok (.goto 5, 3) := by decide +kernel
theorem dX4_held_22 : decode cX4_held 22 = .ok (.lload_n 0, 1) := by decide +kernel
theorem dX4_held_23 : decode cX4_held 23 = .ok (.l2i, 1) := by decide +kernel
theorem dX4_held_24 : decode cX4_held 24 = .ok (.ireturn, 1) := by decide +kernel
theorem dX4_worth_0 : decode cX4_worth 0 = .ok (.iconst 0, 1) := by decide +kernel
theorem dX4_worth_1 : decode cX4_worth 1 = .ok (.istore_n 3, 1) := by decide +kernel
theorem dX4_worth_2 : decode cX4_worth 2 = .ok (.iconst 0, 1) := by decide +kernel
theorem dX4_worth_3 : decode cX4_worth 3 = .ok (.istore 4, 2) := by decide +kernel
theorem dX4_worth_5 : decode cX4_worth 5 = .ok (.iload 4, 2) := by decide +kernel
theorem dX4_worth_7 : decode cX4_worth 7 = .ok (.iload_n 2, 1) := by decide +kernel
theorem dX4_worth_8 : decode cX4_worth 8 = .ok (.if_icmp .ge 207, 3) := by decide +kernel
theorem dX4_worth_11 : decode cX4_worth 11 = .ok (.iload 4, 2) := by decide +kernel
theorem dX4_worth_13 : decode cX4_worth 13 = .ok (.aload_n 1, 1) := by decide +kernel
theorem dX4_worth_14 : decode cX4_worth 14 = .ok (.arraylength, 1) := by decide +kernel
theorem dX4_worth_15 : decode cX4_worth 15 = .ok (.if_icmp .ge 200, 3) := by decide +kernel
theorem dX4_worth_18 : decode cX4_worth 18 = .ok (.aload_n 1, 1) := by decide +kernel
theorem dX4_worth_19 : decode cX4_worth 19 = .ok (.iload 4, 2) := by decide +kernel
theorem dX4_worth_21 : decode cX4_worth 21 = .ok (.iaload, 1) := by decide +kernel
theorem dX4_worth_22 : decode cX4_worth 22 = .ok (.bipush 16, 2) := by decide +kernel
theorem dX4_worth_24 : decode cX4_worth 24 = .ok (.irem, 1) := by decide +kernel
theorem dX4_worth_25 : decode cX4_worth 25 = .ok (.istore 5, 2) := by decide +kernel
theorem dX4_worth_27 : decode cX4_worth 27 = .ok (.aload_n 1, 1) := by decide +kernel
theorem dX4_worth_28 : decode cX4_worth 28 = .ok (.iload 4, 2) := by decide +kernel
theorem dX4_worth_30 : decode cX4_worth 30 = .ok (.iaload, 1) := by decide +kernel
theorem dX4_worth_31 : decode cX4_worth 31 = .ok (.bipush 16, 2) := by decide +kernel
theorem dX4_worth_33 : decode cX4_worth 33 = .ok (.idiv, 1) := by decide +kernel
theorem dX4_worth_34 : decode cX4_worth 34 = .ok (.istore 6, 2) := by decide +kernel
theorem dX4_worth_36 : decode cX4_worth 36 = .ok (.iload 5, 2) := by decide +kernel
theorem dX4_worth_38 : decode cX4_worth 38 = .ok (.ifCond .eq 9, 3) := by decide +kernel
theorem dX4_worth_41 : decode cX4_worth 41 = .ok (.iload 5, 2) := by decide +kernel
theorem dX4_worth_43 : decode cX4_worth 43 = .ok (.iconst 1, 1) := by decide +kernel
theorem dX4_worth_44 : decode cX4_worth 44 = .ok (.if_icmp .ne 39, 3) := by decide +kernel
theorem dX4_worth_47 : decode cX4_worth 47 = .ok (.iload_n 3, 1) := by decide +kernel
theorem dX4_worth_48 : decode cX4_worth 48 = .ok (.bipush 64, 2) := by decide +kernel
theorem dX4_worth_50 : decode cX4_worth 50 = .ok (.if_icmp .lt 5, 3) := by decide +kernel
theorem dX4_worth_53 : decode cX4_worth 53 = .ok (.iconst 0, 1) := by decide +kernel
theorem dX4_worth_54 : decode cX4_worth 54 = .ok (.ireturn, 1) := by decide +kernel
theorem dX4_worth_55 : decode cX4_worth 55 = .ok (.aload_n 0, 1) := by decide +kernel
theorem dX4_worth_56 : decode cX4_worth 56 = .ok (.getfield 25, 3) := by decide +kernel
theorem dX4_worth_59 : decode cX4_worth 59 = .ok (.iload_n 3, 1) := by decide +kernel
theorem dX4_worth_60 : decode cX4_worth 60 = .ok (.iload 5, 2) := by decide +kernel
theorem dX4_worth_62 : decode cX4_worth 62 = .ok (.ifCond .ne 8, 3) := by decide +kernel
theorem dX4_worth_65 : decode cX4_worth 65 = .ok (.iload 6, 2) := by decide +kernel
theorem dX4_worth_67 : decode cX4_worth 67 = .ok (.goto 9, 3) := by decide +kernel
theorem dX4_worth_70 : decode cX4_worth 70 = .ok (.aload_n 0, 1) := by decide +kernel
theorem dX4_worth_71 : decode cX4_worth 71 = .ok (.iload 6, 2) := by decide +kernel
theorem dX4_worth_73 : decode cX4_worth 73 = .ok (.invokevirtual 61, 3) := by decide +kernel
theorem dX4_worth_76 : decode cX4_worth 76 = .ok (.iastore, 1) := by decide +kernel
theorem dX4_worth_77 : decode cX4_worth 77 = .ok (.iinc 3 1, 3) := by decide +kernel
theorem dX4_worth_80 : decode cX4_worth 80 = .ok (.goto 129, 3) := by decide +kernel
theorem dX4_worth_83 : decode cX4_worth 83 = .ok (.iload_n 3, 1) := by decide +kernel
theorem dX4_worth_84 : decode cX4_worth 84 = .ok (.iconst 1, 1) := by decide +kernel
theorem dX4_worth_85 : decode cX4_worth 85 = .ok (.if_icmp .ge 5, 3) := by decide +kernel
theorem dX4_worth_88 : decode cX4_worth 88 = .ok (.iconst 0, 1) := by decide +kernel
theorem dX4_worth_89 : decode cX4_worth 89 = .ok (.ireturn, 1) := by decide +kernel
theorem dX4_worth_90 : decode cX4_worth 90 = .ok (.iload 5, 2) := by decide +kernel
theorem dX4_worth_92 : decode cX4_worth 92 = .ok (.bipush 13, 2) := by decide +kernel
theorem dX4_worth_94 : decode cX4_worth 94 = .ok (.if_icmp .ne 12, 3) := by decide +kernel
theorem dX4_worth_97 : decode cX4_worth 97 = .ok (.aload_n 0, 1) := by decide +kernel
theorem dX4_worth_98 : decode cX4_worth 98 = .ok (.getfield 25, 3) := by decide +kernel
theorem dX4_worth_101 : decode cX4_worth 101 = .ok (.iload_n 3, 1) := by decide +kernel
theorem dX4_worth_102 : decode cX4_worth 102 = .ok (.iconst 1, 1) := by decide +kernel
theorem dX4_worth_103 : decode cX4_worth 103 = .ok (.isub, 1) := by decide +kernel
theorem dX4_worth_104 : decode cX4_worth 104 = .ok (.iaload, 1) := by decide +kernel
theorem dX4_worth_105 : decode cX4_worth 105 = .ok (.ireturn, 1) := by decide +kernel
theorem dX4_worth_106 : decode cX4_worth 106 = .ok (.iload 5, 2) := by decide +kernel
theorem dX4_worth_108 : decode cX4_worth 108 = .ok (.bipush 9, 2) := by decide +kernel
theorem dX4_worth_110 : decode cX4_worth 110 = .ok (.if_icmp .ne 24, 3) := by decide +kernel
theorem dX4_worth_113 : decode cX4_worth 113 = .ok (.aload_n 0, 1) := by decide +kernel
theorem dX4_worth_114 : decode cX4_worth 114 = .ok (.getfield 25, 3) := by decide +kernel
theorem dX4_worth_117 : decode cX4_worth 117 = .ok (.iload_n 3, 1) := by decide +kernel
theorem dX4_worth_118 : decode cX4_worth 118 = .ok (.iconst 1, 1) := by decide +kernel
theorem dX4_worth_119 : decode cX4_worth 119 = .ok (.isub, 1) := by decide +kernel
theorem dX4_worth_120 : decode cX4_worth 120 = .ok (.iconst 1, 1) := by decide +kernel
theorem dX4_worth_121 : decode cX4_worth 121 = .ok (.aload_n 0, 1) := by decide +kernel
theorem dX4_worth_122 : decode cX4_worth 122 = .ok (.getfield 25, 3) := by decide +kernel
theorem dX4_worth_125 : decode cX4_worth 125 = .ok (.iload_n 3, 1) := by decide +kernel
theorem dX4_worth_126 : decode cX4_worth 126 = .ok (.iconst 1, 1) := by decide +kernel
theorem dX4_worth_127 : decode cX4_worth 127 = .ok (.isub, 1) := by decide +kernel
theorem dX4_worth_128 : decode cX4_worth 128 = .ok (.iaload, 1) := by decide +kernel
theorem dX4_worth_129 : decode cX4_worth 129 = .ok (.isub, 1) := by decide +kernel
theorem dX4_worth_130 : decode cX4_worth 130 = .ok (.iastore, 1) := by decide +kernel
theorem dX4_worth_131 : decode cX4_worth 131 = .ok (.goto 78, 3) := by decide +kernel
theorem dX4_worth_134 : decode cX4_worth 134 = .ok (.iload 5, 2) := by decide +kernel
theorem dX4_worth_136 : decode cX4_worth 136 = .ok (.bipush 12, 2) := by decide +kernel
theorem dX4_worth_138 : decode cX4_worth 138 = .ok (.if_icmp .ne 29, 3) := by decide +kernel
theorem dX4_worth_141 : decode cX4_worth 141 = .ok (.iinc 3 (-1), 3) := by decide +kernel
theorem dX4_worth_144 : decode cX4_worth 144 = .ok (.aload_n 0, 1) := by decide +kernel
theorem dX4_worth_145 : decode cX4_worth 145 = .ok (.getfield 25, 3) := by decide +kernel
theorem dX4_worth_148 : decode cX4_worth 148 = .ok (.iload_n 3, 1) := by decide +kernel
theorem dX4_worth_149 : decode cX4_worth 149 = .ok (.iaload, 1) := by decide +kernel
theorem dX4_worth_150 : decode cX4_worth 150 = .ok (.ifCond .ne 59, 3) := by decide +kernel
theorem dX4_worth_153 : decode cX4_worth 153 = .ok (.iload 4, 2) := by decide +kernel
theorem dX4_worth_155 : decode cX4_worth 155 = .ok (.iload 6, 2) := by decide +kernel
theorem dX4_worth_157 : decode cX4_worth 157 = .ok (.iconst 1, 1) := by decide +kernel
theorem dX4_worth_158 : decode cX4_worth 158 = .ok (.isub, 1) := by decide +kernel
theorem dX4_worth_159 : decode cX4_worth 159 = .ok (.invokestatic 64, 3) := by decide +kernel
theorem dX4_worth_162 : decode cX4_worth 162 = .ok (.istore 4, 2) := by decide +kernel
theorem dX4_worth_164 : decode cX4_worth 164 = .ok (.goto 45, 3) := by decide +kernel
theorem dX4_worth_167 : decode cX4_worth 167 = .ok (.iload_n 3, 1) := by decide +kernel
theorem dX4_worth_168 : decode cX4_worth 168 = .ok (.iconst 1, 1) := by decide +kernel
theorem dX4_worth_169 : decode cX4_worth 169 = .ok (.if_icmp .le 40, 3) := by decide +kernel
theorem dX4_worth_172 : decode cX4_worth 172 = .ok (.iinc 3 (-1), 3) := by decide +kernel
theorem dX4_worth_175 : decode cX4_worth 175 = .ok (.aload_n 0, 1) := by decide +kernel
theorem dX4_worth_176 : decode cX4_worth 176 = .ok (.getfield 25, 3) := by decide +kernel
theorem dX4_worth_179 : decode cX4_worth 179 = .ok (.iload_n 3, 1) := by decide +kernel
theorem dX4_worth_180 : decode cX4_worth 180 = .ok (.iconst 1, 1) := by decide +kernel
theorem dX4_worth_181 : decode cX4_worth 181 = .ok (.isub, 1) := by decide +kernel
theorem dX4_worth_182 : decode cX4_worth 182 = .ok (.iload 5, 2) := by decide +kernel
theorem dX4_worth_184 : decode cX4_worth 184 = .ok (.aload_n 0, 1) := by decide +kernel
theorem dX4_worth_185 : decode cX4_worth 185 = .ok (.getfield 25, 3) := by decide +kernel
theorem dX4_worth_188 : decode cX4_worth 188 = .ok (.iload_n 3, 1) := by decide +kernel
theorem dX4_worth_189 : decode cX4_worth 189 = .ok (.iconst 1, 1) := by decide +kernel
theorem dX4_worth_190 : decode cX4_worth 190 = .ok (.isub, 1) := by decide +kernel
theorem dX4_worth_191 : decode cX4_worth 191 = .ok (.iaload, 1) := by decide +kernel
theorem dX4_worth_192 : decode cX4_worth 192 = .ok (.i2l, 1) := by decide +kernel
theorem dX4_worth_193 : decode cX4_worth 193 = .ok (.aload_n 0, 1) := by decide +kernel
theorem dX4_worth_194 : decode cX4_worth 194 = .ok (.getfield 25, 3) := by decide +kernel
theorem dX4_worth_197 : decode cX4_worth 197 = .ok (.iload_n 3, 1) := by decide +kernel
theorem dX4_worth_198 : decode cX4_worth 198 = .ok (.iaload, 1) := by decide +kernel
theorem dX4_worth_199 : decode cX4_worth 199 = .ok (.i2l, 1) := by decide +kernel
theorem dX4_worth_200 : decode cX4_worth 200 = .ok (.invokestatic 69, 3) := by decide +kernel
theorem dX4_worth_203 : decode cX4_worth 203 = .ok (.ldc 73, 2) := by decide +kernel
theorem dX4_worth_205 : decode cX4_worth 205 = .ok (.invokestatic 49, 3) := by decide +kernel
theorem dX4_worth_208 : decode cX4_worth 208 = .ok (.iastore, 1) := by decide +kernel
theorem dX4_worth_209 : decode cX4_worth 209 = .ok (.iinc 4 1, 3) := by decide +kernel
theorem dX4_worth_212 : decode cX4_worth 212 = .ok (.goto (-207), 3) := by decide +kernel
theorem dX4_worth_215 : decode cX4_worth 215 = .ok (.iconst 0, 1) := by decide +kernel
theorem dX4_worth_216 : decode cX4_worth 216 = .ok (.ireturn, 1) := by decide +kernel
theorem dX4_letterOf_0 : decode cX4_letterOf 0 = .ok (.iload_n 1, 1) := by decide +kernel
theorem dX4_letterOf_1 : decode cX4_letterOf 1 = .ok (.ifCond .lt 21, 3) := by decide +kernel
theorem dX4_letterOf_4 : decode cX4_letterOf 4 = .ok (.iload_n 1, 1) := by decide +kernel
theorem dX4_letterOf_5 : decode cX4_letterOf 5 = .ok (.aload_n 0, 1) := by decide +kernel
theorem dX4_letterOf_6 : decode cX4_letterOf 6 = .ok (.getfield 22, 3) := by decide +kernel
theorem dX4_letterOf_9 : decode cX4_letterOf 9 = .ok (.arraylength, 1) := by decide +kernel
theorem dX4_letterOf_10 : decode cX4_letterOf 10 = .ok (.if_icmp .ge 12, 3) := by decide +kernel
theorem dX4_letterOf_13 : decode cX4_letterOf 13 = .ok (.aload_n 0, 1) := by decide +kernel
theorem dX4_letterOf_14 : decode cX4_letterOf 14 = .ok (.getfield 22, 3) := by decide +kernel
theorem dX4_letterOf_17 : decode cX4_letterOf 17 = .ok (.iload_n 1, 1) := by decide +kernel
theorem dX4_letterOf_18 : decode cX4_letterOf 18 = .ok (.iaload, 1) := by decide +kernel
theorem dX4_letterOf_19 : decode cX4_letterOf 19 = .ok (.goto 4, 3) := by decide +kernel
theorem dX4_letterOf_22 : decode cX4_letterOf 22 = .ok (.iconst 0, 1) := by decide +kernel
theorem dX4_letterOf_23 : decode cX4_letterOf 23 = .ok (.ireturn, 1) := by decide +kernel
theorem dX4_joined_0 : decode cX4_joined 0 = .ok (.iload_n 0, 1) := by decide +kernel
theorem dX4_joined_1 : decode cX4_joined 1 = .ok (.tableswitch 117 2 10 #[51, 55, 59, 63, 77, 89, 101, 117, 113], 51) := by decide +kernel
theorem dX4_joined_52 : decode cX4_joined 52 = .ok (.lload_n 1, 1) := by decide +kernel
theorem dX4_joined_53 : decode cX4_joined 53 = .ok (.lload_n 3, 1) := by decide +kernel
theorem dX4_joined_54 : decode cX4_joined 54 = .ok (.ladd, 1) := by decide +kernel
theorem dX4_joined_55 : decode cX4_joined 55 = .ok (.lreturn, 1) := by decide +kernel
theorem dX4_joined_56 : decode cX4_joined 56 = .ok (.lload_n 1, 1) := by decide +kernel
theorem dX4_joined_57 : decode cX4_joined 57 = .ok (.lload_n 3, 1) := by decide +kernel
theorem dX4_joined_58 : decode cX4_joined 58 = .ok (.lsub, 1) := by decide +kernel
theorem dX4_joined_59 : decode cX4_joined 59 = .ok (.lreturn, 1) := by decide +kernel
theorem dX4_joined_60 : decode cX4_joined 60 = .ok (.lload_n 1, 1) := by decide +kernel
theorem dX4_joined_61 : decode cX4_joined 61 = .ok (.lload_n 3, 1) := by decide +kernel
theorem dX4_joined_62 : decode cX4_joined 62 = .ok (.lmul, 1) := by decide +kernel
theorem dX4_joined_63 : decode cX4_joined 63 = .ok (.lreturn, 1) := by decide +kernel
theorem dX4_joined_64 : decode cX4_joined 64 = .ok (.lload_n 3, 1) := by decide +kernel
theorem dX4_joined_65 : decode cX4_joined 65 = .ok (.lconst 0, 1) := by decide +kernel
theorem dX4_joined_66 : decode cX4_joined 66 = .ok (.lcmp, 1) := by decide +kernel
theorem dX4_joined_67 : decode cX4_joined 67 = .ok (.ifCond .ne 7, 3) := by decide +kernel
theorem dX4_joined_70 : decode cX4_joined 70 = .ok (.lconst 0, 1) := by decide +kernel
theorem dX4_joined_71 : decode cX4_joined 71 = .ok (.goto 6, 3) := by decide +kernel
theorem dX4_joined_74 : decode cX4_joined 74 = .ok (.lload_n 1, 1) := by decide +kernel
theorem dX4_joined_75 : decode cX4_joined 75 = .ok (.lload_n 3, 1) := by decide +kernel
theorem dX4_joined_76 : decode cX4_joined 76 = .ok (.ldiv, 1) := by decide +kernel
theorem dX4_joined_77 : decode cX4_joined 77 = .ok (.lreturn, 1) := by decide +kernel
theorem dX4_joined_78 : decode cX4_joined 78 = .ok (.lload_n 1, 1) := by decide +kernel
theorem dX4_joined_79 : decode cX4_joined 79 = .ok (.lload_n 3, 1) := by decide +kernel
theorem dX4_joined_80 : decode cX4_joined 80 = .ok (.lcmp, 1) := by decide +kernel
theorem dX4_joined_81 : decode cX4_joined 81 = .ok (.ifCond .ne 7, 3) := by decide +kernel
theorem dX4_joined_84 : decode cX4_joined 84 = .ok (.lconst 1, 1) := by decide +kernel
theorem dX4_joined_85 : decode cX4_joined 85 = .ok (.goto 4, 3) := by decide +kernel
theorem dX4_joined_88 : decode cX4_joined 88 = .ok (.lconst 0, 1) := by decide +kernel
theorem dX4_joined_89 : decode cX4_joined 89 = .ok (.lreturn, 1) := by decide +kernel
theorem dX4_joined_90 : decode cX4_joined 90 = .ok (.lload_n 1, 1) := by decide +kernel
theorem dX4_joined_91 : decode cX4_joined 91 = .ok (.lload_n 3, 1) := by decide +kernel
theorem dX4_joined_92 : decode cX4_joined 92 = .ok (.lcmp, 1) := by decide +kernel
theorem dX4_joined_93 : decode cX4_joined 93 = .ok (.ifCond .ge 7, 3) := by decide +kernel
theorem dX4_joined_96 : decode cX4_joined 96 = .ok (.lconst 1, 1) := by decide +kernel
theorem dX4_joined_97 : decode cX4_joined 97 = .ok (.goto 4, 3) := by decide +kernel
theorem dX4_joined_100 : decode cX4_joined 100 = .ok (.lconst 0, 1) := by decide +kernel
theorem dX4_joined_101 : decode cX4_joined 101 = .ok (.lreturn, 1) := by decide +kernel
theorem dX4_joined_102 : decode cX4_joined 102 = .ok (.lload_n 1, 1) := by decide +kernel
theorem dX4_joined_103 : decode cX4_joined 103 = .ok (.lload_n 3, 1) := by decide +kernel
theorem dX4_joined_104 : decode cX4_joined 104 = .ok (.lcmp, 1) := by decide +kernel
theorem dX4_joined_105 : decode cX4_joined 105 = .ok (.ifCond .le 7, 3) := by decide +kernel
theorem dX4_joined_108 : decode cX4_joined 108 = .ok (.lconst 1, 1) := by decide +kernel
theorem dX4_joined_109 : decode cX4_joined 109 = .ok (.goto 4, 3) := by decide +kernel
theorem dX4_joined_112 : decode cX4_joined 112 = .ok (.lconst 0, 1) := by decide +kernel
theorem dX4_joined_113 : decode cX4_joined 113 = .ok (.lreturn, 1) := by decide +kernel
theorem dX4_joined_114 : decode cX4_joined 114 = .ok (.lload_n 1, 1) := by decide +kernel
theorem dX4_joined_115 : decode cX4_joined 115 = .ok (.lload_n 3, 1) := by decide +kernel
theorem dX4_joined_116 : decode cX4_joined 116 = .ok (.land, 1) := by decide +kernel
theorem dX4_joined_117 : decode cX4_joined 117 = .ok (.lreturn, 1) := by decide +kernel
theorem dX4_joined_118 : decode cX4_joined 118 = .ok (.lload_n 1, 1) := by decide +kernel
theorem dX4_joined_119 : decode cX4_joined 119 = .ok (.lload_n 3, 1) := by decide +kernel
theorem dX4_joined_120 : decode cX4_joined 120 = .ok (.lor, 1) := by decide +kernel
theorem dX4_joined_121 : decode cX4_joined 121 = .ok (.lreturn, 1) := by decide +kernel
theorem dX5_open_0 : decode cX5_open 0 = .ok (.aload_n 1, 1) := by decide +kernel
theorem dX5_open_1 : decode cX5_open 1 = .ok (.aload_n 0, 1) := by decide +kernel
theorem dX5_open_2 : decode cX5_open 2 = .ok (.getfield 11, 3) := by decide +kernel
theorem dX5_open_5 : decode cX5_open 5 = .ok (.aload_n 0, 1) := by decide +kernel
theorem dX5_open_6 : decode cX5_open 6 = .ok (.getfield 17, 3) := by decide +kernel
theorem dX5_open_9 : decode cX5_open 9 = .ok (.invokevirtual 28, 3) := by decide +kernel
theorem dX5_open_12 : decode cX5_open 12 = .ok (.aload_n 0, 1) := by decide +kernel
theorem dX5_open_13 : decode cX5_open 13 = .ok (.aload_n 1, 1) := by decide +kernel
theorem dX5_open_14 : decode cX5_open 14 = .ok (.invokevirtual 32, 3) := by decide +kernel
theorem dX5_open_17 : decode cX5_open 17 = .ok (.putfield 20, 3) := by decide +kernel
theorem dX5_open_20 : decode cX5_open 20 = .ok (.aload_n 0, 1) := by decide +kernel
theorem dX5_open_21 : decode cX5_open 21 = .ok (.iconst 1, 1) := by decide +kernel
theorem dX5_open_22 : decode cX5_open 22 = .ok (.putfield 24, 3) := by decide +kernel
theorem dX5_open_25 : decode cX5_open 25 = .ok (.return_, 1) := by decide +kernel
theorem dX5_stands_0 : decode cX5_stands 0 = .ok (.aload_n 0, 1) := by decide +kernel
theorem dX5_stands_1 : decode cX5_stands 1 = .ok (.getfield 24, 3) := by decide +kernel
theorem dX5_stands_4 : decode cX5_stands 4 = .ok (.ireturn, 1) := by decide +kernel
theorem dX5_ruleOf_0 : decode cX5_ruleOf 0 = .ok (.iload_n 1, 1) := by decide +kernel
theorem dX5_ruleOf_1 : decode cX5_ruleOf 1 = .ok (.ifCond .lt 17, 3) := by decide +kernel
theorem dX5_ruleOf_4 : decode cX5_ruleOf 4 = .ok (.iload_n 1, 1) := by decide +kernel
theorem dX5_ruleOf_5 : decode cX5_ruleOf 5 = .ok (.iconst 4, 1) := by decide +kernel
theorem dX5_ruleOf_6 : decode cX5_ruleOf 6 = .ok (.if_icmp .ge 12, 3) := by decide +kernel
theorem dX5_ruleOf_9 : decode cX5_ruleOf 9 = .ok (.aload_n 0, 1) := by decide +kernel
theorem dX5_ruleOf_10 : decode cX5_ruleOf 10 = .ok (.getfield 11, 3) := by decide +kernel
theorem dX5_ruleOf_13 : decode cX5_ruleOf 13 = .ok (.iload_n 1, 1) := by decide +kernel
theorem dX5_ruleOf_14 : decode cX5_ruleOf 14 = .ok (.iaload, 1) := by decide +kernel
theorem dX5_ruleOf_15 : decode cX5_ruleOf 15 = .ok (.goto 4, 3) := by decide +kernel
theorem dX5_ruleOf_18 : decode cX5_ruleOf 18 = .ok (.iconst 0, 1) := by decide +kernel
theorem dX5_ruleOf_19 : decode cX5_ruleOf 19 = .ok (.ireturn, 1) := by decide +kernel
theorem dX5_hasShelf_0 : decode cX5_hasShelf 0 = .ok (.iload_n 1, 1) := by decide +kernel
theorem dX5_hasShelf_1 : decode cX5_hasShelf 1 = .ok (.ifCond .lt 17, 3) := by decide +kernel
theorem dX5_hasShelf_4 : decode cX5_hasShelf 4 = .ok (.iload_n 1, 1) := by decide +kernel
theorem dX5_hasShelf_5 : decode cX5_hasShelf 5 = .ok (.aload_n 0, 1) := by decide +kernel
theorem dX5_hasShelf_6 : decode cX5_hasShelf 6 = .ok (.getfield 11, 3) := by decide +kernel
theorem dX5_hasShelf_9 : decode cX5_hasShelf 9 = .ok (.iconst 1, 1) := by decide +kernel
theorem dX5_hasShelf_10 : decode cX5_hasShelf 10 = .ok (.iaload, 1) := by decide +kernel
theorem dX5_hasShelf_11 : decode cX5_hasShelf 11 = .ok (.if_icmp .ge 7, 3) := by decide +kernel
theorem dX5_hasShelf_14 : decode cX5_hasShelf 14 = .ok (.iconst 1, 1) := by decide +kernel
theorem dX5_hasShelf_15 : decode cX5_hasShelf 15 = .ok (.goto 4, 3) := by decide +kernel
theorem dX5_hasShelf_18 : decode cX5_hasShelf 18 = .ok (.iconst 0, 1) := by decide +kernel
theorem dX5_hasShelf_19 : decode cX5_hasShelf 19 = .ok (.ireturn, 1) := by decide +kernel
theorem dX5_toldCount_0 : decode cX5_toldCount 0 = .ok (.aload_n 0, 1) := by decide +kernel
theorem dX5_toldCount_1 : decode cX5_toldCount 1 = .ok (.getfield 20, 3) := by decide +kernel
theorem dX5_toldCount_4 : decode cX5_toldCount 4 = .ok (.ireturn, 1) := by decide +kernel
theorem dX5_hasTold_0 : decode cX5_hasTold 0 = .ok (.iload_n 1, 1) := by decide +kernel
theorem dX5_hasTold_1 : decode cX5_hasTold 1 = .ok (.ifCond .lt 15, 3) := by decide +kernel
theorem dX5_hasTold_4 : decode cX5_hasTold 4 = .ok (.iload_n 1, 1) := by decide +kernel
theorem dX5_hasTold_5 : decode cX5_hasTold 5 = .ok (.aload_n 0, 1) := by decide +kernel
theorem dX5_hasTold_6 : decode cX5_hasTold 6 = .ok (.getfield 20, 3) := by decide +kernel
theorem dX5_hasTold_9 : decode cX5_hasTold 9 = .ok (.if_icmp .ge 7, 3) := by decide +kernel
theorem dX5_hasTold_12 : decode cX5_hasTold 12 = .ok (.iconst 1, 1) := by decide +kernel
theorem dX5_hasTold_13 : decode cX5_hasTold 13 = .ok (.goto 4, 3) := by decide +kernel
theorem dX5_hasTold_16 : decode cX5_hasTold 16 = .ok (.iconst 0, 1) := by decide +kernel
theorem dX5_hasTold_17 : decode cX5_hasTold 17 = .ok (.ireturn, 1) := by decide +kernel
theorem dX5_toldOf_0 : decode cX5_toldOf 0 = .ok (.iload_n 1, 1) := by decide +kernel
theorem dX5_toldOf_1 : decode cX5_toldOf 1 = .ok (.iconst 5, 1) := by decide +kernel
theorem dX5_toldOf_2 : decode cX5_toldOf 2 = .ok (.imul, 1) := by decide +kernel
theorem dX5_toldOf_3 : decode cX5_toldOf 3 = .ok (.iload_n 2, 1) := by decide +kernel
theorem dX5_toldOf_4 : decode cX5_toldOf 4 = .ok (.iadd, 1) := by decide +kernel
theorem dX5_toldOf_5 : decode cX5_toldOf 5 = .ok (.istore_n 3, 1) := by decide +kernel
theorem dX5_toldOf_6 : decode cX5_toldOf 6 = .ok (.iload_n 3, 1) := by decide +kernel
theorem dX5_toldOf_7 : decode cX5_toldOf 7 = .ok (.ifCond .lt 21, 3) := by decide +kernel
theorem dX5_toldOf_10 : decode cX5_toldOf 10 = .ok (.iload_n 3, 1) := by decide +kernel
theorem dX5_toldOf_11 : decode cX5_toldOf 11 = .ok (.aload_n 0, 1) := by decide +kernel
theorem dX5_toldOf_12 : decode cX5_toldOf 12 = .ok (.getfield 17, 3) := by decide +kernel
theorem dX5_toldOf_15 : decode cX5_toldOf 15 = .ok (.arraylength, 1) := by decide +kernel
theorem dX5_toldOf_16 : decode cX5_toldOf 16 = .ok (.if_icmp .ge 12, 3) := by decide +kernel
theorem dX5_toldOf_19 : decode cX5_toldOf 19 = .ok (.aload_n 0, 1) := by decide +kernel
theorem dX5_toldOf_20 : decode cX5_toldOf 20 = .ok (.getfield 17, 3) := by decide +kernel
theorem dX5_toldOf_23 : decode cX5_toldOf 23 = .ok (.iload_n 3, 1) := by decide +kernel
theorem dX5_toldOf_24 : decode cX5_toldOf 24 = .ok (.iaload, 1) := by decide +kernel
theorem dX5_toldOf_25 : decode cX5_toldOf 25 = .ok (.goto 4, 3) := by decide +kernel
theorem dX5_toldOf_28 : decode cX5_toldOf 28 = .ok (.iconst 0, 1) := by decide +kernel
theorem dX5_toldOf_29 : decode cX5_toldOf 29 = .ok (.ireturn, 1) := by decide +kernel
theorem dX6_bagCount_0 : decode cX6_bagCount 0 = .ok (.aload_n 0, 1) := by decide +kernel
theorem dX6_bagCount_1 : decode cX6_bagCount 1 = .ok (.getfield 22, 3) := by decide +kernel
theorem dX6_bagCount_4 : decode cX6_bagCount 4 = .ok (.ireturn, 1) := by decide +kernel
theorem dX6_copyTo_0 : decode cX6_copyTo 0 = .ok (.aload_n 0, 1) := by decide +kernel
theorem dX6_copyTo_1 : decode cX6_copyTo 1 = .ok (.getfield 11, 3) := by decide +kernel
theorem dX6_copyTo_4 : decode cX6_copyTo 4 = .ok (.iconst 0, 1) := by decide +kernel
theorem dX6_copyTo_5 : decode cX6_copyTo 5 = .ok (.aload_n 1, 1) := by decide +kernel
theorem dX6_copyTo_6 : decode cX6_copyTo 6 = .ok (.iconst 0, 1) := by decide +kernel
theorem dX6_copyTo_7 : decode cX6_copyTo 7 = .ok (.iconst 4, 1) := by decide +kernel
theorem dX6_copyTo_8 : decode cX6_copyTo 8 = .ok (.aload_n 1, 1) := by decide +kernel
theorem dX6_copyTo_9 : decode cX6_copyTo 9 = .ok (.arraylength, 1) := by decide +kernel
theorem dX6_copyTo_10 : decode cX6_copyTo 10 = .ok (.invokestatic 30, 3) := by decide +kernel
theorem dX6_copyTo_13 : decode cX6_copyTo 13 = .ok (.invokestatic 36, 3) := by decide +kernel
theorem dX6_copyTo_16 : decode cX6_copyTo 16 = .ok (.aload_n 0, 1) := by decide +kernel
theorem dX6_copyTo_17 : decode cX6_copyTo 17 = .ok (.getfield 15, 3) := by decide +kernel
theorem dX6_copyTo_20 : decode cX6_copyTo 20 = .ok (.iconst 0, 1) := by decide +kernel
theorem dX6_copyTo_21 : decode cX6_copyTo 21 = .ok (.aload_n 2, 1) := by decide +kernel
theorem dX6_copyTo_22 : decode cX6_copyTo 22 = .ok (.iconst 0, 1) := by decide +kernel
theorem dX6_copyTo_23 : decode cX6_copyTo 23 = .ok (.aload_n 0, 1) := by decide +kernel
theorem dX6_copyTo_24 : decode cX6_copyTo 24 = .ok (.getfield 15, 3) := by decide +kernel
theorem dX6_copyTo_27 : decode cX6_copyTo 27 = .ok (.arraylength, 1) := by decide +kernel
theorem dX6_copyTo_28 : decode cX6_copyTo 28 = .ok (.aload_n 2, 1) := by decide +kernel
theorem dX6_copyTo_29 : decode cX6_copyTo 29 = .ok (.arraylength, 1) := by decide +kernel
theorem dX6_copyTo_30 : decode cX6_copyTo 30 = .ok (.invokestatic 30, 3) := by decide +kernel
theorem dX6_copyTo_33 : decode cX6_copyTo 33 = .ok (.invokestatic 36, 3) := by decide +kernel
theorem dX6_copyTo_36 : decode cX6_copyTo 36 = .ok (.return_, 1) := by decide +kernel
theorem dX6_read_0 : decode cX6_read 0 = .ok (.aload_n 0, 1) := by decide +kernel
theorem dX6_read_1 : decode cX6_read 1 = .ok (.getfield 26, 3) := by decide +kernel
theorem dX6_read_4 : decode cX6_read 4 = .ok (.invokevirtual 42, 3) := by decide +kernel
theorem dX6_read_7 : decode cX6_read 7 = .ok (.aload_n 0, 1) := by decide +kernel
theorem dX6_read_8 : decode cX6_read 8 = .ok (.iconst 0, 1) := by decide +kernel
theorem dX6_read_9 : decode cX6_read 9 = .ok (.putfield 18, 3) := by decide +kernel
theorem dX6_read_12 : decode cX6_read 12 = .ok (.aload_n 0, 1) := by decide +kernel
theorem dX6_read_13 : decode cX6_read 13 = .ok (.iconst 0, 1) := by decide +kernel
theorem dX6_read_14 : decode cX6_read 14 = .ok (.putfield 22, 3) := by decide +kernel
theorem dX6_read_17 : decode cX6_read 17 = .ok (.getstatic 47, 3) := by decide +kernel
theorem dX6_read_20 : decode cX6_read 20 = .ok (.iconst 0, 1) := by decide +kernel
theorem dX6_read_21 : decode cX6_read 21 = .ok (.aload_n 0, 1) := by decide +kernel
theorem dX6_read_22 : decode cX6_read 22 = .ok (.getfield 11, 3) := by decide +kernel
theorem dX6_read_25 : decode cX6_read 25 = .ok (.iconst 0, 1) := by decide +kernel
theorem dX6_read_26 : decode cX6_read 26 = .ok (.iconst 4, 1) := by decide +kernel
theorem dX6_read_27 : decode cX6_read 27 = .ok (.invokestatic 36, 3) := by decide +kernel
theorem dX6_read_30 : decode cX6_read 30 = .ok (.iconst 0, 1) := by decide +kernel
theorem dX6_read_31 : decode cX6_read 31 = .ok (.istore_n 1, 1) := by decide +kernel
theorem dX6_read_32 : decode cX6_read 32 = .ok (.iload_n 1, 1) := by decide +kernel
theorem dX6_read_33 : decode cX6_read 33 = .ok (.bipush 8, 2) := by decide +kernel
theorem dX6_read_35 : decode cX6_read 35 = .ok (.if_icmp .ge 24, 3) := by decide +kernel
theorem dX6_read_38 : decode cX6_read 38 = .ok (.getstatic 50, 3) := by decide +kernel
theorem dX6_read_41 : decode cX6_read 41 = .ok (.iconst 0, 1) := by decide +kernel
theorem dX6_read_42 : decode cX6_read 42 = .ok (.aload_n 0, 1) := by decide +kernel
theorem dX6_read_43 : decode cX6_read 43 = .ok (.getfield 15, 3) := by decide +kernel
theorem dX6_read_46 : decode cX6_read 46 = .ok (.iload_n 1, 1) := by decide +kernel
theorem dX6_read_47 : decode cX6_read 47 = .ok (.iconst 5, 1) := by decide +kernel
theorem dX6_read_48 : decode cX6_read 48 = .ok (.imul, 1) := by decide +kernel
theorem dX6_read_49 : decode cX6_read 49 = .ok (.iconst 5, 1) := by decide +kernel
theorem dX6_read_50 : decode cX6_read 50 = .ok (.invokestatic 36, 3) := by decide +kernel
theorem dX6_read_53 : decode cX6_read 53 = .ok (.iinc 1 1, 3) := by decide +kernel
theorem dX6_read_56 : decode cX6_read 56 = .ok (.goto (-24), 3) := by decide +kernel
theorem dX6_read_59 : decode cX6_read 59 = .ok (.iconst 0, 1) := by decide +kernel
theorem dX6_read_60 : decode cX6_read 60 = .ok (.istore_n 1, 1) := by decide +kernel
theorem dX6_read_61 : decode cX6_read 61 = .ok (.iload_n 1, 1) := by decide +kernel
theorem dX6_read_62 : decode cX6_read 62 = .ok (.sipush 240, 3) := by decide +kernel
theorem dX6_read_65 : decode cX6_read 65 = .ok (.if_icmp .gt 61, 3) := by decide +kernel
theorem dX6_read_68 : decode cX6_read 68 = .ok (.aload_n 0, 1) := by decide +kernel
theorem dX6_read_69 : decode cX6_read 69 = .ok (.invokevirtual 53, 3) := by decide +kernel
theorem dX6_read_72 : decode cX6_read 72 = .ok (.ifCond .ne 11, 3) := by decide +kernel
theorem dX6_read_75 : decode cX6_read 75 = .ok (.aload_n 0, 1) := by decide +kernel
theorem dX6_read_76 : decode cX6_read 76 = .ok (.getfield 26, 3) := by decide +kernel
theorem dX6_read_79 : decode cX6_read 79 = .ok (.invokevirtual 57, 3) := by decide +kernel
theorem dX6_read_82 : decode cX6_read 82 = .ok (.ireturn, 1) := by decide +kernel
theorem dX6_read_83 : decode cX6_read 83 = .ok (.aload_n 0, 1) := by decide +kernel
theorem dX6_read_84 : decode cX6_read 84 = .ok (.getfield 26, 3) := by decide +kernel
theorem dX6_read_87 : decode cX6_read 87 = .ok (.invokevirtual 61, 3) := by decide +kernel
theorem dX6_read_90 : decode cX6_read 90 = .ok (.iconst (-1), 1) := by decide +kernel
theorem dX6_read_91 : decode cX6_read 91 = .ok (.if_icmp .ne 22, 3) := by decide +kernel
theorem dX6_read_94 : decode cX6_read 94 = .ok (.aload_n 0, 1) := by decide +kernel
theorem dX6_read_95 : decode cX6_read 95 = .ok (.invokevirtual 64, 3) := by decide +kernel
theorem dX6_read_98 : decode cX6_read 98 = .ok (.ifCond .eq 7, 3) := by decide +kernel
theorem dX6_read_101 : decode cX6_read 101 = .ok (.iconst (-1), 1) := by decide +kernel
theorem dX6_read_102 : decode cX6_read 102 = .ok (.goto 10, 3) := by decide +kernel
theorem dX6_read_105 : decode cX6_read 105 = .ok (.aload_n 0, 1) := by decide +kernel
theorem dX6_read_106 : decode cX6_read 106 = .ok (.getfield 26, 3) := by decide +kernel
theorem dX6_read_109 : decode cX6_read 109 = .ok (.invokevirtual 67, 3) := by decide +kernel
theorem dX6_read_112 : decode cX6_read 112 = .ok (.ireturn, 1) := by decide +kernel
theorem dX6_read_113 : decode cX6_read 113 = .ok (.aload_n 0, 1) := by decide +kernel
theorem dX6_read_114 : decode cX6_read 114 = .ok (.getfield 26, 3) := by decide +kernel
theorem dX6_read_117 : decode cX6_read 117 = .ok (.invokevirtual 70, 3) := by decide +kernel
theorem dX6_read_120 : decode cX6_read 120 = .ok (.iinc 1 1, 3) := by decide +kernel
theorem dX6_read_123 : decode cX6_read 123 = .ok (.goto (-62), 3) := by decide +kernel
theorem dX6_read_126 : decode cX6_read 126 = .ok (.aload_n 0, 1) := by decide +kernel
theorem dX6_read_127 : decode cX6_read 127 = .ok (.getfield 26, 3) := by decide +kernel
theorem dX6_read_130 : decode cX6_read 130 = .ok (.invokevirtual 67, 3) := by decide +kernel
theorem dX6_read_133 : decode cX6_read 133 = .ok (.ireturn, 1) := by decide +kernel
theorem dX6_readClause_0 : decode cX6_readClause 0 = .ok (.aload_n 0, 1) := by decide +kernel
theorem dX6_readClause_1 : decode cX6_readClause 1 = .ok (.getfield 26, 3) := by decide +kernel
theorem dX6_readClause_4 : decode cX6_readClause 4 = .ok (.invokevirtual 61, 3) := by decide +kernel
theorem dX6_readClause_7 : decode cX6_readClause 7 = .ok (.istore_n 1, 1) := by decide +kernel
theorem dX6_readClause_8 : decode cX6_readClause 8 = .ok (.iload_n 1, 1) := by decide +kernel
theorem dX6_readClause_9 : decode cX6_readClause 9 = .ok (.bipush 115, 2) := by decide +kernel
theorem dX6_readClause_11 : decode cX6_readClause 11 = .ok (.if_icmp .ne 40, 3) := by decide +kernel
theorem dX6_readClause_14 : decode cX6_readClause 14 = .ok (.aload_n 0, 1) := by decide +kernel
theorem dX6_readClause_15 : decode cX6_readClause 15 = .ok (.getfield 18, 3) := by decide +kernel
theorem dX6_readClause_18 : decode cX6_readClause 18 = .ok (.ifCond .ne 33, 3) := by decide +kernel
theorem dX6_readClause_21 : decode cX6_readClause 21 = .ok (.aload_n 0, 1) := by decide +kernel
theorem dX6_readClause_22 : decode cX6_readClause 22 = .ok (.iconst 1, 1) := by decide +kernel
theorem dX6_readClause_23 : decode cX6_readClause 23 = .ok (.putfield 18, 3) := by decide +kernel
theorem dX6_readClause_26 : decode cX6_readClause 26 = .ok (.aload_n 0, 1) := by decide +kernel
theorem dX6_readClause_27 : decode cX6_readClause 27 = .ok (.getfield 26, 3) := by decide +kernel
theorem dX6_readClause_30 : decode cX6_readClause 30 = .ok (.invokevirtual 70, 3) := by decide +kernel
theorem dX6_readClause_33 : decode cX6_readClause 33 = .ok (.aload_n 0, 1) := by decide +kernel
theorem dX6_readClause_34 : decode cX6_readClause 34 = .ok (.ldc 73, 2) := by decide +kernel
theorem dX6_readClause_36 : decode cX6_readClause 36 = .ok (.getstatic 75, 3) := by decide +kernel
theorem dX6_readClause_39 : decode cX6_readClause 39 = .ok (.getstatic 78, 3) := by decide +kernel
theorem dX6_readClause_42 : decode cX6_readClause 42 = .ok (.aload_n 0, 1) := by decide +kernel
theorem dX6_readClause_43 : decode cX6_readClause 43 = .ok (.getfield 11, 3) := by decide +kernel
theorem dX6_readClause_46 : decode cX6_readClause 46 = .ok (.iconst 0, 1) := by decide +kernel
theorem dX6_readClause_47 : decode cX6_readClause 47 = .ok (.invokevirtual 81, 3) := by decide +kernel
theorem dX6_readClause_50 : decode cX6_readClause 50 = .ok (.ireturn, 1) := by decide +kernel
theorem dX6_readClause_51 : decode cX6_readClause 51 = .ok (.iload_n 1, 1) := by decide +kernel
theorem dX6_readClause_52 : decode cX6_readClause 52 = .ok (.bipush 98, 2) := by decide +kernel
theorem dX6_readClause_54 : decode cX6_readClause 54 = .ok (.if_icmp .ne 54, 3) := by decide +kernel
theorem dX6_readClause_57 : decode cX6_readClause 57 = .ok (.aload_n 0, 1) := by decide +kernel
theorem dX6_readClause_58 : decode cX6_readClause 58 = .ok (.getfield 22, 3) := by decide +kernel
theorem dX6_readClause_61 : decode cX6_readClause 61 = .ok (.bipush 8, 2) := by decide +kernel
theorem dX6_readClause_63 : decode cX6_readClause 63 = .ok (.if_icmp .ge 45, 3) := by decide +kernel
theorem dX6_readClause_66 : decode cX6_readClause 66 = .ok (.aload_n 0, 1) := by decide +kernel
theorem dX6_readClause_67 : decode cX6_readClause 67 = .ok (.getfield 22, 3) := by decide +kernel
theorem dX6_readClause_70 : decode cX6_readClause 70 = .ok (.iconst 5, 1) := by decide +kernel
theorem dX6_readClause_71 : decode cX6_readClause 71 = .ok (.imul, 1) := by decide +kernel
theorem dX6_readClause_72 : decode cX6_readClause 72 = .ok (.istore_n 2, 1) := by decide +kernel
theorem dX6_readClause_73 : decode cX6_readClause 73 = .ok (.aload_n 0, 1) := by decide +kernel
theorem dX6_readClause_74 : decode cX6_readClause 74 = .ok (.dup, 1) := by decide +kernel
theorem dX6_readClause_75 : decode cX6_readClause 75 = .ok (.getfield 22, 3) := by decide +kernel
theorem dX6_readClause_78 : decode cX6_readClause 78 = .ok (.iconst 1, 1) := by decide +kernel
theorem dX6_readClause_79 : decode cX6_readClause 79 = .ok (.iadd, 1) := by decide +kernel
theorem dX6_readClause_80 : decode cX6_readClause 80 = .ok (.putfield 22, 3) := by decide +kernel
theorem dX6_readClause_83 : decode cX6_readClause 83 = .ok (.aload_n 0, 1) := by decide +kernel
theorem dX6_readClause_84 : decode cX6_readClause 84 = .ok (.getfield 26, 3) := by decide +kernel
theorem dX6_readClause_87 : decode cX6_readClause 87 = .ok (.invokevirtual 70, 3) := by decide +kernel
theorem dX6_readClause_90 : decode cX6_readClause 90 = .ok (.aload_n 0, 1) := by decide +kernel
theorem dX6_readClause_91 : decode cX6_readClause 91 = .ok (.ldc 85, 2) := by decide +kernel
theorem dX6_readClause_93 : decode cX6_readClause 93 = .ok (.getstatic 87, 3) := by decide +kernel
theorem dX6_readClause_96 : decode cX6_readClause 96 = .ok (.getstatic 90, 3) := by decide +kernel
theorem dX6_readClause_99 : decode cX6_readClause 99 = .ok (.aload_n 0, 1) := by decide +kernel
theorem dX6_readClause_100 : decode cX6_readClause 100 = .ok (.getfield 15, 3) := by decide +kernel
theorem dX6_readClause_103 : decode cX6_readClause 103 = .ok (.iload_n 2, 1) := by decide +kernel
theorem dX6_readClause_104 : decode cX6_readClause 104 = .ok (.invokevirtual 81, 3) := by decide +kernel
theorem dX6_readClause_107 : decode cX6_readClause 107 = .ok (.ireturn, 1) := by decide +kernel
theorem dX6_readClause_108 : decode cX6_readClause 108 = .ok (.aload_n 0, 1) := by decide +kernel
theorem dX6_readClause_109 : decode cX6_readClause 109 = .ok (.getfield 26, 3) := by decide +kernel
theorem dX6_readClause_112 : decode cX6_readClause 112 = .ok (.invokevirtual 93, 3) := by decide +kernel
theorem dX6_readClause_115 : decode cX6_readClause 115 = .ok (.ireturn, 1) := by decide +kernel
theorem dX6_readItems_0 : decode cX6_readItems 0 = .ok (.iconst 0, 1) := by decide +kernel
theorem dX6_readItems_1 : decode cX6_readItems 1 = .ok (.istore 6, 2) := by decide +kernel
theorem dX6_readItems_3 : decode cX6_readItems 3 = .ok (.iconst 0, 1) := by decide +kernel
theorem dX6_readItems_4 : decode cX6_readItems 4 = .ok (.istore 7, 2) := by decide +kernel
theorem dX6_readItems_6 : decode cX6_readItems 6 = .ok (.iload 7, 2) := by decide +kernel
theorem dX6_readItems_8 : decode cX6_readItems 8 = .ok (.aload_n 1, 1) := by decide +kernel
theorem dX6_readItems_9 : decode cX6_readItems 9 = .ok (.invokevirtual 96, 3) := by decide +kernel
theorem dX6_readItems_12 : decode cX6_readItems 12 = .ok (.if_icmp .gt 115, 3) := by decide +kernel
theorem dX6_readItems_15 : decode cX6_readItems 15 = .ok (.aload_n 0, 1) := by decide +kernel
theorem dX6_readItems_16 : decode cX6_readItems 16 = .ok (.invokevirtual 101, 3) := by decide +kernel
theorem dX6_readItems_19 : decode cX6_readItems 19 = .ok (.ifCond .ne 108, 3) := by decide +kernel
theorem dX6_readItems_22 : decode cX6_readItems 22 = .ok (.aload_n 0, 1) := by decide +kernel
theorem dX6_readItems_23 : decode cX6_readItems 23 = .ok (.aload_n 1, 1) := by decide +kernel
theorem dX6_readItems_24 : decode cX6_readItems 24 = .ok (.iload 6, 2) := by decide +kernel
theorem dX6_readItems_26 : decode cX6_readItems 26 = .ok (.invokevirtual 104, 3) := by decide +kernel
theorem dX6_readItems_29 : decode cX6_readItems 29 = .ok (.istore 8, 2) := by decide +kernel
theorem dX6_readItems_31 : decode cX6_readItems 31 = .ok (.iload 8, 2) := by decide +kernel
theorem dX6_readItems_33 : decode cX6_readItems 33 = .ok (.ifCond .lt 46, 3) := by decide +kernel
theorem dX6_readItems_36 : decode cX6_readItems 36 = .ok (.iload 8, 2) := by decide +kernel
theorem dX6_readItems_38 : decode cX6_readItems 38 = .ok (.aload_n 2, 1) := by decide +kernel
theorem dX6_readItems_39 : decode cX6_readItems 39 = .ok (.arraylength, 1) := by decide +kernel
theorem dX6_readItems_40 : decode cX6_readItems 40 = .ok (.if_icmp .ge 39, 3) := by decide +kernel
theorem dX6_readItems_43 : decode cX6_readItems 43 = .ok (.iload 8, 2) := by decide +kernel
theorem dX6_readItems_45 : decode cX6_readItems 45 = .ok (.aload_n 3, 1) := by decide +kernel
theorem dX6_readItems_46 : decode cX6_readItems 46 = .ok (.arraylength, 1) := by decide +kernel
theorem dX6_readItems_47 : decode cX6_readItems 47 = .ok (.if_icmp .ge 32, 3) := by decide +kernel
theorem dX6_readItems_50 : decode cX6_readItems 50 = .ok (.aload_n 0, 1) := by decide +kernel
theorem dX6_readItems_51 : decode cX6_readItems 51 = .ok (.getfield 26, 3) := by decide +kernel
theorem dX6_readItems_54 : decode cX6_readItems 54 = .ok (.iconst 2, 1) := by decide +kernel
theorem dX6_readItems_55 : decode cX6_readItems 55 = .ok (.invokevirtual 108, 3) := by decide +kernel
theorem dX6_readItems_58 : decode cX6_readItems 58 = .ok (.ifCond .eq 21, 3) := by decide +kernel
theorem dX6_readItems_61 : decode cX6_readItems 61 = .ok (.aload_n 0, 1) := by decide +kernel
theorem dX6_readItems_62 : decode cX6_readItems 62 = .ok (.getfield 26, 3) := by decide +kernel
theorem dX6_readItems_65 : decode cX6_readItems 65 = .ok (.aload_n 2, 1) := by decide +kernel
theorem dX6_readItems_66 : decode cX6_readItems 66 = .ok (.iload 8, 2) := by decide +kernel
theorem dX6_readItems_68 : decode cX6_readItems 68 = .ok (.iaload, 1) := by decide +kernel
theorem dX6_readItems_69 : decode cX6_readItems 69 = .ok (.aload_n 3, 1) := by decide +kernel
theorem dX6_readItems_70 : decode cX6_readItems 70 = .ok (.iload 8, 2) := by decide +kernel
theorem dX6_readItems_72 : decode cX6_readItems 72 = .ok (.iaload, 1) := by decide +kernel
theorem dX6_readItems_73 : decode cX6_readItems 73 = .ok (.invokevirtual 112, 3) := by decide +kernel
theorem dX6_readItems_76 : decode cX6_readItems 76 = .ok (.ifCond .ne 5, 3) := by decide +kernel
theorem dX6_readItems_79 : decode cX6_readItems 79 = .ok (.iconst 0, 1) := by decide +kernel
theorem dX6_readItems_80 : decode cX6_readItems 80 = .ok (.ireturn, 1) := by decide +kernel
theorem dX6_readItems_81 : decode cX6_readItems 81 = .ok (.iload 5, 2) := by decide +kernel
theorem dX6_readItems_83 : decode cX6_readItems 83 = .ok (.ifCond .lt 29, 3) := by decide +kernel
theorem dX6_readItems_86 : decode cX6_readItems 86 = .ok (.iload 5, 2) := by decide +kernel
theorem dX6_readItems_88 : decode cX6_readItems 88 = .ok (.iload 8, 2) := by decide +kernel
theorem dX6_readItems_90 : decode cX6_readItems 90 = .ok (.iadd, 1) := by decide +kernel
theorem dX6_readItems_91 : decode cX6_readItems 91 = .ok (.aload 4, 2) := by decide +kernel
theorem dX6_readItems_93 : decode cX6_readItems 93 = .ok (.arraylength, 1) := by decide +kernel
theorem dX6_readItems_94 : decode cX6_readItems 94 = .ok (.if_icmp .ge 18, 3) := by decide +kernel
theorem dX6_readItems_97 : decode cX6_readItems 97 = .ok (.aload 4, 2) := by decide +kernel
theorem dX6_readItems_99 : decode cX6_readItems 99 = .ok (.iload 5, 2) := by decide +kernel
theorem dX6_readItems_101 : decode cX6_readItems 101 = .ok (.iload 8, 2) := by decide +kernel
theorem dX6_readItems_103 : decode cX6_readItems 103 = .ok (.iadd, 1) := by decide +kernel
theorem dX6_readItems_104 : decode cX6_readItems 104 = .ok (.aload_n 0, 1) := by decide +kernel
theorem dX6_readItems_105 : decode cX6_readItems 105 = .ok (.getfield 26, 3) := by decide +kernel
theorem dX6_readItems_108 : decode cX6_readItems 108 = .ok (.invokevirtual 116, 3) := by decide +kernel
theorem dX6_readItems_111 : decode cX6_readItems 111 = .ok (.iastore, 1) := by decide +kernel
theorem dX6_readItems_112 : decode cX6_readItems 112 = .ok (.iload 6, 2) := by decide +kernel
theorem dX6_readItems_114 : decode cX6_readItems 114 = .ok (.iconst 1, 1) := by decide +kernel
theorem dX6_readItems_115 : decode cX6_readItems 115 = .ok (.iload 8, 2) := by decide +kernel
theorem dX6_readItems_117 : decode cX6_readItems 117 = .ok (.ishl, 1) := by decide +kernel
theorem dX6_readItems_118 : decode cX6_readItems 118 = .ok (.ior, 1) := by decide +kernel
theorem dX6_readItems_119 : decode cX6_readItems 119 = .ok (.istore 6, 2) := by decide +kernel
theorem dX6_readItems_121 : decode cX6_readItems 121 = .ok (.iinc 7 1, 3) := by decide +kernel
theorem dX6_readItems_124 : decode cX6_readItems 124 = .ok (.goto (-118), 3) := by decide +kernel
theorem dX6_readItems_127 : decode cX6_readItems 127 = .ok (.iconst 1, 1) := by decide +kernel
theorem dX6_readItems_128 : decode cX6_readItems 128 = .ok (.ireturn, 1) := by decide +kernel
theorem dX6_atClauseEnd_0 : decode cX6_atClauseEnd 0 = .ok (.aload_n 0, 1) := by decide +kernel
theorem dX6_atClauseEnd_1 : decode cX6_atClauseEnd 1 = .ok (.getfield 26, 3) := by decide +kernel
theorem dX6_atClauseEnd_4 : decode cX6_atClauseEnd 4 = .ok (.invokevirtual 61, 3) := by decide +kernel
theorem dX6_atClauseEnd_7 : decode cX6_atClauseEnd 7 = .ok (.istore_n 1, 1) := by decide +kernel
theorem dX6_atClauseEnd_8 : decode cX6_atClauseEnd 8 = .ok (.iload_n 1, 1) := by decide +kernel
theorem dX6_atClauseEnd_9 : decode cX6_atClauseEnd 9 = .ok (.iconst (-1), 1) := by decide +kernel
theorem dX6_atClauseEnd_10 : decode cX6_atClauseEnd 10 = .ok (.if_icmp .eq 9, 3) := by decide +kernel
theorem dX6_atClauseEnd_13 : decode cX6_atClauseEnd 13 = .ok (.iload_n 1, 1) := by decide +kernel
theorem dX6_atClauseEnd_14 : decode cX6_atClauseEnd 14 = .ok (.bipush 59, 2) := by decide +kernel
theorem dX6_atClauseEnd_16 : decode cX6_atClauseEnd 16 = .ok (.if_icmp .ne 7, 3) := by decide +kernel
theorem dX6_atClauseEnd_19 : decode cX6_atClauseEnd 19 = .ok (.iconst 1, 1) := by decide +kernel
theorem dX6_atClauseEnd_20 : decode cX6_atClauseEnd 20 = .ok (.goto 4, 3) := by decide +kernel
theorem dX6_atClauseEnd_23 : decode cX6_atClauseEnd 23 = .ok (.iconst 0, 1) := by decide +kernel
theorem dX6_atClauseEnd_24 : decode cX6_atClauseEnd 24 = .ok (.ireturn, 1) := by decide +kernel
theorem dX6_readLetter_0 : decode cX6_readLetter 0 = .ok (.aload_n 1, 1) := by decide +kernel
theorem dX6_readLetter_1 : decode cX6_readLetter 1 = .ok (.aload_n 0, 1) := by decide +kernel
theorem dX6_readLetter_2 : decode cX6_readLetter 2 = .ok (.getfield 26, 3) := by decide +kernel
theorem dX6_readLetter_5 : decode cX6_readLetter 5 = .ok (.invokevirtual 61, 3) := by decide +kernel
theorem dX6_readLetter_8 : decode cX6_readLetter 8 = .ok (.i2c, 1) := by decide +kernel
theorem dX6_readLetter_9 : decode cX6_readLetter 9 = .ok (.invokevirtual 119, 3) := by decide +kernel
theorem dX6_readLetter_12 : decode cX6_readLetter 12 = .ok (.istore_n 3, 1) := by decide +kernel
theorem dX6_readLetter_13 : decode cX6_readLetter 13 = .ok (.iload_n 3, 1) := by decide +kernel
theorem dX6_readLetter_14 : decode cX6_readLetter 14 = .ok (.ifCond .lt 12, 3) := by decide +kernel
theorem dX6_readLetter_17 : decode cX6_readLetter 17 = .ok (.iload_n 2, 1) := by decide +kernel
theorem dX6_readLetter_18 : decode cX6_readLetter 18 = .ok (.iload_n 3, 1) := by decide +kernel
theorem dX6_readLetter_19 : decode cX6_readLetter 19 = .ok (.ishr, 1) := by decide +kernel
theorem dX6_readLetter_20 : decode cX6_readLetter 20 = .ok (.iconst 1, 1) := by decide +kernel
theorem dX6_readLetter_21 : decode cX6_readLetter 21 = .ok (.iand, 1) := by decide +kernel
theorem dX6_readLetter_22 : decode cX6_readLetter 22 = .ok (.iconst 1, 1) := by decide +kernel
theorem dX6_readLetter_23 : decode cX6_readLetter 23 = .ok (.if_icmp .ne 13, 3) := by decide +kernel
theorem dX6_readLetter_26 : decode cX6_readLetter 26 = .ok (.aload_n 0, 1) := by decide +kernel
theorem dX6_readLetter_27 : decode cX6_readLetter 27 = .ok (.getfield 26, 3) := by decide +kernel
theorem dX6_readLetter_30 : decode cX6_readLetter 30 = .ok (.invokevirtual 93, 3) := by decide +kernel
theorem dX6_readLetter_33 : decode cX6_readLetter 33 = .ok (.pop, 1) := by decide +kernel
theorem dX6_readLetter_34 : decode cX6_readLetter 34 = .ok (.iconst (-1), 1) := by decide +kernel
theorem dX6_readLetter_35 : decode cX6_readLetter 35 = .ok (.ireturn, 1) := by decide +kernel
theorem dX6_readLetter_36 : decode cX6_readLetter 36 = .ok (.aload_n 0, 1) := by decide +kernel
theorem dX6_readLetter_37 : decode cX6_readLetter 37 = .ok (.getfield 26, 3) := by decide +kernel
theorem dX6_readLetter_40 : decode cX6_readLetter 40 = .ok (.invokevirtual 70, 3) := by decide +kernel
theorem dX6_readLetter_43 : decode cX6_readLetter 43 = .ok (.iload_n 3, 1) := by decide +kernel
theorem dX6_readLetter_44 : decode cX6_readLetter 44 = .ok (.ireturn, 1) := by decide +kernel
theorem dX6_allShelvesStand_0 : decode cX6_allShelvesStand 0 = .ok (.iconst 0, 1) := by decide +kernel
theorem dX6_allShelvesStand_1 : decode cX6_allShelvesStand 1 = .ok (.istore_n 1, 1) := by decide +kernel
theorem dX6_allShelvesStand_2 : decode cX6_allShelvesStand 2 = .ok (.iload_n 1, 1) := by decide +kernel
theorem dX6_allShelvesStand_3 : decode cX6_allShelvesStand 3 = .ok (.aload_n 0, 1) := by decide +kernel
theorem dX6_allShelvesStand_4 : decode cX6_allShelvesStand 4 = .ok (.getfield 22, 3) := by decide +kernel
theorem dX6_allShelvesStand_7 : decode cX6_allShelvesStand 7 = .ok (.if_icmp .ge 41, 3) := by decide +kernel
theorem dX6_allShelvesStand_10 : decode cX6_allShelvesStand 10 = .ok (.iload_n 1, 1) := by decide +kernel
theorem dX6_allShelvesStand_11 : decode cX6_allShelvesStand 11 = .ok (.iconst 5, 1) := by decide +kernel
theorem dX6_allShelvesStand_12 : decode cX6_allShelvesStand 12 = .ok (.imul, 1) := by decide +kernel
theorem dX6_allShelvesStand_13 : decode cX6_allShelvesStand 13 = .ok (.iconst 3, 1) := by decide +kernel
theorem dX6_allShelvesStand_14 : decode cX6_allShelvesStand 14 = .ok (.iadd, 1) := by decide +kernel
theorem dX6_allShelvesStand_15 : decode cX6_allShelvesStand 15 = .ok (.istore_n 2, 1) := by decide +kernel
theorem dX6_allShelvesStand_16 : decode cX6_allShelvesStand 16 = .ok (.iload_n 2, 1) := by decide +kernel
theorem dX6_allShelvesStand_17 : decode cX6_allShelvesStand 17 = .ok (.aload_n 0, 1) := by decide +kernel
theorem dX6_allShelvesStand_18 : decode cX6_allShelvesStand 18 = .ok (.getfield 15, 3) := by decide +kernel
theorem dX6_allShelvesStand_21 : decode cX6_allShelvesStand 21 = .ok (.arraylength, 1) := by decide +kernel
theorem dX6_allShelvesStand_22 : decode cX6_allShelvesStand 22 = .ok (.if_icmp .ge 20, 3) := by decide +kernel
theorem dX6_allShelvesStand_25 : decode cX6_allShelvesStand 25 = .ok (.aload_n 0, 1) := by decide +kernel
theorem dX6_allShelvesStand_26 : decode cX6_allShelvesStand 26 = .ok (.getfield 15, 3) := by decide +kernel
theorem dX6_allShelvesStand_29 : decode cX6_allShelvesStand 29 = .ok (.iload_n 2, 1) := by decide +kernel
theorem dX6_allShelvesStand_30 : decode cX6_allShelvesStand 30 = .ok (.iaload, 1) := by decide +kernel
theorem dX6_allShelvesStand_31 : decode cX6_allShelvesStand 31 = .ok (.aload_n 0, 1) := by decide +kernel
theorem dX6_allShelvesStand_32 : decode cX6_allShelvesStand 32 = .ok (.getfield 11, 3) := by decide +kernel
theorem dX6_allShelvesStand_35 : decode cX6_allShelvesStand 35 = .ok (.iconst 1, 1) := by decide +kernel
theorem dX6_allShelvesStand_36 : decode cX6_allShelvesStand 36 = .ok (.iaload, 1) := by decide +kernel
theorem dX6_allShelvesStand_37 : decode cX6_allShelvesStand 37 = .ok (.if_icmp .lt 5, 3) := by decide +kernel
theorem dX6_allShelvesStand_40 : decode cX6_allShelvesStand 40 = .ok (.iconst 0, 1) := by decide +kernel
theorem dX6_allShelvesStand_41 : decode cX6_allShelvesStand 41 = .ok (.ireturn, 1) := by decide +kernel
theorem dX6_allShelvesStand_42 : decode cX6_allShelvesStand 42 = .ok (.iinc 1 1, 3) := by decide +kernel
theorem dX6_allShelvesStand_45 : decode cX6_allShelvesStand 45 = .ok (.goto (-43), 3) := by decide +kernel
theorem dX6_allShelvesStand_48 : decode cX6_allShelvesStand 48 = .ok (.iconst 1, 1) := by decide +kernel
theorem dX6_allShelvesStand_49 : decode cX6_allShelvesStand 49 = .ok (.ireturn, 1) := by decide +kernel
theorem dX7_fill_0 : decode cX7_fill 0 = .ok (.aload_n 0, 1) := by decide +kernel
theorem dX7_fill_1 : decode cX7_fill 1 = .ok (.invokevirtual 25, 3) := by decide +kernel
theorem dX7_fill_4 : decode cX7_fill 4 = .ok (.aload_n 0, 1) := by decide +kernel
theorem dX7_fill_5 : decode cX7_fill 5 = .ok (.getfield 11, 3) := by decide +kernel
theorem dX7_fill_8 : decode cX7_fill 8 = .ok (.bipush 56, 2) := by decide +kernel
theorem dX7_fill_10 : decode cX7_fill 10 = .ok (.aload_n 1, 1) := by decide +kernel
theorem dX7_fill_11 : decode cX7_fill 11 = .ok (.iconst 3, 1) := by decide +kernel
theorem dX7_fill_12 : decode cX7_fill 12 = .ok (.invokevirtual 30, 3) := by decide +kernel
theorem dX7_fill_15 : decode cX7_fill 15 = .ok (.iastore, 1) := by decide +kernel
theorem dX7_fill_16 : decode cX7_fill 16 = .ok (.iconst 0, 1) := by decide +kernel
theorem dX7_fill_17 : decode cX7_fill 17 = .ok (.istore_n 2, 1) := by decide +kernel
theorem dX7_fill_18 : decode cX7_fill 18 = .ok (.iload_n 2, 1) := by decide +kernel
theorem dX7_fill_19 : decode cX7_fill 19 = .ok (.aload_n 1, 1) := by decide +kernel
theorem dX7_fill_20 : decode cX7_fill 20 = .ok (.invokevirtual 34, 3) := by decide +kernel
theorem dX7_fill_23 : decode cX7_fill 23 = .ok (.if_icmp .ge 44, 3) := by decide +kernel
theorem dX7_fill_26 : decode cX7_fill 26 = .ok (.aload_n 0, 1) := by decide +kernel
theorem dX7_fill_27 : decode cX7_fill 27 = .ok (.iload_n 2, 1) := by decide +kernel
theorem dX7_fill_28 : decode cX7_fill 28 = .ok (.aload_n 1, 1) := by decide +kernel
theorem dX7_fill_29 : decode cX7_fill 29 = .ok (.iload_n 2, 1) := by decide +kernel
theorem dX7_fill_30 : decode cX7_fill 30 = .ok (.iconst 0, 1) := by decide +kernel
theorem dX7_fill_31 : decode cX7_fill 31 = .ok (.invokevirtual 38, 3) := by decide +kernel
theorem dX7_fill_34 : decode cX7_fill 34 = .ok (.aload_n 1, 1) := by decide +kernel
theorem dX7_fill_35 : decode cX7_fill 35 = .ok (.iload_n 2, 1) := by decide +kernel
theorem dX7_fill_36 : decode cX7_fill 36 = .ok (.iconst 1, 1) := by decide +kernel
theorem dX7_fill_37 : decode cX7_fill 37 = .ok (.invokevirtual 38, 3) := by decide +kernel
theorem dX7_fill_40 : decode cX7_fill 40 = .ok (.aload_n 1, 1) := by decide +kernel
theorem dX7_fill_41 : decode cX7_fill 41 = .ok (.iload_n 2, 1) := by decide +kernel
theorem dX7_fill_42 : decode cX7_fill 42 = .ok (.iconst 2, 1) := by decide +kernel
theorem dX7_fill_43 : decode cX7_fill 43 = .ok (.invokevirtual 38, 3) := by decide +kernel
theorem dX7_fill_46 : decode cX7_fill 46 = .ok (.aload_n 1, 1) := by decide +kernel
theorem dX7_fill_47 : decode cX7_fill 47 = .ok (.iload_n 2, 1) := by decide +kernel
theorem dX7_fill_48 : decode cX7_fill 48 = .ok (.iconst 3, 1) := by decide +kernel
theorem dX7_fill_49 : decode cX7_fill 49 = .ok (.invokevirtual 38, 3) := by decide +kernel
theorem dX7_fill_52 : decode cX7_fill 52 = .ok (.aload_n 1, 1) := by decide +kernel
theorem dX7_fill_53 : decode cX7_fill 53 = .ok (.iload_n 2, 1) := by decide +kernel
theorem dX7_fill_54 : decode cX7_fill 54 = .ok (.iconst 4, 1) := by decide +kernel
theorem dX7_fill_55 : decode cX7_fill 55 = .ok (.invokevirtual 38, 3) := by decide +kernel
theorem dX7_fill_58 : decode cX7_fill 58 = .ok (.invokevirtual 42, 3) := by decide +kernel
theorem dX7_fill_61 : decode cX7_fill 61 = .ok (.iinc 2 1, 3) := by decide +kernel
theorem dX7_fill_64 : decode cX7_fill 64 = .ok (.goto (-46), 3) := by decide +kernel
theorem dX7_fill_67 : decode cX7_fill 67 = .ok (.return_, 1) := by decide +kernel
theorem dX7_clear_0 : decode cX7_clear 0 = .ok (.aload_n 0, 1) := by decide +kernel
theorem dX7_clear_1 : decode cX7_clear 1 = .ok (.getfield 11, 3) := by decide +kernel
theorem dX7_clear_4 : decode cX7_clear 4 = .ok (.iconst 0, 1) := by decide +kernel
theorem dX7_clear_5 : decode cX7_clear 5 = .ok (.invokestatic 46, 3) := by decide +kernel
theorem dX7_clear_8 : decode cX7_clear 8 = .ok (.return_, 1) := by decide +kernel
theorem dX7_become_0 : decode cX7_become 0 = .ok (.aload_n 1, 1) := by decide +kernel
theorem dX7_become_1 : decode cX7_become 1 = .ok (.getfield 11, 3) := by decide +kernel
theorem dX7_become_4 : decode cX7_become 4 = .ok (.iconst 0, 1) := by decide +kernel
theorem dX7_become_5 : decode cX7_become 5 = .ok (.aload_n 0, 1) := by decide +kernel
theorem dX7_become_6 : decode cX7_become 6 = .ok (.getfield 11, 3) := by decide +kernel
theorem dX7_become_9 : decode cX7_become 9 = .ok (.iconst 0, 1) := by decide +kernel
theorem dX7_become_10 : decode cX7_become 10 = .ok (.bipush 58, 2) := by decide +kernel
theorem dX7_become_12 : decode cX7_become 12 = .ok (.invokestatic 52, 3) := by decide +kernel
theorem dX7_become_15 : decode cX7_become 15 = .ok (.return_, 1) := by decide +kernel
theorem dX7_copyTo_0 : decode cX7_copyTo 0 = .ok (.iload_n 2, 1) := by decide +kernel
theorem dX7_copyTo_1 : decode cX7_copyTo 1 = .ok (.ifCond .lt 24, 3) := by decide +kernel
theorem dX7_copyTo_4 : decode cX7_copyTo 4 = .ok (.iload_n 2, 1) := by decide +kernel
theorem dX7_copyTo_5 : decode cX7_copyTo 5 = .ok (.aload_n 1, 1) := by decide +kernel
theorem dX7_copyTo_6 : decode cX7_copyTo 6 = .ok (.arraylength, 1) := by decide +kernel
theorem dX7_copyTo_7 : decode cX7_copyTo 7 = .ok (.bipush 58, 2) := by decide +kernel
theorem dX7_copyTo_9 : decode cX7_copyTo 9 = .ok (.isub, 1) := by decide +kernel
theorem dX7_copyTo_10 : decode cX7_copyTo 10 = .ok (.if_icmp .gt 15, 3) := by decide +kernel
theorem dX7_copyTo_13 : decode cX7_copyTo 13 = .ok (.aload_n 0, 1) := by decide +kernel
theorem dX7_copyTo_14 : decode cX7_copyTo 14 = .ok (.getfield 11, 3) := by decide +kernel
theorem dX7_copyTo_17 : decode cX7_copyTo 17 = .ok (.iconst 0, 1) := by decide +kernel
theorem dX7_copyTo_18 : decode cX7_copyTo 18 = .ok (.aload_n 1, 1) := by decide +kernel
theorem dX7_copyTo_19 : decode cX7_copyTo 19 = .ok (.iload_n 2, 1) := by decide +kernel
theorem dX7_copyTo_20 : decode cX7_copyTo 20 = .ok (.bipush 58, 2) := by decide +kernel
theorem dX7_copyTo_22 : decode cX7_copyTo 22 = .ok (.invokestatic 52, 3) := by decide +kernel
theorem dX7_copyTo_25 : decode cX7_copyTo 25 = .ok (.return_, 1) := by decide +kernel
theorem dX7_copyFrom_0 : decode cX7_copyFrom 0 = .ok (.iload_n 2, 1) := by decide +kernel
theorem dX7_copyFrom_1 : decode cX7_copyFrom 1 = .ok (.ifCond .lt 24, 3) := by decide +kernel
theorem dX7_copyFrom_4 : decode cX7_copyFrom 4 = .ok (.iload_n 2, 1) := by decide +kernel
theorem dX7_copyFrom_5 : decode cX7_copyFrom 5 = .ok (.aload_n 1, 1) := by decide +kernel
theorem dX7_copyFrom_6 : decode cX7_copyFrom 6 = .ok (.arraylength, 1) := by decide +kernel
theorem dX7_copyFrom_7 : decode cX7_copyFrom 7 = .ok (.bipush 58, 2) := by decide +kernel
theorem dX7_copyFrom_9 : decode cX7_copyFrom 9 = .ok (.isub, 1) := by decide +kernel
theorem dX7_copyFrom_10 : decode cX7_copyFrom 10 = .ok (.if_icmp .gt 15, 3) := by decide +kernel
theorem dX7_copyFrom_13 : decode cX7_copyFrom 13 = .ok (.aload_n 1, 1) := by decide +kernel
theorem dX7_copyFrom_14 : decode cX7_copyFrom 14 = .ok (.iload_n 2, 1) := by decide +kernel
theorem dX7_copyFrom_15 : decode cX7_copyFrom 15 = .ok (.aload_n 0, 1) := by decide +kernel
theorem dX7_copyFrom_16 : decode cX7_copyFrom 16 = .ok (.getfield 11, 3) := by decide +kernel
theorem dX7_copyFrom_19 : decode cX7_copyFrom 19 = .ok (.iconst 0, 1) := by decide +kernel
theorem dX7_copyFrom_20 : decode cX7_copyFrom 20 = .ok (.bipush 58, 2) := by decide +kernel
theorem dX7_copyFrom_22 : decode cX7_copyFrom 22 = .ok (.invokestatic 52, 3) := by decide +kernel
theorem dX7_copyFrom_25 : decode cX7_copyFrom 25 = .ok (.return_, 1) := by decide +kernel
theorem dX7_has_0 : decode cX7_has 0 = .ok (.iload_n 1, 1) := by decide +kernel
theorem dX7_has_1 : decode cX7_has 1 = .ok (.ifCond .lt 22, 3) := by decide +kernel
theorem dX7_has_4 : decode cX7_has 4 = .ok (.iload_n 1, 1) := by decide +kernel
theorem dX7_has_5 : decode cX7_has 5 = .ok (.bipush 8, 2) := by decide +kernel
theorem dX7_has_7 : decode cX7_has 7 = .ok (.if_icmp .ge 16, 3) := by decide +kernel
theorem dX7_has_10 : decode cX7_has 10 = .ok (.aload_n 0, 1) := by decide +kernel
theorem dX7_has_11 : decode cX7_has 11 = .ok (.getfield 11, 3) := by decide +kernel
theorem dX7_has_14 : decode cX7_has 14 = .ok (.iload_n 1, 1) := by decide +kernel
theorem dX7_has_15 : decode cX7_has 15 = .ok (.iaload, 1) := by decide +kernel
theorem dX7_has_16 : decode cX7_has 16 = .ok (.ifCond .le 7, 3) := by decide +kernel
theorem dX7_has_19 : decode cX7_has 19 = .ok (.iconst 1, 1) := by decide +kernel
theorem dX7_has_20 : decode cX7_has 20 = .ok (.goto 4, 3) := by decide +kernel
theorem dX7_has_23 : decode cX7_has 23 = .ok (.iconst 0, 1) := by decide +kernel
theorem dX7_has_24 : decode cX7_has 24 = .ok (.ireturn, 1) := by decide +kernel
theorem dX7_of_0 : decode cX7_of 0 = .ok (.iload_n 1, 1) := by decide +kernel
theorem dX7_of_1 : decode cX7_of 1 = .ok (.ifCond .lt 33, 3) := by decide +kernel
theorem dX7_of_4 : decode cX7_of 4 = .ok (.iload_n 1, 1) := by decide +kernel
theorem dX7_of_5 : decode cX7_of 5 = .ok (.bipush 8, 2) := by decide +kernel
theorem dX7_of_7 : decode cX7_of 7 = .ok (.if_icmp .ge 27, 3) := by decide +kernel
theorem dX7_of_10 : decode cX7_of 10 = .ok (.iload_n 2, 1) := by decide +kernel
theorem dX7_of_11 : decode cX7_of 11 = .ok (.ifCond .lt 23, 3) := by decide +kernel
theorem dX7_of_14 : decode cX7_of 14 = .ok (.iload_n 2, 1) := by decide +kernel
theorem dX7_of_15 : decode cX7_of 15 = .ok (.bipush 7, 2) := by decide +kernel
theorem dX7_of_17 : decode cX7_of 17 = .ok (.if_icmp .ge 17, 3) := by decide +kernel
theorem dX7_of_20 : decode cX7_of 20 = .ok (.aload_n 0, 1) := by decide +kernel
theorem dX7_of_21 : decode cX7_of 21 = .ok (.getfield 11, 3) := by decide +kernel
theorem dX7_of_24 : decode cX7_of 24 = .ok (.iload_n 2, 1) := by decide +kernel
theorem dX7_of_25 : decode cX7_of 25 = .ok (.bipush 8, 2) := by decide +kernel
theorem dX7_of_27 : decode cX7_of 27 = .ok (.imul, 1) := by decide +kernel
theorem dX7_of_28 : decode cX7_of 28 = .ok (.iload_n 1, 1) := by decide +kernel
theorem dX7_of_29 : decode cX7_of 29 = .ok (.iadd, 1) := by decide +kernel
theorem dX7_of_30 : decode cX7_of 30 = .ok (.iaload, 1) := by decide +kernel
theorem dX7_of_31 : decode cX7_of 31 = .ok (.goto 4, 3) := by decide +kernel
theorem dX7_of_34 : decode cX7_of 34 = .ok (.iconst 0, 1) := by decide +kernel
theorem dX7_of_35 : decode cX7_of 35 = .ok (.ireturn, 1) := by decide +kernel
theorem dX7_set_0 : decode cX7_set 0 = .ok (.iload_n 1, 1) := by decide +kernel
theorem dX7_set_1 : decode cX7_set 1 = .ok (.ifCond .lt 31, 3) := by decide +kernel
theorem dX7_set_4 : decode cX7_set 4 = .ok (.iload_n 1, 1) := by decide +kernel
theorem dX7_set_5 : decode cX7_set 5 = .ok (.bipush 8, 2) := by decide +kernel
theorem dX7_set_7 : decode cX7_set 7 = .ok (.if_icmp .ge 25, 3) := by decide +kernel
theorem dX7_set_10 : decode cX7_set 10 = .ok (.iload_n 2, 1) := by decide +kernel
theorem dX7_set_11 : decode cX7_set 11 = .ok (.ifCond .lt 21, 3) := by decide +kernel
theorem dX7_set_14 : decode cX7_set 14 = .ok (.iload_n 2, 1) := by decide +kernel
theorem dX7_set_15 : decode cX7_set 15 = .ok (.bipush 7, 2) := by decide +kernel
theorem dX7_set_17 : decode cX7_set 17 = .ok (.if_icmp .ge 15, 3) := by decide +kernel
theorem dX7_set_20 : decode cX7_set 20 = .ok (.aload_n 0, 1) := by decide +kernel
theorem dX7_set_21 : decode cX7_set 21 = .ok (.getfield 11, 3) := by decide +kernel
theorem dX7_set_24 : decode cX7_set 24 = .ok (.iload_n 2, 1) := by decide +kernel
theorem dX7_set_25 : decode cX7_set 25 = .ok (.bipush 8, 2) := by decide +kernel
theorem dX7_set_27 : decode cX7_set 27 = .ok (.imul, 1) := by decide +kernel
theorem dX7_set_28 : decode cX7_set 28 = .ok (.iload_n 1, 1) := by decide +kernel
theorem dX7_set_29 : decode cX7_set 29 = .ok (.iadd, 1) := by decide +kernel
theorem dX7_set_30 : decode cX7_set 30 = .ok (.iload_n 3, 1) := by decide +kernel
theorem dX7_set_31 : decode cX7_set 31 = .ok (.iastore, 1) := by decide +kernel
theorem dX7_set_32 : decode cX7_set 32 = .ok (.return_, 1) := by decide +kernel
theorem dX7_put_0 : decode cX7_put 0 = .ok (.aload_n 0, 1) := by decide +kernel
theorem dX7_put_1 : decode cX7_put 1 = .ok (.iload_n 1, 1) := by decide +kernel
theorem dX7_put_2 : decode cX7_put 2 = .ok (.iconst 0, 1) := by decide +kernel
theorem dX7_put_3 : decode cX7_put 3 = .ok (.iload_n 2, 1) := by decide +kernel
theorem dX7_put_4 : decode cX7_put 4 = .ok (.invokevirtual 58, 3) := by decide +kernel
theorem dX7_put_7 : decode cX7_put 7 = .ok (.aload_n 0, 1) := by decide +kernel
theorem dX7_put_8 : decode cX7_put 8 = .ok (.iload_n 1, 1) := by decide +kernel
theorem dX7_put_9 : decode cX7_put 9 = .ok (.iconst 1, 1) := by decide +kernel
theorem dX7_put_10 : decode cX7_put 10 = .ok (.iload_n 3, 1) := by decide +kernel
theorem dX7_put_11 : decode cX7_put 11 = .ok (.invokevirtual 58, 3) := by decide +kernel
theorem dX7_put_14 : decode cX7_put 14 = .ok (.aload_n 0, 1) := by decide +kernel
theorem dX7_put_15 : decode cX7_put 15 = .ok (.iload_n 1, 1) := by decide +kernel
theorem dX7_put_16 : decode cX7_put 16 = .ok (.iconst 2, 1) := by decide +kernel
theorem dX7_put_17 : decode cX7_put 17 = .ok (.iload 4, 2) := by decide +kernel
theorem dX7_put_19 : decode cX7_put 19 = .ok (.invokevirtual 58, 3) := by decide +kernel
theorem dX7_put_22 : decode cX7_put 22 = .ok (.aload_n 0, 1) := by decide +kernel
theorem dX7_put_23 : decode cX7_put 23 = .ok (.iload_n 1, 1) := by decide +kernel
theorem dX7_put_24 : decode cX7_put 24 = .ok (.iconst 3, 1) := by decide +kernel
theorem dX7_put_25 : decode cX7_put 25 = .ok (.iload 5, 2) := by decide +kernel
theorem dX7_put_27 : decode cX7_put 27 = .ok (.invokevirtual 58, 3) := by decide +kernel
theorem dX7_put_30 : decode cX7_put 30 = .ok (.aload_n 0, 1) := by decide +kernel
theorem dX7_put_31 : decode cX7_put 31 = .ok (.iload_n 1, 1) := by decide +kernel
theorem dX7_put_32 : decode cX7_put 32 = .ok (.iconst 4, 1) := by decide +kernel
theorem dX7_put_33 : decode cX7_put 33 = .ok (.iload 6, 2) := by decide +kernel
theorem dX7_put_35 : decode cX7_put 35 = .ok (.invokevirtual 58, 3) := by decide +kernel
theorem dX7_put_38 : decode cX7_put 38 = .ok (.aload_n 0, 1) := by decide +kernel
theorem dX7_put_39 : decode cX7_put 39 = .ok (.iload_n 1, 1) := by decide +kernel
theorem dX7_put_40 : decode cX7_put 40 = .ok (.iconst 5, 1) := by decide +kernel
theorem dX7_put_41 : decode cX7_put 41 = .ok (.iconst 0, 1) := by decide +kernel
theorem dX7_put_42 : decode cX7_put 42 = .ok (.invokevirtual 58, 3) := by decide +kernel
theorem dX7_put_45 : decode cX7_put 45 = .ok (.aload_n 0, 1) := by decide +kernel
theorem dX7_put_46 : decode cX7_put 46 = .ok (.iload_n 1, 1) := by decide +kernel
theorem dX7_put_47 : decode cX7_put 47 = .ok (.bipush 6, 2) := by decide +kernel
theorem dX7_put_49 : decode cX7_put 49 = .ok (.iconst 0, 1) := by decide +kernel
theorem dX7_put_50 : decode cX7_put 50 = .ok (.invokevirtual 58, 3) := by decide +kernel
theorem dX7_put_53 : decode cX7_put 53 = .ok (.return_, 1) := by decide +kernel
theorem dX7_empty_0 : decode cX7_empty 0 = .ok (.aload_n 0, 1) := by decide +kernel
theorem dX7_empty_1 : decode cX7_empty 1 = .ok (.iload_n 1, 1) := by decide +kernel
theorem dX7_empty_2 : decode cX7_empty 2 = .ok (.iconst 0, 1) := by decide +kernel
theorem dX7_empty_3 : decode cX7_empty 3 = .ok (.iconst 0, 1) := by decide +kernel
theorem dX7_empty_4 : decode cX7_empty 4 = .ok (.invokevirtual 58, 3) := by decide +kernel
theorem dX7_empty_7 : decode cX7_empty 7 = .ok (.return_, 1) := by decide +kernel
theorem dX7_coins_0 : decode cX7_coins 0 = .ok (.aload_n 0, 1) := by decide +kernel
theorem dX7_coins_1 : decode cX7_coins 1 = .ok (.getfield 11, 3) := by decide +kernel
theorem dX7_coins_4 : decode cX7_coins 4 = .ok (.bipush 56, 2) := by decide +kernel
theorem dX7_coins_6 : decode cX7_coins 6 = .ok (.iaload, 1) := by decide +kernel
theorem dX7_coins_7 : decode cX7_coins 7 = .ok (.ireturn, 1) := by decide +kernel
theorem dX7_gain_0 : decode cX7_gain 0 = .ok (.aload_n 0, 1) := by decide +kernel
theorem dX7_gain_1 : decode cX7_gain 1 = .ok (.getfield 11, 3) := by decide +kernel
theorem dX7_gain_4 : decode cX7_gain 4 = .ok (.bipush 56, 2) := by decide +kernel
theorem dX7_gain_6 : decode cX7_gain 6 = .ok (.sipush 999, 3) := by decide +kernel
theorem dX7_gain_9 : decode cX7_gain 9 = .ok (.aload_n 0, 1) := by decide +kernel
theorem dX7_gain_10 : decode cX7_gain 10 = .ok (.getfield 11, 3) := by decide +kernel
theorem dX7_gain_13 : decode cX7_gain 13 = .ok (.bipush 56, 2) := by decide +kernel
theorem dX7_gain_15 : decode cX7_gain 15 = .ok (.iaload, 1) := by decide +kernel
theorem dX7_gain_16 : decode cX7_gain 16 = .ok (.iload_n 1, 1) := by decide +kernel
theorem dX7_gain_17 : decode cX7_gain 17 = .ok (.iadd, 1) := by decide +kernel
theorem dX7_gain_18 : decode cX7_gain 18 = .ok (.invokestatic 62, 3) := by decide +kernel
theorem dX7_gain_21 : decode cX7_gain 21 = .ok (.iastore, 1) := by decide +kernel
theorem dX7_gain_22 : decode cX7_gain 22 = .ok (.return_, 1) := by decide +kernel
theorem dX7_day_0 : decode cX7_day 0 = .ok (.aload_n 0, 1) := by decide +kernel
theorem dX7_day_1 : decode cX7_day 1 = .ok (.getfield 11, 3) := by decide +kernel
theorem dX7_day_4 : decode cX7_day 4 = .ok (.bipush 57, 2) := by decide +kernel
theorem dX7_day_6 : decode cX7_day 6 = .ok (.iaload, 1) := by decide +kernel
theorem dX7_day_7 : decode cX7_day 7 = .ok (.ireturn, 1) := by decide +kernel
theorem dX7_setDay_0 : decode cX7_setDay 0 = .ok (.aload_n 0, 1) := by decide +kernel
theorem dX7_setDay_1 : decode cX7_setDay 1 = .ok (.getfield 11, 3) := by decide +kernel
theorem dX7_setDay_4 : decode cX7_setDay 4 = .ok (.bipush 57, 2) := by decide +kernel
theorem dX7_setDay_6 : decode cX7_setDay 6 = .ok (.iload_n 1, 1) := by decide +kernel
theorem dX7_setDay_7 : decode cX7_setDay 7 = .ok (.iastore, 1) := by decide +kernel
theorem dX7_setDay_8 : decode cX7_setDay 8 = .ok (.return_, 1) := by decide +kernel
theorem dX7_fell_0 : decode cX7_fell 0 = .ok (.aload_n 0, 1) := by decide +kernel
theorem dX7_fell_1 : decode cX7_fell 1 = .ok (.getfield 18, 3) := by decide +kernel
theorem dX7_fell_4 : decode cX7_fell 4 = .ok (.ireturn, 1) := by decide +kernel
theorem dX7_ended_0 : decode cX7_ended 0 = .ok (.aload_n 0, 1) := by decide +kernel
theorem dX7_ended_1 : decode cX7_ended 1 = .ok (.getfield 22, 3) := by decide +kernel
theorem dX7_ended_4 : decode cX7_ended 4 = .ok (.ireturn, 1) := by decide +kernel
theorem dX7_loadOn_0 : decode cX7_loadOn 0 = .ok (.iconst 0, 1) := by decide +kernel
theorem dX7_loadOn_1 : decode cX7_loadOn 1 = .ok (.istore_n 2, 1) := by decide +kernel
theorem dX7_loadOn_2 : decode cX7_loadOn 2 = .ok (.iconst 0, 1) := by decide +kernel
theorem dX7_loadOn_3 : decode cX7_loadOn 3 = .ok (.istore_n 3, 1) := by decide +kernel
theorem dX7_loadOn_4 : decode cX7_loadOn 4 = .ok (.iload_n 3, 1) := by decide +kernel
theorem dX7_loadOn_5 : decode cX7_loadOn 5 = .ok (.bipush 8, 2) := by decide +kernel
theorem dX7_loadOn_7 : decode cX7_loadOn 7 = .ok (.if_icmp .ge 31, 3) := by decide +kernel
theorem dX7_loadOn_10 : decode cX7_loadOn 10 = .ok (.aload_n 0, 1) := by decide +kernel
theorem dX7_loadOn_11 : decode cX7_loadOn 11 = .ok (.getfield 11, 3) := by decide +kernel
theorem dX7_loadOn_14 : decode cX7_loadOn 14 = .ok (.bipush 24, 2) := by decide +kernel
theorem dX7_loadOn_16 : decode cX7_loadOn 16 = .ok (.iload_n 3, 1) := by decide +kernel
theorem dX7_loadOn_17 : decode cX7_loadOn 17 = .ok (.iadd, 1) := by decide +kernel
theorem dX7_loadOn_18 : decode cX7_loadOn 18 = .ok (.iaload, 1) := by decide +kernel
theorem dX7_loadOn_19 : decode cX7_loadOn 19 = .ok (.iload_n 1, 1) := by decide +kernel
theorem dX7_loadOn_20 : decode cX7_loadOn 20 = .ok (.if_icmp .ne 12, 3) := by decide +kernel
theorem dX7_loadOn_23 : decode cX7_loadOn 23 = .ok (.iload_n 2, 1) := by decide +kernel
theorem dX7_loadOn_24 : decode cX7_loadOn 24 = .ok (.aload_n 0, 1) := by decide +kernel
theorem dX7_loadOn_25 : decode cX7_loadOn 25 = .ok (.getfield 11, 3) := by decide +kernel
theorem dX7_loadOn_28 : decode cX7_loadOn 28 = .ok (.iload_n 3, 1) := by decide +kernel
theorem dX7_loadOn_29 : decode cX7_loadOn 29 = .ok (.iaload, 1) := by decide +kernel
theorem dX7_loadOn_30 : decode cX7_loadOn 30 = .ok (.iadd, 1) := by decide +kernel
theorem dX7_loadOn_31 : decode cX7_loadOn 31 = .ok (.istore_n 2, 1) := by decide +kernel
theorem dX7_loadOn_32 : decode cX7_loadOn 32 = .ok (.iinc 3 1, 3) := by decide +kernel
theorem dX7_loadOn_35 : decode cX7_loadOn 35 = .ok (.goto (-31), 3) := by decide +kernel
theorem dX7_loadOn_38 : decode cX7_loadOn 38 = .ok (.iload_n 2, 1) := by decide +kernel
theorem dX7_loadOn_39 : decode cX7_loadOn 39 = .ok (.ireturn, 1) := by decide +kernel
theorem dX7_takes_0 : decode cX7_takes 0 = .ok (.aload_n 0, 1) := by decide +kernel
theorem dX7_takes_1 : decode cX7_takes 1 = .ok (.iload_n 2, 1) := by decide +kernel
theorem dX7_takes_2 : decode cX7_takes 2 = .ok (.invokevirtual 67, 3) := by decide +kernel
theorem dX7_takes_5 : decode cX7_takes 5 = .ok (.iload_n 3, 1) := by decide +kernel
theorem dX7_takes_6 : decode cX7_takes 6 = .ok (.iadd, 1) := by decide +kernel
theorem dX7_takes_7 : decode cX7_takes 7 = .ok (.aload_n 1, 1) := by decide +kernel
theorem dX7_takes_8 : decode cX7_takes 8 = .ok (.iconst 0, 1) := by decide +kernel
theorem dX7_takes_9 : decode cX7_takes 9 = .ok (.invokevirtual 30, 3) := by decide +kernel
theorem dX7_takes_12 : decode cX7_takes 12 = .ok (.if_icmp .gt 7, 3) := by decide +kernel
theorem dX7_takes_15 : decode cX7_takes 15 = .ok (.iconst 1, 1) := by decide +kernel
theorem dX7_takes_16 : decode cX7_takes 16 = .ok (.goto 4, 3) := by decide +kernel
theorem dX7_takes_19 : decode cX7_takes 19 = .ok (.iconst 0, 1) := by decide +kernel
theorem dX7_takes_20 : decode cX7_takes 20 = .ok (.ireturn, 1) := by decide +kernel
theorem dX7_freePlace_0 : decode cX7_freePlace 0 = .ok (.iconst 0, 1) := by decide +kernel
theorem dX7_freePlace_1 : decode cX7_freePlace 1 = .ok (.istore_n 1, 1) := by decide +kernel
theorem dX7_freePlace_2 : decode cX7_freePlace 2 = .ok (.iload_n 1, 1) := by decide +kernel
theorem dX7_freePlace_3 : decode cX7_freePlace 3 = .ok (.bipush 8, 2) := by decide +kernel
theorem dX7_freePlace_5 : decode cX7_freePlace 5 = .ok (.if_icmp .ge 19, 3) := by decide +kernel
theorem dX7_freePlace_8 : decode cX7_freePlace 8 = .ok (.aload_n 0, 1) := by decide +kernel
theorem dX7_freePlace_9 : decode cX7_freePlace 9 = .ok (.iload_n 1, 1) := by decide +kernel
theorem dX7_freePlace_10 : decode cX7_freePlace 10 = .ok (.invokevirtual 70, 3) := by decide +kernel
theorem dX7_freePlace_13 : decode cX7_freePlace 13 = .ok (.ifCond .ne 5, 3) := by decide +kernel
theorem dX7_freePlace_16 : decode cX7_freePlace 16 = .ok (.iload_n 1, 1) := by decide +kernel
theorem dX7_freePlace_17 : decode cX7_freePlace 17 = .ok (.ireturn, 1) := by decide +kernel
theorem dX7_freePlace_18 : decode cX7_freePlace 18 = .ok (.iinc 1 1, 3) := by decide +kernel
theorem dX7_freePlace_21 : decode cX7_freePlace 21 = .ok (.goto (-19), 3) := by decide +kernel
theorem dX7_freePlace_24 : decode cX7_freePlace 24 = .ok (.iconst (-1), 1) := by decide +kernel
theorem dX7_freePlace_25 : decode cX7_freePlace 25 = .ok (.ireturn, 1) := by decide +kernel
theorem dX7_othersWith_0 : decode cX7_othersWith 0 = .ok (.aload_n 0, 1) := by decide +kernel
theorem dX7_othersWith_1 : decode cX7_othersWith 1 = .ok (.iload_n 1, 1) := by decide +kernel
theorem dX7_othersWith_2 : decode cX7_othersWith 2 = .ok (.iconst 3, 1) := by decide +kernel
theorem dX7_othersWith_3 : decode cX7_othersWith 3 = .ok (.invokevirtual 74, 3) := by decide +kernel
theorem dX7_othersWith_6 : decode cX7_othersWith 6 = .ok (.istore_n 2, 1) := by decide +kernel
theorem dX7_othersWith_7 : decode cX7_othersWith 7 = .ok (.iconst 0, 1) := by decide +kernel
theorem dX7_othersWith_8 : decode cX7_othersWith 8 = .ok (.istore_n 3, 1) := by decide +kernel
theorem dX7_othersWith_9 : decode cX7_othersWith 9 = .ok (.iconst 0, 1) := by decide +kernel
theorem dX7_othersWith_10 : decode cX7_othersWith 10 = .ok (.istore 4, 2) := by decide +kernel
theorem dX7_othersWith_12 : decode cX7_othersWith 12 = .ok (.iload 4, 2) := by decide +kernel
theorem dX7_othersWith_14 : decode cX7_othersWith 14 = .ok (.bipush 8, 2) := by decide +kernel
theorem dX7_othersWith_16 : decode cX7_othersWith 16 = .ok (.if_icmp .ge 42, 3) := by decide +kernel
theorem dX7_othersWith_19 : decode cX7_othersWith 19 = .ok (.aload_n 0, 1) := by decide +kernel
theorem dX7_othersWith_20 : decode cX7_othersWith 20 = .ok (.getfield 11, 3) := by decide +kernel
theorem dX7_othersWith_23 : decode cX7_othersWith 23 = .ok (.iload 4, 2) := by decide +kernel
theorem dX7_othersWith_25 : decode cX7_othersWith 25 = .ok (.iaload, 1) := by decide +kernel
theorem dX7_othersWith_26 : decode cX7_othersWith 26 = .ok (.ifCond .le 26, 3) := by decide +kernel
theorem dX7_othersWith_29 : decode cX7_othersWith 29 = .ok (.aload_n 0, 1) := by decide +kernel
theorem dX7_othersWith_30 : decode cX7_othersWith 30 = .ok (.getfield 11, 3) := by decide +kernel
theorem dX7_othersWith_33 : decode cX7_othersWith 33 = .ok (.bipush 24, 2) := by decide +kernel
theorem dX7_othersWith_35 : decode cX7_othersWith 35 = .ok (.iload 4, 2) := by decide +kernel
theorem dX7_othersWith_37 : decode cX7_othersWith 37 = .ok (.iadd, 1) := by decide +kernel
theorem dX7_othersWith_38 : decode cX7_othersWith 38 = .ok (.iaload, 1) := by decide +kernel
theorem dX7_othersWith_39 : decode cX7_othersWith 39 = .ok (.iload_n 2, 1) := by decide +kernel
theorem dX7_othersWith_40 : decode cX7_othersWith 40 = .ok (.if_icmp .ne 12, 3) := by decide +kernel
theorem dX7_othersWith_43 : decode cX7_othersWith 43 = .ok (.iload 4, 2) := by decide +kernel
theorem dX7_othersWith_45 : decode cX7_othersWith 45 = .ok (.iload_n 1, 1) := by decide +kernel
theorem dX7_othersWith_46 : decode cX7_othersWith 46 = .ok (.if_icmp .eq 6, 3) := by decide +kernel
theorem dX7_othersWith_49 : decode cX7_othersWith 49 = .ok (.iinc 3 1, 3) := by decide +kernel
theorem dX7_othersWith_52 : decode cX7_othersWith 52 = .ok (.iinc 4 1, 3) := by decide +kernel
theorem dX7_othersWith_55 : decode cX7_othersWith 55 = .ok (.goto (-43), 3) := by decide +kernel
theorem dX7_othersWith_58 : decode cX7_othersWith 58 = .ok (.iload_n 3, 1) := by decide +kernel
theorem dX7_othersWith_59 : decode cX7_othersWith 59 = .ok (.ireturn, 1) := by decide +kernel
theorem dX7_allSizes_0 : decode cX7_allSizes 0 = .ok (.iconst 0, 1) := by decide +kernel
theorem dX7_allSizes_1 : decode cX7_allSizes 1 = .ok (.istore_n 1, 1) := by decide +kernel
theorem dX7_allSizes_2 : decode cX7_allSizes 2 = .ok (.iconst 0, 1) := by decide +kernel
theorem dX7_allSizes_3 : decode cX7_allSizes 3 = .ok (.istore_n 2, 1) := by decide +kernel
theorem dX7_allSizes_4 : decode cX7_allSizes 4 = .ok (.iload_n 2, 1) := by decide +kernel
theorem dX7_allSizes_5 : decode cX7_allSizes 5 = .ok (.bipush 8, 2) := by decide +kernel
theorem dX7_allSizes_7 : decode cX7_allSizes 7 = .ok (.if_icmp .ge 18, 3) := by decide +kernel
theorem dX7_allSizes_10 : decode cX7_allSizes 10 = .ok (.iload_n 1, 1) := by decide +kernel
theorem dX7_allSizes_11 : decode cX7_allSizes 11 = .ok (.aload_n 0, 1) := by decide +kernel
theorem dX7_allSizes_12 : decode cX7_allSizes 12 = .ok (.iload_n 2, 1) := by decide +kernel
theorem dX7_allSizes_13 : decode cX7_allSizes 13 = .ok (.iconst 0, 1) := by decide +kernel
theorem dX7_allSizes_14 : decode cX7_allSizes 14 = .ok (.invokevirtual 74, 3) := by decide +kernel
theorem dX7_allSizes_17 : decode cX7_allSizes 17 = .ok (.iadd, 1) := by decide +kernel
theorem dX7_allSizes_18 : decode cX7_allSizes 18 = .ok (.istore_n 1, 1) := by decide +kernel
theorem dX7_allSizes_19 : decode cX7_allSizes 19 = .ok (.iinc 2 1, 3) := by decide +kernel
theorem dX7_allSizes_22 : decode cX7_allSizes 22 = .ok (.goto (-18), 3) := by decide +kernel
theorem dX7_allSizes_25 : decode cX7_allSizes 25 = .ok (.iload_n 1, 1) := by decide +kernel
theorem dX7_allSizes_26 : decode cX7_allSizes 26 = .ok (.ireturn, 1) := by decide +kernel
theorem dX7_bags_0 : decode cX7_bags 0 = .ok (.aload_n 0, 1) := by decide +kernel
theorem dX7_bags_1 : decode cX7_bags 1 = .ok (.iconst 0, 1) := by decide +kernel
theorem dX7_bags_2 : decode cX7_bags 2 = .ok (.iconst 1, 1) := by decide +kernel
theorem dX7_bags_3 : decode cX7_bags 3 = .ok (.invokevirtual 77, 3) := by decide +kernel
theorem dX7_bags_6 : decode cX7_bags 6 = .ok (.ireturn, 1) := by decide +kernel
theorem dX7_bagsWith_0 : decode cX7_bagsWith 0 = .ok (.iconst 0, 1) := by decide +kernel
theorem dX7_bagsWith_1 : decode cX7_bagsWith 1 = .ok (.istore_n 3, 1) := by decide +kernel
theorem dX7_bagsWith_2 : decode cX7_bagsWith 2 = .ok (.iconst 0, 1) := by decide +kernel
theorem dX7_bagsWith_3 : decode cX7_bagsWith 3 = .ok (.istore 4, 2) := by decide +kernel
theorem dX7_bagsWith_5 : decode cX7_bagsWith 5 = .ok (.iload 4, 2) := by decide +kernel
theorem dX7_bagsWith_7 : decode cX7_bagsWith 7 = .ok (.bipush 8, 2) := by decide +kernel
theorem dX7_bagsWith_9 : decode cX7_bagsWith 9 = .ok (.if_icmp .ge 36, 3) := by decide +kernel
theorem dX7_bagsWith_12 : decode cX7_bagsWith 12 = .ok (.aload_n 0, 1) := by decide +kernel
theorem dX7_bagsWith_13 : decode cX7_bagsWith 13 = .ok (.iload 4, 2) := by decide +kernel
theorem dX7_bagsWith_15 : decode cX7_bagsWith 15 = .ok (.invokevirtual 70, 3) := by decide +kernel
theorem dX7_bagsWith_18 : decode cX7_bagsWith 18 = .ok (.ifCond .eq 21, 3) := by decide +kernel
theorem dX7_bagsWith_21 : decode cX7_bagsWith 21 = .ok (.aload_n 0, 1) := by decide +kernel
theorem dX7_bagsWith_22 : decode cX7_bagsWith 22 = .ok (.iload 4, 2) := by decide +kernel
theorem dX7_bagsWith_24 : decode cX7_bagsWith 24 = .ok (.iload_n 1, 1) := by decide +kernel
theorem dX7_bagsWith_25 : decode cX7_bagsWith 25 = .ok (.invokevirtual 74, 3) := by decide +kernel
theorem dX7_bagsWith_28 : decode cX7_bagsWith 28 = .ok (.iload_n 2, 1) := by decide +kernel
theorem dX7_bagsWith_29 : decode cX7_bagsWith 29 = .ok (.if_icmp .lt 10, 3) := by decide +kernel
theorem dX7_bagsWith_32 : decode cX7_bagsWith 32 = .ok (.iload_n 3, 1) := by decide +kernel
theorem dX7_bagsWith_33 : decode cX7_bagsWith 33 = .ok (.iconst 1, 1) := by decide +kernel
theorem dX7_bagsWith_34 : decode cX7_bagsWith 34 = .ok (.iload 4, 2) := by decide +kernel
theorem dX7_bagsWith_36 : decode cX7_bagsWith 36 = .ok (.ishl, 1) := by decide +kernel
theorem dX7_bagsWith_37 : decode cX7_bagsWith 37 = .ok (.ior, 1) := by decide +kernel
theorem dX7_bagsWith_38 : decode cX7_bagsWith 38 = .ok (.istore_n 3, 1) := by decide +kernel
theorem dX7_bagsWith_39 : decode cX7_bagsWith 39 = .ok (.iinc 4 1, 3) := by decide +kernel
theorem dX7_bagsWith_42 : decode cX7_bagsWith 42 = .ok (.goto (-37), 3) := by decide +kernel
theorem dX7_bagsWith_45 : decode cX7_bagsWith 45 = .ok (.iload_n 3, 1) := by decide +kernel
theorem dX7_bagsWith_46 : decode cX7_bagsWith 46 = .ok (.ireturn, 1) := by decide +kernel
theorem dX7_due_0 : decode cX7_due 0 = .ok (.aload_n 0, 1) := by decide +kernel
theorem dX7_due_1 : decode cX7_due 1 = .ok (.iload_n 1, 1) := by decide +kernel
theorem dX7_due_2 : decode cX7_due 2 = .ok (.invokevirtual 70, 3) := by decide +kernel
theorem dX7_due_5 : decode cX7_due 5 = .ok (.ifCond .eq 18, 3) := by decide +kernel
theorem dX7_due_8 : decode cX7_due 8 = .ok (.aload_n 0, 1) := by decide +kernel
theorem dX7_due_9 : decode cX7_due 9 = .ok (.iload_n 1, 1) := by decide +kernel
theorem dX7_due_10 : decode cX7_due 10 = .ok (.iconst 5, 1) := by decide +kernel
theorem dX7_due_11 : decode cX7_due 11 = .ok (.invokevirtual 74, 3) := by decide +kernel
theorem dX7_due_14 : decode cX7_due 14 = .ok (.aload_n 2, 1) := by decide +kernel
theorem dX7_due_15 : decode cX7_due 15 = .ok (.iconst 2, 1) := by decide +kernel
theorem dX7_due_16 : decode cX7_due 16 = .ok (.invokevirtual 30, 3) := by decide +kernel
theorem dX7_due_19 : decode cX7_due 19 = .ok (.imul, 1) := by decide +kernel
theorem dX7_due_20 : decode cX7_due 20 = .ok (.goto 4, 3) := by decide +kernel
theorem dX7_due_23 : decode cX7_due 23 = .ok (.iconst 0, 1) := by decide +kernel
theorem dX7_due_24 : decode cX7_due 24 = .ok (.ireturn, 1) := by decide +kernel
theorem dX7_handOut_0 : decode cX7_handOut 0 = .ok (.aload_n 0, 1) := by decide +kernel
theorem dX7_handOut_1 : decode cX7_handOut 1 = .ok (.iload_n 1, 1) := by decide +kernel
theorem dX7_handOut_2 : decode cX7_handOut 2 = .ok (.aload_n 2, 1) := by decide +kernel
theorem dX7_handOut_3 : decode cX7_handOut 3 = .ok (.invokevirtual 80, 3) := by decide +kernel
theorem dX7_handOut_6 : decode cX7_handOut 6 = .ok (.istore_n 3, 1) := by decide +kernel
theorem dX7_handOut_7 : decode cX7_handOut 7 = .ok (.aload_n 0, 1) := by decide +kernel
theorem dX7_handOut_8 : decode cX7_handOut 8 = .ok (.iload_n 3, 1) := by decide +kernel
theorem dX7_handOut_9 : decode cX7_handOut 9 = .ok (.invokevirtual 84, 3) := by decide +kernel
theorem dX7_handOut_12 : decode cX7_handOut 12 = .ok (.aload_n 0, 1) := by decide +kernel
theorem dX7_handOut_13 : decode cX7_handOut 13 = .ok (.iload_n 1, 1) := by decide +kernel
theorem dX7_handOut_14 : decode cX7_handOut 14 = .ok (.invokevirtual 88, 3) := by decide +kernel
theorem dX7_handOut_17 : decode cX7_handOut 17 = .ok (.iload_n 3, 1) := by decide +kernel
theorem dX7_handOut_18 : decode cX7_handOut 18 = .ok (.ireturn, 1) := by decide +kernel
theorem dX7_pass_0 : decode cX7_pass 0 = .ok (.aload_n 0, 1) := by decide +kernel
theorem dX7_pass_1 : decode cX7_pass 1 = .ok (.iconst 0, 1) := by decide +kernel
theorem dX7_pass_2 : decode cX7_pass 2 = .ok (.putfield 18, 3) := by decide +kernel
theorem dX7_pass_5 : decode cX7_pass 5 = .ok (.aload_n 0, 1) := by decide +kernel
theorem dX7_pass_6 : decode cX7_pass 6 = .ok (.iconst 0, 1) := by decide +kernel
theorem dX7_pass_7 : decode cX7_pass 7 = .ok (.putfield 22, 3) := by decide +kernel
theorem dX7_pass_10 : decode cX7_pass 10 = .ok (.iconst 0, 1) := by decide +kernel
theorem dX7_pass_11 : decode cX7_pass 11 = .ok (.istore_n 3, 1) := by decide +kernel
theorem dX7_pass_12 : decode cX7_pass 12 = .ok (.iload_n 3, 1) := by decide +kernel
theorem dX7_pass_13 : decode cX7_pass 13 = .ok (.bipush 8, 2) := by decide +kernel
theorem dX7_pass_15 : decode cX7_pass 15 = .ok (.if_icmp .ge 43, 3) := by decide +kernel
theorem dX7_pass_18 : decode cX7_pass 18 = .ok (.aload_n 0, 1) := by decide +kernel
theorem dX7_pass_19 : decode cX7_pass 19 = .ok (.getfield 15, 3) := by decide +kernel
theorem dX7_pass_22 : decode cX7_pass 22 = .ok (.iload_n 3, 1) := by decide +kernel
theorem dX7_pass_23 : decode cX7_pass 23 = .ok (.aload_n 0, 1) := by decide +kernel
theorem dX7_pass_24 : decode cX7_pass 24 = .ok (.iload_n 3, 1) := by decide +kernel
theorem dX7_pass_25 : decode cX7_pass 25 = .ok (.invokevirtual 70, 3) := by decide +kernel
theorem dX7_pass_28 : decode cX7_pass 28 = .ok (.ifCond .eq 22, 3) := by decide +kernel
theorem dX7_pass_31 : decode cX7_pass 31 = .ok (.aload_n 0, 1) := by decide +kernel
theorem dX7_pass_32 : decode cX7_pass 32 = .ok (.iload_n 3, 1) := by decide +kernel
theorem dX7_pass_33 : decode cX7_pass 33 = .ok (.bipush 6, 2) := by decide +kernel
theorem dX7_pass_35 : decode cX7_pass 35 = .ok (.invokevirtual 74, 3) := by decide +kernel
theorem dX7_pass_38 : decode cX7_pass 38 = .ok (.ifCond .ne 12, 3) := by decide +kernel
theorem dX7_pass_41 : decode cX7_pass 41 = .ok (.aload_n 1, 1) := by decide +kernel
theorem dX7_pass_42 : decode cX7_pass 42 = .ok (.aload_n 0, 1) := by decide +kernel
theorem dX7_pass_43 : decode cX7_pass 43 = .ok (.iload_n 3, 1) := by decide +kernel
theorem dX7_pass_44 : decode cX7_pass 44 = .ok (.invokevirtual 91, 3) := by decide +kernel
theorem dX7_pass_47 : decode cX7_pass 47 = .ok (.goto 4, 3) := by decide +kernel
theorem dX7_pass_50 : decode cX7_pass 50 = .ok (.iconst 0, 1) := by decide +kernel
theorem dX7_pass_51 : decode cX7_pass 51 = .ok (.iastore, 1) := by decide +kernel
theorem dX7_pass_52 : decode cX7_pass 52 = .ok (.iinc 3 1, 3) := by decide +kernel
theorem dX7_pass_55 : decode cX7_pass 55 = .ok (.goto (-43), 3) := by decide +kernel
theorem dX7_pass_58 : decode cX7_pass 58 = .ok (.iconst 0, 1) := by decide +kernel
theorem dX7_pass_59 : decode cX7_pass 59 = .ok (.istore_n 3, 1) := by decide +kernel
theorem dX7_pass_60 : decode cX7_pass 60 = .ok (.iload_n 3, 1) := by decide +kernel
theorem dX7_pass_61 : decode cX7_pass 61 = .ok (.bipush 8, 2) := by decide +kernel
theorem dX7_pass_63 : decode cX7_pass 63 = .ok (.if_icmp .ge 38, 3) := by decide +kernel
theorem dX7_pass_66 : decode cX7_pass 66 = .ok (.aload_n 0, 1) := by decide +kernel
theorem dX7_pass_67 : decode cX7_pass 67 = .ok (.iload_n 3, 1) := by decide +kernel
theorem dX7_pass_68 : decode cX7_pass 68 = .ok (.invokevirtual 70, 3) := by decide +kernel
theorem dX7_pass_71 : decode cX7_pass 71 = .ok (.ifCond .eq 24, 3) := by decide +kernel
theorem dX7_pass_74 : decode cX7_pass 74 = .ok (.aload_n 0, 1) := by decide +kernel
theorem dX7_pass_75 : decode cX7_pass 75 = .ok (.iload_n 3, 1) := by decide +kernel
theorem dX7_pass_76 : decode cX7_pass 76 = .ok (.bipush 6, 2) := by decide +kernel
theorem dX7_pass_78 : decode cX7_pass 78 = .ok (.invokevirtual 74, 3) := by decide +kernel
theorem dX7_pass_81 : decode cX7_pass 81 = .ok (.ifCond .ne 14, 3) := by decide +kernel
theorem dX7_pass_84 : decode cX7_pass 84 = .ok (.aload_n 0, 1) := by decide +kernel
theorem dX7_pass_85 : decode cX7_pass 85 = .ok (.iload_n 3, 1) := by decide +kernel
theorem dX7_pass_86 : decode cX7_pass 86 = .ok (.aload_n 0, 1) := by decide +kernel
theorem dX7_pass_87 : decode cX7_pass 87 = .ok (.getfield 15, 3) := by decide +kernel
theorem dX7_pass_90 : decode cX7_pass 90 = .ok (.iload_n 3, 1) := by decide +kernel
theorem dX7_pass_91 : decode cX7_pass 91 = .ok (.iaload, 1) := by decide +kernel
theorem dX7_pass_92 : decode cX7_pass 92 = .ok (.invokevirtual 97, 3) := by decide +kernel
theorem dX7_pass_95 : decode cX7_pass 95 = .ok (.iinc 3 1, 3) := by decide +kernel
theorem dX7_pass_98 : decode cX7_pass 98 = .ok (.goto (-38), 3) := by decide +kernel
theorem dX7_pass_101 : decode cX7_pass 101 = .ok (.iconst 0, 1) := by decide +kernel
theorem dX7_pass_102 : decode cX7_pass 102 = .ok (.istore_n 3, 1) := by decide +kernel
theorem dX7_pass_103 : decode cX7_pass 103 = .ok (.iload_n 3, 1) := by decide +kernel
theorem dX7_pass_104 : decode cX7_pass 104 = .ok (.aload_n 2, 1) := by decide +kernel
theorem dX7_pass_105 : decode cX7_pass 105 = .ok (.iconst 1, 1) := by decide +kernel
theorem dX7_pass_106 : decode cX7_pass 106 = .ok (.invokevirtual 30, 3) := by decide +kernel
theorem dX7_pass_109 : decode cX7_pass 109 = .ok (.if_icmp .ge 19, 3) := by decide +kernel
theorem dX7_pass_112 : decode cX7_pass 112 = .ok (.aload_n 0, 1) := by decide +kernel
theorem dX7_pass_113 : decode cX7_pass 113 = .ok (.iload_n 3, 1) := by decide +kernel
theorem dX7_pass_114 : decode cX7_pass 114 = .ok (.aload_n 2, 1) := by decide +kernel
theorem dX7_pass_115 : decode cX7_pass 115 = .ok (.iconst 0, 1) := by decide +kernel
theorem dX7_pass_116 : decode cX7_pass 116 = .ok (.invokevirtual 30, 3) := by decide +kernel
theorem dX7_pass_119 : decode cX7_pass 119 = .ok (.invokevirtual 101, 3) := by decide +kernel
theorem dX7_pass_122 : decode cX7_pass 122 = .ok (.iinc 3 1, 3) := by decide +kernel
theorem dX7_pass_125 : decode cX7_pass 125 = .ok (.goto (-22), 3) := by decide +kernel
theorem dX7_pass_128 : decode cX7_pass 128 = .ok (.iconst 0, 1) := by decide +kernel
theorem dX7_pass_129 : decode cX7_pass 129 = .ok (.istore_n 3, 1) := by decide +kernel
theorem dX7_pass_130 : decode cX7_pass 130 = .ok (.iload_n 3, 1) := by decide +kernel
theorem dX7_pass_131 : decode cX7_pass 131 = .ok (.bipush 8, 2) := by decide +kernel
theorem dX7_pass_133 : decode cX7_pass 133 = .ok (.if_icmp .ge 44, 3) := by decide +kernel
theorem dX7_pass_136 : decode cX7_pass 136 = .ok (.aload_n 0, 1) := by decide +kernel
theorem dX7_pass_137 : decode cX7_pass 137 = .ok (.iload_n 3, 1) := by decide +kernel
theorem dX7_pass_138 : decode cX7_pass 138 = .ok (.invokevirtual 70, 3) := by decide +kernel
theorem dX7_pass_141 : decode cX7_pass 141 = .ok (.ifCond .eq 30, 3) := by decide +kernel
theorem dX7_pass_144 : decode cX7_pass 144 = .ok (.aload_n 0, 1) := by decide +kernel
theorem dX7_pass_145 : decode cX7_pass 145 = .ok (.iload_n 3, 1) := by decide +kernel
theorem dX7_pass_146 : decode cX7_pass 146 = .ok (.bipush 6, 2) := by decide +kernel
theorem dX7_pass_148 : decode cX7_pass 148 = .ok (.iconst 0, 1) := by decide +kernel
theorem dX7_pass_149 : decode cX7_pass 149 = .ok (.invokevirtual 58, 3) := by decide +kernel
theorem dX7_pass_152 : decode cX7_pass 152 = .ok (.aload_n 0, 1) := by decide +kernel
theorem dX7_pass_153 : decode cX7_pass 153 = .ok (.iload_n 3, 1) := by decide +kernel
theorem dX7_pass_154 : decode cX7_pass 154 = .ok (.iconst 5, 1) := by decide +kernel
theorem dX7_pass_155 : decode cX7_pass 155 = .ok (.bipush 99, 2) := by decide +kernel
theorem dX7_pass_157 : decode cX7_pass 157 = .ok (.aload_n 0, 1) := by decide +kernel
theorem dX7_pass_158 : decode cX7_pass 158 = .ok (.iload_n 3, 1) := by decide +kernel
theorem dX7_pass_159 : decode cX7_pass 159 = .ok (.iconst 5, 1) := by decide +kernel
theorem dX7_pass_160 : decode cX7_pass 160 = .ok (.invokevirtual 74, 3) := by decide +kernel
theorem dX7_pass_163 : decode cX7_pass 163 = .ok (.iconst 1, 1) := by decide +kernel
theorem dX7_pass_164 : decode cX7_pass 164 = .ok (.iadd, 1) := by decide +kernel
theorem dX7_pass_165 : decode cX7_pass 165 = .ok (.invokestatic 62, 3) := by decide +kernel
theorem dX7_pass_168 : decode cX7_pass 168 = .ok (.invokevirtual 58, 3) := by decide +kernel
theorem dX7_pass_171 : decode cX7_pass 171 = .ok (.iinc 3 1, 3) := by decide +kernel
theorem dX7_pass_174 : decode cX7_pass 174 = .ok (.goto (-44), 3) := by decide +kernel
theorem dX7_pass_177 : decode cX7_pass 177 = .ok (.aload_n 0, 1) := by decide +kernel
theorem dX7_pass_178 : decode cX7_pass 178 = .ok (.getfield 11, 3) := by decide +kernel
theorem dX7_pass_181 : decode cX7_pass 181 = .ok (.bipush 57, 2) := by decide +kernel
theorem dX7_pass_183 : decode cX7_pass 183 = .ok (.dup2, 1) := by decide +kernel
theorem dX7_pass_184 : decode cX7_pass 184 = .ok (.iaload, 1) := by decide +kernel
theorem dX7_pass_185 : decode cX7_pass 185 = .ok (.iconst 1, 1) := by decide +kernel
theorem dX7_pass_186 : decode cX7_pass 186 = .ok (.iadd, 1) := by decide +kernel
theorem dX7_pass_187 : decode cX7_pass 187 = .ok (.iastore, 1) := by decide +kernel
theorem dX7_pass_188 : decode cX7_pass 188 = .ok (.return_, 1) := by decide +kernel
theorem dX7_answer_0 : decode cX7_answer 0 = .ok (.iconst 0, 1) := by decide +kernel
theorem dX7_answer_1 : decode cX7_answer 1 = .ok (.bipush 99, 2) := by decide +kernel
theorem dX7_answer_3 : decode cX7_answer 3 = .ok (.aload_n 0, 1) := by decide +kernel
theorem dX7_answer_4 : decode cX7_answer 4 = .ok (.iload_n 1, 1) := by decide +kernel
theorem dX7_answer_5 : decode cX7_answer 5 = .ok (.iconst 0, 1) := by decide +kernel
theorem dX7_answer_6 : decode cX7_answer 6 = .ok (.invokevirtual 74, 3) := by decide +kernel
theorem dX7_answer_9 : decode cX7_answer 9 = .ok (.iload_n 2, 1) := by decide +kernel
theorem dX7_answer_10 : decode cX7_answer 10 = .ok (.iadd, 1) := by decide +kernel
theorem dX7_answer_11 : decode cX7_answer 11 = .ok (.invokestatic 62, 3) := by decide +kernel
theorem dX7_answer_14 : decode cX7_answer 14 = .ok (.invokestatic 104, 3) := by decide +kernel
theorem dX7_answer_17 : decode cX7_answer 17 = .ok (.istore_n 3, 1) := by decide +kernel
theorem dX7_answer_18 : decode cX7_answer 18 = .ok (.aload_n 0, 1) := by decide +kernel
theorem dX7_answer_19 : decode cX7_answer 19 = .ok (.iload_n 1, 1) := by decide +kernel
theorem dX7_answer_20 : decode cX7_answer 20 = .ok (.iconst 0, 1) := by decide +kernel
theorem dX7_answer_21 : decode cX7_answer 21 = .ok (.iload_n 3, 1) := by decide +kernel
theorem dX7_answer_22 : decode cX7_answer 22 = .ok (.invokevirtual 58, 3) := by decide +kernel
theorem dX7_answer_25 : decode cX7_answer 25 = .ok (.aload_n 0, 1) := by decide +kernel
theorem dX7_answer_26 : decode cX7_answer 26 = .ok (.iload_n 1, 1) := by decide +kernel
theorem dX7_answer_27 : decode cX7_answer 27 = .ok (.iconst 4, 1) := by decide +kernel
theorem dX7_answer_28 : decode cX7_answer 28 = .ok (.iconst 1, 1) := by decide +kernel
theorem dX7_answer_29 : decode cX7_answer 29 = .ok (.aload_n 0, 1) := by decide +kernel
theorem dX7_answer_30 : decode cX7_answer 30 = .ok (.iload_n 1, 1) := by decide +kernel
theorem dX7_answer_31 : decode cX7_answer 31 = .ok (.iconst 4, 1) := by decide +kernel
theorem dX7_answer_32 : decode cX7_answer 32 = .ok (.invokevirtual 74, 3) := by decide +kernel
theorem dX7_answer_35 : decode cX7_answer 35 = .ok (.isub, 1) := by decide +kernel
theorem dX7_answer_36 : decode cX7_answer 36 = .ok (.invokevirtual 58, 3) := by decide +kernel
theorem dX7_answer_39 : decode cX7_answer 39 = .ok (.iload_n 3, 1) := by decide +kernel
theorem dX7_answer_40 : decode cX7_answer 40 = .ok (.ifCond .ne 15, 3) := by decide +kernel
theorem dX7_answer_43 : decode cX7_answer 43 = .ok (.aload_n 0, 1) := by decide +kernel
theorem dX7_answer_44 : decode cX7_answer 44 = .ok (.dup, 1) := by decide +kernel
theorem dX7_answer_45 : decode cX7_answer 45 = .ok (.getfield 22, 3) := by decide +kernel
theorem dX7_answer_48 : decode cX7_answer 48 = .ok (.iconst 1, 1) := by decide +kernel
theorem dX7_answer_49 : decode cX7_answer 49 = .ok (.iload_n 1, 1) := by decide +kernel
theorem dX7_answer_50 : decode cX7_answer 50 = .ok (.ishl, 1) := by decide +kernel
theorem dX7_answer_51 : decode cX7_answer 51 = .ok (.ior, 1) := by decide +kernel
theorem dX7_answer_52 : decode cX7_answer 52 = .ok (.putfield 22, 3) := by decide +kernel
theorem dX7_answer_55 : decode cX7_answer 55 = .ok (.return_, 1) := by decide +kernel
theorem dX7_unburden_0 : decode cX7_unburden 0 = .ok (.iconst 0, 1) := by decide +kernel
theorem dX7_unburden_1 : decode cX7_unburden 1 = .ok (.istore_n 3, 1) := by decide +kernel
theorem dX7_unburden_2 : decode cX7_unburden 2 = .ok (.iload_n 3, 1) := by decide +kernel
theorem dX7_unburden_3 : decode cX7_unburden 3 = .ok (.bipush 8, 2) := by decide +kernel
theorem dX7_unburden_5 : decode cX7_unburden 5 = .ok (.if_icmp .ge 53, 3) := by decide +kernel
theorem dX7_unburden_8 : decode cX7_unburden 8 = .ok (.aload_n 0, 1) := by decide +kernel
theorem dX7_unburden_9 : decode cX7_unburden 9 = .ok (.iload_n 1, 1) := by decide +kernel
theorem dX7_unburden_10 : decode cX7_unburden 10 = .ok (.invokevirtual 67, 3) := by decide +kernel
theorem dX7_unburden_13 : decode cX7_unburden 13 = .ok (.iload_n 2, 1) := by decide +kernel
theorem dX7_unburden_14 : decode cX7_unburden 14 = .ok (.if_icmp .le 44, 3) := by decide +kernel
theorem dX7_unburden_17 : decode cX7_unburden 17 = .ok (.aload_n 0, 1) := by decide +kernel
theorem dX7_unburden_18 : decode cX7_unburden 18 = .ok (.iload_n 1, 1) := by decide +kernel
theorem dX7_unburden_19 : decode cX7_unburden 19 = .ok (.invokevirtual 107, 3) := by decide +kernel
theorem dX7_unburden_22 : decode cX7_unburden 22 = .ok (.istore 4, 2) := by decide +kernel
theorem dX7_unburden_24 : decode cX7_unburden 24 = .ok (.iload 4, 2) := by decide +kernel
theorem dX7_unburden_26 : decode cX7_unburden 26 = .ok (.iconst (-1), 1) := by decide +kernel
theorem dX7_unburden_27 : decode cX7_unburden 27 = .ok (.if_icmp .eq 25, 3) := by decide +kernel
theorem dX7_unburden_30 : decode cX7_unburden 30 = .ok (.aload_n 0, 1) := by decide +kernel
theorem dX7_unburden_31 : decode cX7_unburden 31 = .ok (.iload 4, 2) := by decide +kernel
theorem dX7_unburden_33 : decode cX7_unburden 33 = .ok (.iconst 3, 1) := by decide +kernel
theorem dX7_unburden_34 : decode cX7_unburden 34 = .ok (.bipush 9, 2) := by decide +kernel
theorem dX7_unburden_36 : decode cX7_unburden 36 = .ok (.invokevirtual 58, 3) := by decide +kernel
theorem dX7_unburden_39 : decode cX7_unburden 39 = .ok (.aload_n 0, 1) := by decide +kernel
theorem dX7_unburden_40 : decode cX7_unburden 40 = .ok (.dup, 1) := by decide +kernel
theorem dX7_unburden_41 : decode cX7_unburden 41 = .ok (.getfield 18, 3) := by decide +kernel
theorem dX7_unburden_44 : decode cX7_unburden 44 = .ok (.iconst 1, 1) := by decide +kernel
theorem dX7_unburden_45 : decode cX7_unburden 45 = .ok (.iload 4, 2) := by decide +kernel
theorem dX7_unburden_47 : decode cX7_unburden 47 = .ok (.ishl, 1) := by decide +kernel
theorem dX7_unburden_48 : decode cX7_unburden 48 = .ok (.ior, 1) := by decide +kernel
theorem dX7_unburden_49 : decode cX7_unburden 49 = .ok (.putfield 18, 3) := by decide +kernel
theorem dX7_unburden_52 : decode cX7_unburden 52 = .ok (.iinc 3 1, 3) := by decide +kernel
theorem dX7_unburden_55 : decode cX7_unburden 55 = .ok (.goto (-53), 3) := by decide +kernel
theorem dX7_unburden_58 : decode cX7_unburden 58 = .ok (.return_, 1) := by decide +kernel
theorem dX7_largestOn_0 : decode cX7_largestOn 0 = .ok (.iconst (-1), 1) := by decide +kernel
theorem dX7_largestOn_1 : decode cX7_largestOn 1 = .ok (.istore_n 2, 1) := by decide +kernel
theorem dX7_largestOn_2 : decode cX7_largestOn 2 = .ok (.iconst 0, 1) := by decide +kernel
theorem dX7_largestOn_3 : decode cX7_largestOn 3 = .ok (.istore_n 3, 1) := by decide +kernel
theorem dX7_largestOn_4 : decode cX7_largestOn 4 = .ok (.iconst 0, 1) := by decide +kernel
theorem dX7_largestOn_5 : decode cX7_largestOn 5 = .ok (.istore 4, 2) := by decide +kernel
theorem dX7_largestOn_7 : decode cX7_largestOn 7 = .ok (.iload 4, 2) := by decide +kernel
theorem dX7_largestOn_9 : decode cX7_largestOn 9 = .ok (.bipush 8, 2) := by decide +kernel
theorem dX7_largestOn_11 : decode cX7_largestOn 11 = .ok (.if_icmp .ge 51, 3) := by decide +kernel
theorem dX7_largestOn_14 : decode cX7_largestOn 14 = .ok (.aload_n 0, 1) := by decide +kernel
theorem dX7_largestOn_15 : decode cX7_largestOn 15 = .ok (.iload 4, 2) := by decide +kernel
theorem dX7_largestOn_17 : decode cX7_largestOn 17 = .ok (.invokevirtual 70, 3) := by decide +kernel
theorem dX7_largestOn_20 : decode cX7_largestOn 20 = .ok (.ifCond .eq 36, 3) := by decide +kernel
theorem dX7_largestOn_23 : decode cX7_largestOn 23 = .ok (.aload_n 0, 1) := by decide +kernel
theorem dX7_largestOn_24 : decode cX7_largestOn 24 = .ok (.iload 4, 2) := by decide +kernel
theorem dX7_largestOn_26 : decode cX7_largestOn 26 = .ok (.iconst 3, 1) := by decide +kernel
theorem dX7_largestOn_27 : decode cX7_largestOn 27 = .ok (.invokevirtual 74, 3) := by decide +kernel
theorem dX7_largestOn_30 : decode cX7_largestOn 30 = .ok (.iload_n 1, 1) := by decide +kernel
theorem dX7_largestOn_31 : decode cX7_largestOn 31 = .ok (.if_icmp .ne 25, 3) := by decide +kernel
theorem dX7_largestOn_34 : decode cX7_largestOn 34 = .ok (.aload_n 0, 1) := by decide +kernel
theorem dX7_largestOn_35 : decode cX7_largestOn 35 = .ok (.iload 4, 2) := by decide +kernel
theorem dX7_largestOn_37 : decode cX7_largestOn 37 = .ok (.iconst 0, 1) := by decide +kernel
theorem dX7_largestOn_38 : decode cX7_largestOn 38 = .ok (.invokevirtual 74, 3) := by decide +kernel
theorem dX7_largestOn_41 : decode cX7_largestOn 41 = .ok (.iload_n 3, 1) := by decide +kernel
theorem dX7_largestOn_42 : decode cX7_largestOn 42 = .ok (.if_icmp .le 14, 3) := by decide +kernel
theorem dX7_largestOn_45 : decode cX7_largestOn 45 = .ok (.iload 4, 2) := by decide +kernel
theorem dX7_largestOn_47 : decode cX7_largestOn 47 = .ok (.istore_n 2, 1) := by decide +kernel
theorem dX7_largestOn_48 : decode cX7_largestOn 48 = .ok (.aload_n 0, 1) := by decide +kernel
theorem dX7_largestOn_49 : decode cX7_largestOn 49 = .ok (.iload 4, 2) := by decide +kernel
theorem dX7_largestOn_51 : decode cX7_largestOn 51 = .ok (.iconst 0, 1) := by decide +kernel
theorem dX7_largestOn_52 : decode cX7_largestOn 52 = .ok (.invokevirtual 74, 3) := by decide +kernel
theorem dX7_largestOn_55 : decode cX7_largestOn 55 = .ok (.istore_n 3, 1) := by decide +kernel
theorem dX7_largestOn_56 : decode cX7_largestOn 56 = .ok (.iinc 4 1, 3) := by decide +kernel
theorem dX7_largestOn_59 : decode cX7_largestOn 59 = .ok (.goto (-52), 3) := by decide +kernel
theorem dX7_largestOn_62 : decode cX7_largestOn 62 = .ok (.iload_n 2, 1) := by decide +kernel
theorem dX7_largestOn_63 : decode cX7_largestOn 63 = .ok (.ireturn, 1) := by decide +kernel
theorem dX7_setOff_0 : decode cX7_setOff 0 = .ok (.aload_n 0, 1) := by decide +kernel
theorem dX7_setOff_1 : decode cX7_setOff 1 = .ok (.iload_n 1, 1) := by decide +kernel
theorem dX7_setOff_2 : decode cX7_setOff 2 = .ok (.iconst 0, 1) := by decide +kernel
theorem dX7_setOff_3 : decode cX7_setOff 3 = .ok (.invokevirtual 74, 3) := by decide +kernel
theorem dX7_setOff_6 : decode cX7_setOff 6 = .ok (.aload_n 0, 1) := by decide +kernel
theorem dX7_setOff_7 : decode cX7_setOff 7 = .ok (.iload_n 2, 1) := by decide +kernel
theorem dX7_setOff_8 : decode cX7_setOff 8 = .ok (.iconst 0, 1) := by decide +kernel
theorem dX7_setOff_9 : decode cX7_setOff 9 = .ok (.invokevirtual 74, 3) := by decide +kernel
theorem dX7_setOff_12 : decode cX7_setOff 12 = .ok (.isub, 1) := by decide +kernel
theorem dX7_setOff_13 : decode cX7_setOff 13 = .ok (.invokestatic 110, 3) := by decide +kernel
theorem dX7_setOff_16 : decode cX7_setOff 16 = .ok (.iconst 2, 1) := by decide +kernel
theorem dX7_setOff_17 : decode cX7_setOff 17 = .ok (.if_icmp .le 32, 3) := by decide +kernel
theorem dX7_setOff_20 : decode cX7_setOff 20 = .ok (.aload_n 0, 1) := by decide +kernel
theorem dX7_setOff_21 : decode cX7_setOff 21 = .ok (.iload_n 1, 1) := by decide +kernel
theorem dX7_setOff_22 : decode cX7_setOff 22 = .ok (.iconst 1, 1) := by decide +kernel
theorem dX7_setOff_23 : decode cX7_setOff 23 = .ok (.invokevirtual 74, 3) := by decide +kernel
theorem dX7_setOff_26 : decode cX7_setOff 26 = .ok (.aload_n 0, 1) := by decide +kernel
theorem dX7_setOff_27 : decode cX7_setOff 27 = .ok (.iload_n 1, 1) := by decide +kernel
theorem dX7_setOff_28 : decode cX7_setOff 28 = .ok (.iconst 2, 1) := by decide +kernel
theorem dX7_setOff_29 : decode cX7_setOff 29 = .ok (.invokevirtual 74, 3) := by decide +kernel
theorem dX7_setOff_32 : decode cX7_setOff 32 = .ok (.iadd, 1) := by decide +kernel
theorem dX7_setOff_33 : decode cX7_setOff 33 = .ok (.aload_n 0, 1) := by decide +kernel
theorem dX7_setOff_34 : decode cX7_setOff 34 = .ok (.iload_n 2, 1) := by decide +kernel
theorem dX7_setOff_35 : decode cX7_setOff 35 = .ok (.iconst 1, 1) := by decide +kernel
theorem dX7_setOff_36 : decode cX7_setOff 36 = .ok (.invokevirtual 74, 3) := by decide +kernel
theorem dX7_setOff_39 : decode cX7_setOff 39 = .ok (.aload_n 0, 1) := by decide +kernel
theorem dX7_setOff_40 : decode cX7_setOff 40 = .ok (.iload_n 2, 1) := by decide +kernel
theorem dX7_setOff_41 : decode cX7_setOff 41 = .ok (.iconst 2, 1) := by decide +kernel
theorem dX7_setOff_42 : decode cX7_setOff 42 = .ok (.invokevirtual 74, 3) := by decide +kernel
theorem dX7_setOff_45 : decode cX7_setOff 45 = .ok (.iadd, 1) := by decide +kernel
theorem dX7_setOff_46 : decode cX7_setOff 46 = .ok (.if_icmp .ne 7, 3) := by decide +kernel
theorem dX7_setOff_49 : decode cX7_setOff 49 = .ok (.iconst 1, 1) := by decide +kernel
theorem dX7_setOff_50 : decode cX7_setOff 50 = .ok (.goto 4, 3) := by decide +kernel
theorem dX7_setOff_53 : decode cX7_setOff 53 = .ok (.iconst 0, 1) := by decide +kernel
theorem dX7_setOff_54 : decode cX7_setOff 54 = .ok (.ireturn, 1) := by decide +kernel
theorem dX7_circleOf_0 : decode cX7_circleOf 0 = .ok (.iconst 0, 1) := by decide +kernel
theorem dX7_circleOf_1 : decode cX7_circleOf 1 = .ok (.istore_n 2, 1) := by decide +kernel
theorem dX7_circleOf_2 : decode cX7_circleOf 2 = .ok (.iconst 0, 1) := by decide +kernel
theorem dX7_circleOf_3 : decode cX7_circleOf 3 = .ok (.istore_n 3, 1) := by decide +kernel
theorem dX7_circleOf_4 : decode cX7_circleOf 4 = .ok (.iload_n 3, 1) := by decide +kernel
theorem dX7_circleOf_5 : decode cX7_circleOf 5 = .ok (.bipush 8, 2) := by decide +kernel
theorem dX7_circleOf_7 : decode cX7_circleOf 7 = .ok (.if_icmp .ge 32, 3) := by decide +kernel
theorem dX7_circleOf_10 : decode cX7_circleOf 10 = .ok (.aload_n 0, 1) := by decide +kernel
theorem dX7_circleOf_11 : decode cX7_circleOf 11 = .ok (.iload_n 3, 1) := by decide +kernel
theorem dX7_circleOf_12 : decode cX7_circleOf 12 = .ok (.invokevirtual 70, 3) := by decide +kernel
theorem dX7_circleOf_15 : decode cX7_circleOf 15 = .ok (.ifCond .eq 18, 3) := by decide +kernel
theorem dX7_circleOf_18 : decode cX7_circleOf 18 = .ok (.aload_n 0, 1) := by decide +kernel
theorem dX7_circleOf_19 : decode cX7_circleOf 19 = .ok (.iload_n 1, 1) := by decide +kernel
theorem dX7_circleOf_20 : decode cX7_circleOf 20 = .ok (.iload_n 3, 1) := by decide +kernel
theorem dX7_circleOf_21 : decode cX7_circleOf 21 = .ok (.invokevirtual 113, 3) := by decide +kernel
theorem dX7_circleOf_24 : decode cX7_circleOf 24 = .ok (.ifCond .eq 9, 3) := by decide +kernel
theorem dX7_circleOf_27 : decode cX7_circleOf 27 = .ok (.iload_n 2, 1) := by decide +kernel
theorem dX7_circleOf_28 : decode cX7_circleOf 28 = .ok (.iconst 1, 1) := by decide +kernel
theorem dX7_circleOf_29 : decode cX7_circleOf 29 = .ok (.iload_n 3, 1) := by decide +kernel
theorem dX7_circleOf_30 : decode cX7_circleOf 30 = .ok (.ishl, 1) := by decide +kernel
theorem dX7_circleOf_31 : decode cX7_circleOf 31 = .ok (.ior, 1) := by decide +kernel
theorem dX7_circleOf_32 : decode cX7_circleOf 32 = .ok (.istore_n 2, 1) := by decide +kernel
theorem dX7_circleOf_33 : decode cX7_circleOf 33 = .ok (.iinc 3 1, 3) := by decide +kernel
theorem dX7_circleOf_36 : decode cX7_circleOf 36 = .ok (.goto (-32), 3) := by decide +kernel
theorem dX7_circleOf_39 : decode cX7_circleOf 39 = .ok (.iload_n 2, 1) := by decide +kernel
theorem dX7_circleOf_40 : decode cX7_circleOf 40 = .ok (.ireturn, 1) := by decide +kernel
theorem dX7_quarrels_0 : decode cX7_quarrels 0 = .ok (.iconst 0, 1) := by decide +kernel
theorem dX7_quarrels_1 : decode cX7_quarrels 1 = .ok (.istore_n 1, 1) := by decide +kernel
theorem dX7_quarrels_2 : decode cX7_quarrels 2 = .ok (.iconst 0, 1) := by decide +kernel
theorem dX7_quarrels_3 : decode cX7_quarrels 3 = .ok (.istore_n 2, 1) := by decide +kernel
theorem dX7_quarrels_4 : decode cX7_quarrels 4 = .ok (.iload_n 2, 1) := by decide +kernel
theorem dX7_quarrels_5 : decode cX7_quarrels 5 = .ok (.bipush 8, 2) := by decide +kernel
theorem dX7_quarrels_7 : decode cX7_quarrels 7 = .ok (.if_icmp .ge 30, 3) := by decide +kernel
theorem dX7_quarrels_10 : decode cX7_quarrels 10 = .ok (.aload_n 0, 1) := by decide +kernel
theorem dX7_quarrels_11 : decode cX7_quarrels 11 = .ok (.iload_n 2, 1) := by decide +kernel
theorem dX7_quarrels_12 : decode cX7_quarrels 12 = .ok (.invokevirtual 70, 3) := by decide +kernel
theorem dX7_quarrels_15 : decode cX7_quarrels 15 = .ok (.ifCond .eq 16, 3) := by decide +kernel
theorem dX7_quarrels_18 : decode cX7_quarrels 18 = .ok (.iload_n 1, 1) := by decide +kernel
theorem dX7_quarrels_19 : decode cX7_quarrels 19 = .ok (.aload_n 0, 1) := by decide +kernel
theorem dX7_quarrels_20 : decode cX7_quarrels 20 = .ok (.iload_n 2, 1) := by decide +kernel
theorem dX7_quarrels_21 : decode cX7_quarrels 21 = .ok (.invokevirtual 117, 3) := by decide +kernel
theorem dX7_quarrels_24 : decode cX7_quarrels 24 = .ok (.invokestatic 120, 3) := by decide +kernel
theorem dX7_quarrels_27 : decode cX7_quarrels 27 = .ok (.iconst 1, 1) := by decide +kernel
theorem dX7_quarrels_28 : decode cX7_quarrels 28 = .ok (.isub, 1) := by decide +kernel
theorem dX7_quarrels_29 : decode cX7_quarrels 29 = .ok (.iadd, 1) := by decide +kernel
theorem dX7_quarrels_30 : decode cX7_quarrels 30 = .ok (.istore_n 1, 1) := by decide +kernel
theorem dX7_quarrels_31 : decode cX7_quarrels 31 = .ok (.iinc 2 1, 3) := by decide +kernel
theorem dX7_quarrels_34 : decode cX7_quarrels 34 = .ok (.goto (-30), 3) := by decide +kernel
theorem dX7_quarrels_37 : decode cX7_quarrels 37 = .ok (.iload_n 1, 1) := by decide +kernel
theorem dX7_quarrels_38 : decode cX7_quarrels 38 = .ok (.iconst 2, 1) := by decide +kernel
theorem dX7_quarrels_39 : decode cX7_quarrels 39 = .ok (.idiv, 1) := by decide +kernel
theorem dX7_quarrels_40 : decode cX7_quarrels 40 = .ok (.ireturn, 1) := by decide +kernel
theorem dX7_loudestCrowd_0 : decode cX7_loudestCrowd 0 = .ok (.iconst 0, 1) := by decide +kernel
theorem dX7_loudestCrowd_1 : decode cX7_loudestCrowd 1 = .ok (.istore_n 1, 1) := by decide +kernel
theorem dX7_loudestCrowd_2 : decode cX7_loudestCrowd 2 = .ok (.iload_n 1, 1) := by decide +kernel
theorem dX7_loudestCrowd_3 : decode cX7_loudestCrowd 3 = .ok (.bipush 8, 2) := by decide +kernel
theorem dX7_loudestCrowd_5 : decode cX7_loudestCrowd 5 = .ok (.if_icmp .ge 32, 3) := by decide +kernel
theorem dX7_loudestCrowd_8 : decode cX7_loudestCrowd 8 = .ok (.aload_n 0, 1) := by decide +kernel
theorem dX7_loudestCrowd_9 : decode cX7_loudestCrowd 9 = .ok (.getfield 15, 3) := by decide +kernel
theorem dX7_loudestCrowd_12 : decode cX7_loudestCrowd 12 = .ok (.iload_n 1, 1) := by decide +kernel
theorem dX7_loudestCrowd_13 : decode cX7_loudestCrowd 13 = .ok (.aload_n 0, 1) := by decide +kernel
theorem dX7_loudestCrowd_14 : decode cX7_loudestCrowd 14 = .ok (.iload_n 1, 1) := by decide +kernel
theorem dX7_loudestCrowd_15 : decode cX7_loudestCrowd 15 = .ok (.invokevirtual 70, 3) := by decide +kernel
theorem dX7_loudestCrowd_18 : decode cX7_loudestCrowd 18 = .ok (.ifCond .eq 11, 3) := by decide +kernel
theorem dX7_loudestCrowd_21 : decode cX7_loudestCrowd 21 = .ok (.aload_n 0, 1) := by decide +kernel
theorem dX7_loudestCrowd_22 : decode cX7_loudestCrowd 22 = .ok (.iload_n 1, 1) := by decide +kernel
theorem dX7_loudestCrowd_23 : decode cX7_loudestCrowd 23 = .ok (.invokevirtual 117, 3) := by decide +kernel
theorem dX7_loudestCrowd_26 : decode cX7_loudestCrowd 26 = .ok (.goto 4, 3) := by decide +kernel
theorem dX7_loudestCrowd_29 : decode cX7_loudestCrowd 29 = .ok (.iconst 0, 1) := by decide +kernel
theorem dX7_loudestCrowd_30 : decode cX7_loudestCrowd 30 = .ok (.iastore, 1) := by decide +kernel
theorem dX7_loudestCrowd_31 : decode cX7_loudestCrowd 31 = .ok (.iinc 1 1, 3) := by decide +kernel
theorem dX7_loudestCrowd_34 : decode cX7_loudestCrowd 34 = .ok (.goto (-32), 3) := by decide +kernel
theorem dX7_loudestCrowd_37 : decode cX7_loudestCrowd 37 = .ok (.iconst 0, 1) := by decide +kernel
theorem dX7_loudestCrowd_38 : decode cX7_loudestCrowd 38 = .ok (.istore_n 1, 1) := by decide +kernel
theorem dX7_loudestCrowd_39 : decode cX7_loudestCrowd 39 = .ok (.iconst 1, 1) := by decide +kernel
theorem dX7_loudestCrowd_40 : decode cX7_loudestCrowd 40 = .ok (.istore_n 2, 1) := by decide +kernel
theorem dX7_loudestCrowd_41 : decode cX7_loudestCrowd 41 = .ok (.iload_n 2, 1) := by decide +kernel
theorem dX7_loudestCrowd_42 : decode cX7_loudestCrowd 42 = .ok (.sipush 256, 3) := by decide +kernel
theorem dX7_loudestCrowd_45 : decode cX7_loudestCrowd 45 = .ok (.if_icmp .ge 30, 3) := by decide +kernel
theorem dX7_loudestCrowd_48 : decode cX7_loudestCrowd 48 = .ok (.iload_n 2, 1) := by decide +kernel
theorem dX7_loudestCrowd_49 : decode cX7_loudestCrowd 49 = .ok (.invokestatic 120, 3) := by decide +kernel
theorem dX7_loudestCrowd_52 : decode cX7_loudestCrowd 52 = .ok (.iload_n 1, 1) := by decide +kernel
theorem dX7_loudestCrowd_53 : decode cX7_loudestCrowd 53 = .ok (.invokestatic 120, 3) := by decide +kernel
theorem dX7_loudestCrowd_56 : decode cX7_loudestCrowd 56 = .ok (.if_icmp .le 13, 3) := by decide +kernel
theorem dX7_loudestCrowd_59 : decode cX7_loudestCrowd 59 = .ok (.aload_n 0, 1) := by decide +kernel
theorem dX7_loudestCrowd_60 : decode cX7_loudestCrowd 60 = .ok (.iload_n 2, 1) := by decide +kernel
theorem dX7_loudestCrowd_61 : decode cX7_loudestCrowd 61 = .ok (.invokevirtual 125, 3) := by decide +kernel
theorem dX7_loudestCrowd_64 : decode cX7_loudestCrowd 64 = .ok (.ifCond .eq 5, 3) := by decide +kernel
theorem dX7_loudestCrowd_67 : decode cX7_loudestCrowd 67 = .ok (.iload_n 2, 1) := by decide +kernel
theorem dX7_loudestCrowd_68 : decode cX7_loudestCrowd 68 = .ok (.istore_n 1, 1) := by decide +kernel
theorem dX7_loudestCrowd_69 : decode cX7_loudestCrowd 69 = .ok (.iinc 2 1, 3) := by decide +kernel
theorem dX7_loudestCrowd_72 : decode cX7_loudestCrowd 72 = .ok (.goto (-31), 3) := by decide +kernel
theorem dX7_loudestCrowd_75 : decode cX7_loudestCrowd 75 = .ok (.iload_n 1, 1) := by decide +kernel
theorem dX7_loudestCrowd_76 : decode cX7_loudestCrowd 76 = .ok (.ireturn, 1) := by decide +kernel
theorem dX7_isCrowd_0 : decode cX7_isCrowd 0 = .ok (.iconst 0, 1) := by decide +kernel
theorem dX7_isCrowd_1 : decode cX7_isCrowd 1 = .ok (.istore_n 2, 1) := by decide +kernel
theorem dX7_isCrowd_2 : decode cX7_isCrowd 2 = .ok (.iload_n 2, 1) := by decide +kernel
theorem dX7_isCrowd_3 : decode cX7_isCrowd 3 = .ok (.bipush 8, 2) := by decide +kernel
theorem dX7_isCrowd_5 : decode cX7_isCrowd 5 = .ok (.if_icmp .ge 33, 3) := by decide +kernel
theorem dX7_isCrowd_8 : decode cX7_isCrowd 8 = .ok (.iload_n 1, 1) := by decide +kernel
theorem dX7_isCrowd_9 : decode cX7_isCrowd 9 = .ok (.iload_n 2, 1) := by decide +kernel
theorem dX7_isCrowd_10 : decode cX7_isCrowd 10 = .ok (.ishr, 1) := by decide +kernel
theorem dX7_isCrowd_11 : decode cX7_isCrowd 11 = .ok (.iconst 1, 1) := by decide +kernel
theorem dX7_isCrowd_12 : decode cX7_isCrowd 12 = .ok (.iand, 1) := by decide +kernel
theorem dX7_isCrowd_13 : decode cX7_isCrowd 13 = .ok (.iconst 1, 1) := by decide +kernel
theorem dX7_isCrowd_14 : decode cX7_isCrowd 14 = .ok (.if_icmp .ne 18, 3) := by decide +kernel
theorem dX7_isCrowd_17 : decode cX7_isCrowd 17 = .ok (.iload_n 1, 1) := by decide +kernel
theorem dX7_isCrowd_18 : decode cX7_isCrowd 18 = .ok (.aload_n 0, 1) := by decide +kernel
theorem dX7_isCrowd_19 : decode cX7_isCrowd 19 = .ok (.getfield 15, 3) := by decide +kernel
theorem dX7_isCrowd_22 : decode cX7_isCrowd 22 = .ok (.iload_n 2, 1) := by decide +kernel
theorem dX7_isCrowd_23 : decode cX7_isCrowd 23 = .ok (.iaload, 1) := by decide +kernel
theorem dX7_isCrowd_24 : decode cX7_isCrowd 24 = .ok (.iconst (-1), 1) := by decide +kernel
theorem dX7_isCrowd_25 : decode cX7_isCrowd 25 = .ok (.ixor, 1) := by decide +kernel
theorem dX7_isCrowd_26 : decode cX7_isCrowd 26 = .ok (.iand, 1) := by decide +kernel
theorem dX7_isCrowd_27 : decode cX7_isCrowd 27 = .ok (.ifCond .eq 5, 3) := by decide +kernel
theorem dX7_isCrowd_30 : decode cX7_isCrowd 30 = .ok (.iconst 0, 1) := by decide +kernel
theorem dX7_isCrowd_31 : decode cX7_isCrowd 31 = .ok (.ireturn, 1) := by decide +kernel
theorem dX7_isCrowd_32 : decode cX7_isCrowd 32 = .ok (.iinc 2 1, 3) := by decide +kernel
theorem dX7_isCrowd_35 : decode cX7_isCrowd 35 = .ok (.goto (-33), 3) := by decide +kernel
theorem dX7_isCrowd_38 : decode cX7_isCrowd 38 = .ok (.iconst 1, 1) := by decide +kernel
theorem dX7_isCrowd_39 : decode cX7_isCrowd 39 = .ok (.ireturn, 1) := by decide +kernel
theorem dX7_fewestWorth_0 : decode cX7_fewestWorth 0 = .ok (.aload_n 0, 1) := by decide +kernel
theorem dX7_fewestWorth_1 : decode cX7_fewestWorth 1 = .ok (.iconst 5, 1) := by decide +kernel
theorem dX7_fewestWorth_2 : decode cX7_fewestWorth 2 = .ok (.bipush 7, 2) := by decide +kernel
theorem dX7_fewestWorth_4 : decode cX7_fewestWorth 4 = .ok (.invokevirtual 77, 3) := by decide +kernel
theorem dX7_fewestWorth_7 : decode cX7_fewestWorth 7 = .ok (.istore_n 2, 1) := by decide +kernel
theorem dX7_fewestWorth_8 : decode cX7_fewestWorth 8 = .ok (.iconst (-1), 1) := by decide +kernel
theorem dX7_fewestWorth_9 : decode cX7_fewestWorth 9 = .ok (.istore_n 3, 1) := by decide +kernel
theorem dX7_fewestWorth_10 : decode cX7_fewestWorth 10 = .ok (.iconst 1, 1) := by decide +kernel
theorem dX7_fewestWorth_11 : decode cX7_fewestWorth 11 = .ok (.istore 4, 2) := by decide +kernel
theorem dX7_fewestWorth_13 : decode cX7_fewestWorth 13 = .ok (.iload 4, 2) := by decide +kernel
theorem dX7_fewestWorth_15 : decode cX7_fewestWorth 15 = .ok (.sipush 256, 3) := by decide +kernel
theorem dX7_fewestWorth_18 : decode cX7_fewestWorth 18 = .ok (.if_icmp .ge 60, 3) := by decide +kernel
theorem dX7_fewestWorth_21 : decode cX7_fewestWorth 21 = .ok (.iload_n 3, 1) := by decide +kernel
theorem dX7_fewestWorth_22 : decode cX7_fewestWorth 22 = .ok (.iconst (-1), 1) := by decide +kernel
theorem dX7_fewestWorth_23 : decode cX7_fewestWorth 23 = .ok (.if_icmp .eq 15, 3) := by decide +kernel
theorem dX7_fewestWorth_26 : decode cX7_fewestWorth 26 = .ok (.iload 4, 2) := by decide +kernel
theorem dX7_fewestWorth_28 : decode cX7_fewestWorth 28 = .ok (.invokestatic 120, 3) := by decide +kernel
theorem dX7_fewestWorth_31 : decode cX7_fewestWorth 31 = .ok (.iload_n 3, 1) := by decide +kernel
theorem dX7_fewestWorth_32 : decode cX7_fewestWorth 32 = .ok (.invokestatic 120, 3) := by decide +kernel
theorem dX7_fewestWorth_35 : decode cX7_fewestWorth 35 = .ok (.if_icmp .ge 7, 3) := by decide +kernel
theorem dX7_fewestWorth_38 : decode cX7_fewestWorth 38 = .ok (.iconst 1, 1) := by decide +kernel
theorem dX7_fewestWorth_39 : decode cX7_fewestWorth 39 = .ok (.goto 4, 3) := by decide +kernel
theorem dX7_fewestWorth_42 : decode cX7_fewestWorth 42 = .ok (.iconst 0, 1) := by decide +kernel
theorem dX7_fewestWorth_43 : decode cX7_fewestWorth 43 = .ok (.istore 5, 2) := by decide +kernel
theorem dX7_fewestWorth_45 : decode cX7_fewestWorth 45 = .ok (.iload 5, 2) := by decide +kernel
theorem dX7_fewestWorth_47 : decode cX7_fewestWorth 47 = .ok (.ifCond .eq 25, 3) := by decide +kernel
theorem dX7_fewestWorth_50 : decode cX7_fewestWorth 50 = .ok (.iload 4, 2) := by decide +kernel
theorem dX7_fewestWorth_52 : decode cX7_fewestWorth 52 = .ok (.iload_n 2, 1) := by decide +kernel
theorem dX7_fewestWorth_53 : decode cX7_fewestWorth 53 = .ok (.iconst (-1), 1) := by decide +kernel
theorem dX7_fewestWorth_54 : decode cX7_fewestWorth 54 = .ok (.ixor, 1) := by decide +kernel
theorem dX7_fewestWorth_55 : decode cX7_fewestWorth 55 = .ok (.iand, 1) := by decide +kernel
theorem dX7_fewestWorth_56 : decode cX7_fewestWorth 56 = .ok (.ifCond .ne 16, 3) := by decide +kernel
theorem dX7_fewestWorth_59 : decode cX7_fewestWorth 59 = .ok (.aload_n 0, 1) := by decide +kernel
theorem dX7_fewestWorth_60 : decode cX7_fewestWorth 60 = .ok (.iload 4, 2) := by decide +kernel
theorem dX7_fewestWorth_62 : decode cX7_fewestWorth 62 = .ok (.invokevirtual 128, 3) := by decide +kernel
theorem dX7_fewestWorth_65 : decode cX7_fewestWorth 65 = .ok (.iload_n 1, 1) := by decide +kernel
theorem dX7_fewestWorth_66 : decode cX7_fewestWorth 66 = .ok (.if_icmp .lt 6, 3) := by decide +kernel
theorem dX7_fewestWorth_69 : decode cX7_fewestWorth 69 = .ok (.iload 4, 2) := by decide +kernel
theorem dX7_fewestWorth_71 : decode cX7_fewestWorth 71 = .ok (.istore_n 3, 1) := by decide +kernel
theorem dX7_fewestWorth_72 : decode cX7_fewestWorth 72 = .ok (.iinc 4 1, 3) := by decide +kernel
theorem dX7_fewestWorth_75 : decode cX7_fewestWorth 75 = .ok (.goto (-62), 3) := by decide +kernel
theorem dX7_fewestWorth_78 : decode cX7_fewestWorth 78 = .ok (.iload_n 3, 1) := by decide +kernel
theorem dX7_fewestWorth_79 : decode cX7_fewestWorth 79 = .ok (.ireturn, 1) := by decide +kernel
theorem dX7_sizesOf_0 : decode cX7_sizesOf 0 = .ok (.iconst 0, 1) := by decide +kernel
theorem dX7_sizesOf_1 : decode cX7_sizesOf 1 = .ok (.istore_n 2, 1) := by decide +kernel
theorem dX7_sizesOf_2 : decode cX7_sizesOf 2 = .ok (.iconst 0, 1) := by decide +kernel
theorem dX7_sizesOf_3 : decode cX7_sizesOf 3 = .ok (.istore_n 3, 1) := by decide +kernel
theorem dX7_sizesOf_4 : decode cX7_sizesOf 4 = .ok (.iload_n 3, 1) := by decide +kernel
theorem dX7_sizesOf_5 : decode cX7_sizesOf 5 = .ok (.bipush 8, 2) := by decide +kernel
theorem dX7_sizesOf_7 : decode cX7_sizesOf 7 = .ok (.if_icmp .ge 27, 3) := by decide +kernel
theorem dX7_sizesOf_10 : decode cX7_sizesOf 10 = .ok (.iload_n 1, 1) := by decide +kernel
theorem dX7_sizesOf_11 : decode cX7_sizesOf 11 = .ok (.iload_n 3, 1) := by decide +kernel
theorem dX7_sizesOf_12 : decode cX7_sizesOf 12 = .ok (.ishr, 1) := by decide +kernel
theorem dX7_sizesOf_13 : decode cX7_sizesOf 13 = .ok (.iconst 1, 1) := by decide +kernel
theorem dX7_sizesOf_14 : decode cX7_sizesOf 14 = .ok (.iand, 1) := by decide +kernel
theorem dX7_sizesOf_15 : decode cX7_sizesOf 15 = .ok (.iconst 1, 1) := by decide +kernel
theorem dX7_sizesOf_16 : decode cX7_sizesOf 16 = .ok (.if_icmp .ne 12, 3) := by decide +kernel
theorem dX7_sizesOf_19 : decode cX7_sizesOf 19 = .ok (.iload_n 2, 1) := by decide +kernel
theorem dX7_sizesOf_20 : decode cX7_sizesOf 20 = .ok (.aload_n 0, 1) := by decide +kernel
theorem dX7_sizesOf_21 : decode cX7_sizesOf 21 = .ok (.iload_n 3, 1) := by decide +kernel
theorem dX7_sizesOf_22 : decode cX7_sizesOf 22 = .ok (.iconst 0, 1) := by decide +kernel
theorem dX7_sizesOf_23 : decode cX7_sizesOf 23 = .ok (.invokevirtual 74, 3) := by decide +kernel
theorem dX7_sizesOf_26 : decode cX7_sizesOf 26 = .ok (.iadd, 1) := by decide +kernel
theorem dX7_sizesOf_27 : decode cX7_sizesOf 27 = .ok (.istore_n 2, 1) := by decide +kernel
theorem dX7_sizesOf_28 : decode cX7_sizesOf 28 = .ok (.iinc 3 1, 3) := by decide +kernel
theorem dX7_sizesOf_31 : decode cX7_sizesOf 31 = .ok (.goto (-27), 3) := by decide +kernel
theorem dX7_sizesOf_34 : decode cX7_sizesOf 34 = .ok (.iload_n 2, 1) := by decide +kernel
theorem dX7_sizesOf_35 : decode cX7_sizesOf 35 = .ok (.ireturn, 1) := by decide +kernel
theorem dX8_gather_0 : decode cX8_gather 0 = .ok (.aload_n 0, 1) := by decide +kernel
theorem dX8_gather_1 : decode cX8_gather 1 = .ok (.iconst 0, 1) := by decide +kernel
theorem dX8_gather_2 : decode cX8_gather 2 = .ok (.putfield 30, 3) := by decide +kernel
theorem dX8_gather_5 : decode cX8_gather 5 = .ok (.iconst 0, 1) := by decide +kernel
theorem dX8_gather_6 : decode cX8_gather 6 = .ok (.istore_n 2, 1) := by decide +kernel
theorem dX8_gather_7 : decode cX8_gather 7 = .ok (.iload_n 2, 1) := by decide +kernel
theorem dX8_gather_8 : decode cX8_gather 8 = .ok (.bipush 8, 2) := by decide +kernel
theorem dX8_gather_10 : decode cX8_gather 10 = .ok (.if_icmp .ge 75, 3) := by decide +kernel
theorem dX8_gather_13 : decode cX8_gather 13 = .ok (.aload_n 1, 1) := by decide +kernel
theorem dX8_gather_14 : decode cX8_gather 14 = .ok (.iload_n 2, 1) := by decide +kernel
theorem dX8_gather_15 : decode cX8_gather 15 = .ok (.invokevirtual 41, 3) := by decide +kernel
theorem dX8_gather_18 : decode cX8_gather 18 = .ok (.ifCond .eq 61, 3) := by decide +kernel
theorem dX8_gather_21 : decode cX8_gather 21 = .ok (.aload_n 0, 1) := by decide +kernel
theorem dX8_gather_22 : decode cX8_gather 22 = .ok (.getfield 30, 3) := by decide +kernel
theorem dX8_gather_25 : decode cX8_gather 25 = .ok (.bipush 8, 2) := by decide +kernel
theorem dX8_gather_27 : decode cX8_gather 27 = .ok (.if_icmp .ge 52, 3) := by decide +kernel
theorem dX8_gather_30 : decode cX8_gather 30 = .ok (.aload_n 0, 1) := by decide +kernel
theorem dX8_gather_31 : decode cX8_gather 31 = .ok (.getfield 18, 3) := by decide +kernel
theorem dX8_gather_34 : decode cX8_gather 34 = .ok (.aload_n 0, 1) := by decide +kernel
theorem dX8_gather_35 : decode cX8_gather 35 = .ok (.getfield 30, 3) := by decide +kernel
theorem dX8_gather_38 : decode cX8_gather 38 = .ok (.iload_n 2, 1) := by decide +kernel
theorem dX8_gather_39 : decode cX8_gather 39 = .ok (.iastore, 1) := by decide +kernel
theorem dX8_gather_40 : decode cX8_gather 40 = .ok (.aload_n 0, 1) := by decide +kernel
theorem dX8_gather_41 : decode cX8_gather 41 = .ok (.getfield 9, 3) := by decide +kernel
theorem dX8_gather_44 : decode cX8_gather 44 = .ok (.aload_n 0, 1) := by decide +kernel
theorem dX8_gather_45 : decode cX8_gather 45 = .ok (.getfield 30, 3) := by decide +kernel
theorem dX8_gather_48 : decode cX8_gather 48 = .ok (.aload_n 1, 1) := by decide +kernel
theorem dX8_gather_49 : decode cX8_gather 49 = .ok (.iload_n 2, 1) := by decide +kernel
theorem dX8_gather_50 : decode cX8_gather 50 = .ok (.iconst 0, 1) := by decide +kernel
theorem dX8_gather_51 : decode cX8_gather 51 = .ok (.invokevirtual 47, 3) := by decide +kernel
theorem dX8_gather_54 : decode cX8_gather 54 = .ok (.iastore, 1) := by decide +kernel
theorem dX8_gather_55 : decode cX8_gather 55 = .ok (.aload_n 0, 1) := by decide +kernel
theorem dX8_gather_56 : decode cX8_gather 56 = .ok (.getfield 15, 3) := by decide +kernel
theorem dX8_gather_59 : decode cX8_gather 59 = .ok (.aload_n 0, 1) := by decide +kernel
theorem dX8_gather_60 : decode cX8_gather 60 = .ok (.getfield 30, 3) := by decide +kernel
theorem dX8_gather_63 : decode cX8_gather 63 = .ok (.aload_n 1, 1) := by decide +kernel
theorem dX8_gather_64 : decode cX8_gather 64 = .ok (.iload_n 2, 1) := by decide +kernel
theorem dX8_gather_65 : decode cX8_gather 65 = .ok (.invokevirtual 51, 3) := by decide +kernel
theorem dX8_gather_68 : decode cX8_gather 68 = .ok (.iastore, 1) := by decide +kernel
theorem dX8_gather_69 : decode cX8_gather 69 = .ok (.aload_n 0, 1) := by decide +kernel
theorem dX8_gather_70 : decode cX8_gather 70 = .ok (.dup, 1) := by decide +kernel
theorem dX8_gather_71 : decode cX8_gather 71 = .ok (.getfield 30, 3) := by decide +kernel
theorem dX8_gather_74 : decode cX8_gather 74 = .ok (.iconst 1, 1) := by decide +kernel
theorem dX8_gather_75 : decode cX8_gather 75 = .ok (.iadd, 1) := by decide +kernel
theorem dX8_gather_76 : decode cX8_gather 76 = .ok (.putfield 30, 3) := by decide +kernel
theorem dX8_gather_79 : decode cX8_gather 79 = .ok (.iinc 2 1, 3) := by decide +kernel
theorem dX8_gather_82 : decode cX8_gather 82 = .ok (.goto (-75), 3) := by decide +kernel
theorem dX8_gather_85 : decode cX8_gather 85 = .ok (.return_, 1) := by decide +kernel
theorem dX8_fewestByRoom_0 : decode cX8_fewestByRoom 0 = .ok (.aload_n 0, 1) := by decide +kernel
theorem dX8_fewestByRoom_1 : decode cX8_fewestByRoom 1 = .ok (.iconst 1, 1) := by decide +kernel
theorem dX8_fewestByRoom_2 : decode cX8_fewestByRoom 2 = .ok (.putfield 37, 3) := by decide +kernel
theorem dX8_fewestByRoom_5 : decode cX8_fewestByRoom 5 = .ok (.aload_n 0, 1) := by decide +kernel
theorem dX8_fewestByRoom_6 : decode cX8_fewestByRoom 6 = .ok (.iload_n 2, 1) := by decide +kernel
theorem dX8_fewestByRoom_7 : decode cX8_fewestByRoom 7 = .ok (.putfield 34, 3) := by decide +kernel
theorem dX8_fewestByRoom_10 : decode cX8_fewestByRoom 10 = .ok (.aload_n 0, 1) := by decide +kernel
theorem dX8_fewestByRoom_11 : decode cX8_fewestByRoom 11 = .ok (.iload_n 1, 1) := by decide +kernel
theorem dX8_fewestByRoom_12 : decode cX8_fewestByRoom 12 = .ok (.invokevirtual 55, 3) := by decide +kernel
theorem dX8_fewestByRoom_15 : decode cX8_fewestByRoom 15 = .ok (.ireturn, 1) := by decide +kernel
theorem dX8_fewestByPeace_0 : decode cX8_fewestByPeace 0 = .ok (.aload_n 0, 1) := by decide +kernel
theorem dX8_fewestByPeace_1 : decode cX8_fewestByPeace 1 = .ok (.iconst 0, 1) := by decide +kernel
theorem dX8_fewestByPeace_2 : decode cX8_fewestByPeace 2 = .ok (.putfield 37, 3) := by decide +kernel
theorem dX8_fewestByPeace_5 : decode cX8_fewestByPeace 5 = .ok (.aload_n 0, 1) := by decide +kernel
theorem dX8_fewestByPeace_6 : decode cX8_fewestByPeace 6 = .ok (.bipush 8, 2) := by decide +kernel
theorem dX8_fewestByPeace_8 : decode cX8_fewestByPeace 8 = .ok (.invokevirtual 55, 3) := by decide +kernel
theorem dX8_fewestByPeace_11 : decode cX8_fewestByPeace 11 = .ok (.ireturn, 1) := by decide +kernel
theorem dX8_fewest_0 : decode cX8_fewest 0 = .ok (.iconst 0, 1) := by decide +kernel
theorem dX8_fewest_1 : decode cX8_fewest 1 = .ok (.istore_n 2, 1) := by decide +kernel
theorem dX8_fewest_2 : decode cX8_fewest 2 = .ok (.iload_n 2, 1) := by decide +kernel
theorem dX8_fewest_3 : decode cX8_fewest 3 = .ok (.iload_n 1, 1) := by decide +kernel
theorem dX8_fewest_4 : decode cX8_fewest 4 = .ok (.if_icmp .gt 43, 3) := by decide +kernel
theorem dX8_fewest_7 : decode cX8_fewest 7 = .ok (.iload_n 2, 1) := by decide +kernel
theorem dX8_fewest_8 : decode cX8_fewest 8 = .ok (.bipush 8, 2) := by decide +kernel
theorem dX8_fewest_10 : decode cX8_fewest 10 = .ok (.if_icmp .gt 37, 3) := by decide +kernel
theorem dX8_fewest_13 : decode cX8_fewest 13 = .ok (.aload_n 0, 1) := by decide +kernel
theorem dX8_fewest_14 : decode cX8_fewest 14 = .ok (.getfield 24, 3) := by decide +kernel
theorem dX8_fewest_17 : decode cX8_fewest 17 = .ok (.iconst 0, 1) := by decide +kernel
theorem dX8_fewest_18 : decode cX8_fewest 18 = .ok (.invokestatic 58, 3) := by decide +kernel
theorem dX8_fewest_21 : decode cX8_fewest 21 = .ok (.aload_n 0, 1) := by decide +kernel
theorem dX8_fewest_22 : decode cX8_fewest 22 = .ok (.getfield 27, 3) := by decide +kernel
theorem dX8_fewest_25 : decode cX8_fewest 25 = .ok (.iconst 0, 1) := by decide +kernel
theorem dX8_fewest_26 : decode cX8_fewest 26 = .ok (.invokestatic 58, 3) := by decide +kernel
theorem dX8_fewest_29 : decode cX8_fewest 29 = .ok (.aload_n 0, 1) := by decide +kernel
theorem dX8_fewest_30 : decode cX8_fewest 30 = .ok (.iconst 0, 1) := by decide +kernel
theorem dX8_fewest_31 : decode cX8_fewest 31 = .ok (.iconst 0, 1) := by decide +kernel
theorem dX8_fewest_32 : decode cX8_fewest 32 = .ok (.iload_n 2, 1) := by decide +kernel
theorem dX8_fewest_33 : decode cX8_fewest 33 = .ok (.invokevirtual 64, 3) := by decide +kernel
theorem dX8_fewest_36 : decode cX8_fewest 36 = .ok (.ifCond .eq 5, 3) := by decide +kernel
theorem dX8_fewest_39 : decode cX8_fewest 39 = .ok (.iload_n 2, 1) := by decide +kernel
theorem dX8_fewest_40 : decode cX8_fewest 40 = .ok (.ireturn, 1) := by decide +kernel
theorem dX8_fewest_41 : decode cX8_fewest 41 = .ok (.iinc 2 1, 3) := by decide +kernel
theorem dX8_fewest_44 : decode cX8_fewest 44 = .ok (.goto (-42), 3) := by decide +kernel
theorem dX8_fewest_47 : decode cX8_fewest 47 = .ok (.iconst (-1), 1) := by decide +kernel
theorem dX8_fewest_48 : decode cX8_fewest 48 = .ok (.ireturn, 1) := by decide +kernel
theorem dX8_row_0 : decode cX8_row 0 = .ok (.iconst 0, 1) := by decide +kernel
theorem dX8_row_1 : decode cX8_row 1 = .ok (.istore_n 1, 1) := by decide +kernel
theorem dX8_row_2 : decode cX8_row 2 = .ok (.iconst 0, 1) := by decide +kernel
theorem dX8_row_3 : decode cX8_row 3 = .ok (.istore_n 2, 1) := by decide +kernel
theorem dX8_row_4 : decode cX8_row 4 = .ok (.iload_n 2, 1) := by decide +kernel
theorem dX8_row_5 : decode cX8_row 5 = .ok (.aload_n 0, 1) := by decide +kernel
theorem dX8_row_6 : decode cX8_row 6 = .ok (.getfield 30, 3) := by decide +kernel
theorem dX8_row_9 : decode cX8_row 9 = .ok (.if_icmp .ge 27, 3) := by decide +kernel
theorem dX8_row_12 : decode cX8_row 12 = .ok (.iload_n 2, 1) := by decide +kernel
theorem dX8_row_13 : decode cX8_row 13 = .ok (.bipush 8, 2) := by decide +kernel
theorem dX8_row_15 : decode cX8_row 15 = .ok (.if_icmp .ge 21, 3) := by decide +kernel
theorem dX8_row_18 : decode cX8_row 18 = .ok (.iload_n 1, 1) := by decide +kernel
theorem dX8_row_19 : decode cX8_row 19 = .ok (.bipush 10, 2) := by decide +kernel
theorem dX8_row_21 : decode cX8_row 21 = .ok (.imul, 1) := by decide +kernel
theorem dX8_row_22 : decode cX8_row 22 = .ok (.aload_n 0, 1) := by decide +kernel
theorem dX8_row_23 : decode cX8_row 23 = .ok (.getfield 21, 3) := by decide +kernel
theorem dX8_row_26 : decode cX8_row 26 = .ok (.iload_n 2, 1) := by decide +kernel
theorem dX8_row_27 : decode cX8_row 27 = .ok (.iaload, 1) := by decide +kernel
theorem dX8_row_28 : decode cX8_row 28 = .ok (.iadd, 1) := by decide +kernel
theorem dX8_row_29 : decode cX8_row 29 = .ok (.istore_n 1, 1) := by decide +kernel
theorem dX8_row_30 : decode cX8_row 30 = .ok (.iinc 2 1, 3) := by decide +kernel
theorem dX8_row_33 : decode cX8_row 33 = .ok (.goto (-29), 3) := by decide +kernel
theorem dX8_row_36 : decode cX8_row 36 = .ok (.aload_n 0, 1) := by decide +kernel
theorem dX8_row_37 : decode cX8_row 37 = .ok (.getfield 30, 3) := by decide +kernel
theorem dX8_row_40 : decode cX8_row 40 = .ok (.ifCond .ne 7, 3) := by decide +kernel
theorem dX8_row_43 : decode cX8_row 43 = .ok (.iconst (-1), 1) := by decide +kernel
theorem dX8_row_44 : decode cX8_row 44 = .ok (.goto 4, 3) := by decide +kernel
theorem dX8_row_47 : decode cX8_row 47 = .ok (.iload_n 1, 1) := by decide +kernel
theorem dX8_row_48 : decode cX8_row 48 = .ok (.ireturn, 1) := by decide +kernel
theorem dX8_place_0 : decode cX8_place 0 = .ok (.iload_n 1, 1) := by decide +kernel
theorem dX8_place_1 : decode cX8_place 1 = .ok (.ifCond .lt 17, 3) := by decide +kernel
theorem dX8_place_4 : decode cX8_place 4 = .ok (.iload_n 1, 1) := by decide +kernel
theorem dX8_place_5 : decode cX8_place 5 = .ok (.aload_n 0, 1) := by decide +kernel
theorem dX8_place_6 : decode cX8_place 6 = .ok (.getfield 30, 3) := by decide +kernel
theorem dX8_place_9 : decode cX8_place 9 = .ok (.if_icmp .ge 9, 3) := by decide +kernel
theorem dX8_place_12 : decode cX8_place 12 = .ok (.iload_n 1, 1) := by decide +kernel
theorem dX8_place_13 : decode cX8_place 13 = .ok (.bipush 8, 2) := by decide +kernel
theorem dX8_place_15 : decode cX8_place 15 = .ok (.if_icmp .lt 5, 3) := by decide +kernel
theorem dX8_place_18 : decode cX8_place 18 = .ok (.iconst 1, 1) := by decide +kernel
theorem dX8_place_19 : decode cX8_place 19 = .ok (.ireturn, 1) := by decide +kernel
theorem dX8_place_20 : decode cX8_place 20 = .ok (.iconst 0, 1) := by decide +kernel
theorem dX8_place_21 : decode cX8_place 21 = .ok (.istore 4, 2) := by decide +kernel
theorem dX8_place_23 : decode cX8_place 23 = .ok (.iload 4, 2) := by decide +kernel
theorem dX8_place_25 : decode cX8_place 25 = .ok (.iload_n 2, 1) := by decide +kernel
theorem dX8_place_26 : decode cX8_place 26 = .ok (.if_icmp .gt 131, 3) := by decide +kernel
theorem dX8_place_29 : decode cX8_place 29 = .ok (.iload 4, 2) := by decide +kernel
theorem dX8_place_31 : decode cX8_place 31 = .ok (.iload_n 3, 1) := by decide +kernel
theorem dX8_place_32 : decode cX8_place 32 = .ok (.if_icmp .ge 125, 3) := by decide +kernel
theorem dX8_place_35 : decode cX8_place 35 = .ok (.iload 4, 2) := by decide +kernel
theorem dX8_place_37 : decode cX8_place 37 = .ok (.bipush 8, 2) := by decide +kernel
theorem dX8_place_39 : decode cX8_place 39 = .ok (.if_icmp .ge 118, 3) := by decide +kernel
theorem dX8_place_42 : decode cX8_place 42 = .ok (.aload_n 0, 1) := by decide +kernel
theorem dX8_place_43 : decode cX8_place 43 = .ok (.iload_n 1, 1) := by decide +kernel
theorem dX8_place_44 : decode cX8_place 44 = .ok (.iload 4, 2) := by decide +kernel
theorem dX8_place_46 : decode cX8_place 46 = .ok (.invokevirtual 68, 3) := by decide +kernel
theorem dX8_place_49 : decode cX8_place 49 = .ok (.ifCond .eq 102, 3) := by decide +kernel
theorem dX8_place_52 : decode cX8_place 52 = .ok (.aload_n 0, 1) := by decide +kernel
theorem dX8_place_53 : decode cX8_place 53 = .ok (.getfield 21, 3) := by decide +kernel
theorem dX8_place_56 : decode cX8_place 56 = .ok (.iload_n 1, 1) := by decide +kernel
theorem dX8_place_57 : decode cX8_place 57 = .ok (.iload 4, 2) := by decide +kernel
theorem dX8_place_59 : decode cX8_place 59 = .ok (.iastore, 1) := by decide +kernel
theorem dX8_place_60 : decode cX8_place 60 = .ok (.aload_n 0, 1) := by decide +kernel
theorem dX8_place_61 : decode cX8_place 61 = .ok (.getfield 24, 3) := by decide +kernel
theorem dX8_place_64 : decode cX8_place 64 = .ok (.iload 4, 2) := by decide +kernel
theorem dX8_place_66 : decode cX8_place 66 = .ok (.dup2, 1) := by decide +kernel
theorem dX8_place_67 : decode cX8_place 67 = .ok (.iaload, 1) := by decide +kernel
theorem dX8_place_68 : decode cX8_place 68 = .ok (.aload_n 0, 1) := by decide +kernel
theorem dX8_place_69 : decode cX8_place 69 = .ok (.getfield 9, 3) := by decide +kernel
theorem dX8_place_72 : decode cX8_place 72 = .ok (.iload_n 1, 1) := by decide +kernel
theorem dX8_place_73 : decode cX8_place 73 = .ok (.iaload, 1) := by decide +kernel
theorem dX8_place_74 : decode cX8_place 74 = .ok (.iadd, 1) := by decide +kernel
theorem dX8_place_75 : decode cX8_place 75 = .ok (.iastore, 1) := by decide +kernel
theorem dX8_place_76 : decode cX8_place 76 = .ok (.aload_n 0, 1) := by decide +kernel
theorem dX8_place_77 : decode cX8_place 77 = .ok (.getfield 27, 3) := by decide +kernel
theorem dX8_place_80 : decode cX8_place 80 = .ok (.iload 4, 2) := by decide +kernel
theorem dX8_place_82 : decode cX8_place 82 = .ok (.dup2, 1) := by decide +kernel
theorem dX8_place_83 : decode cX8_place 83 = .ok (.iaload, 1) := by decide +kernel
theorem dX8_place_84 : decode cX8_place 84 = .ok (.iconst 1, 1) := by decide +kernel
theorem dX8_place_85 : decode cX8_place 85 = .ok (.aload_n 0, 1) := by decide +kernel
theorem dX8_place_86 : decode cX8_place 86 = .ok (.getfield 18, 3) := by decide +kernel
theorem dX8_place_89 : decode cX8_place 89 = .ok (.iload_n 1, 1) := by decide +kernel
theorem dX8_place_90 : decode cX8_place 90 = .ok (.iaload, 1) := by decide +kernel
theorem dX8_place_91 : decode cX8_place 91 = .ok (.ishl, 1) := by decide +kernel
theorem dX8_place_92 : decode cX8_place 92 = .ok (.ior, 1) := by decide +kernel
theorem dX8_place_93 : decode cX8_place 93 = .ok (.iastore, 1) := by decide +kernel
theorem dX8_place_94 : decode cX8_place 94 = .ok (.aload_n 0, 1) := by decide +kernel
theorem dX8_place_95 : decode cX8_place 95 = .ok (.iload_n 1, 1) := by decide +kernel
theorem dX8_place_96 : decode cX8_place 96 = .ok (.iconst 1, 1) := by decide +kernel
theorem dX8_place_97 : decode cX8_place 97 = .ok (.iadd, 1) := by decide +kernel
theorem dX8_place_98 : decode cX8_place 98 = .ok (.iload_n 2, 1) := by decide +kernel
theorem dX8_place_99 : decode cX8_place 99 = .ok (.iload 4, 2) := by decide +kernel
theorem dX8_place_101 : decode cX8_place 101 = .ok (.iconst 1, 1) := by decide +kernel
theorem dX8_place_102 : decode cX8_place 102 = .ok (.iadd, 1) := by decide +kernel
theorem dX8_place_103 : decode cX8_place 103 = .ok (.invokestatic 72, 3) := by decide +kernel
theorem dX8_place_106 : decode cX8_place 106 = .ok (.iload_n 3, 1) := by decide +kernel
theorem dX8_place_107 : decode cX8_place 107 = .ok (.invokevirtual 64, 3) := by decide +kernel
theorem dX8_place_110 : decode cX8_place 110 = .ok (.ifCond .eq 5, 3) := by decide +kernel
theorem dX8_place_113 : decode cX8_place 113 = .ok (.iconst 1, 1) := by decide +kernel
theorem dX8_place_114 : decode cX8_place 114 = .ok (.ireturn, 1) := by decide +kernel
theorem dX8_place_115 : decode cX8_place 115 = .ok (.aload_n 0, 1) := by decide +kernel
theorem dX8_place_116 : decode cX8_place 116 = .ok (.getfield 24, 3) := by decide +kernel
theorem dX8_place_119 : decode cX8_place 119 = .ok (.iload 4, 2) := by decide +kernel
theorem dX8_place_121 : decode cX8_place 121 = .ok (.dup2, 1) := by decide +kernel
theorem dX8_place_122 : decode cX8_place 122 = .ok (.iaload, 1) := by decide +kernel
theorem dX8_place_123 : decode cX8_place 123 = .ok (.aload_n 0, 1) := by decide +kernel
theorem dX8_place_124 : decode cX8_place 124 = .ok (.getfield 9, 3) := by decide +kernel
theorem dX8_place_127 : decode cX8_place 127 = .ok (.iload_n 1, 1) := by decide +kernel
theorem dX8_place_128 : decode cX8_place 128 = .ok (.iaload, 1) := by decide +kernel
theorem dX8_place_129 : decode cX8_place 129 = .ok (.isub, 1) := by decide +kernel
theorem dX8_place_130 : decode cX8_place 130 = .ok (.iastore, 1) := by decide +kernel
theorem dX8_place_131 : decode cX8_place 131 = .ok (.aload_n 0, 1) := by decide +kernel
theorem dX8_place_132 : decode cX8_place 132 = .ok (.getfield 27, 3) := by decide +kernel
theorem dX8_place_135 : decode cX8_place 135 = .ok (.iload 4, 2) := by decide +kernel
theorem dX8_place_137 : decode cX8_place 137 = .ok (.dup2, 1) := by decide +kernel
theorem dX8_place_138 : decode cX8_place 138 = .ok (.iaload, 1) := by decide +kernel
theorem dX8_place_139 : decode cX8_place 139 = .ok (.iconst 1, 1) := by decide +kernel
theorem dX8_place_140 : decode cX8_place 140 = .ok (.aload_n 0, 1) := by decide +kernel
theorem dX8_place_141 : decode cX8_place 141 = .ok (.getfield 18, 3) := by decide +kernel
theorem dX8_place_144 : decode cX8_place 144 = .ok (.iload_n 1, 1) := by decide +kernel
theorem dX8_place_145 : decode cX8_place 145 = .ok (.iaload, 1) := by decide +kernel
theorem dX8_place_146 : decode cX8_place 146 = .ok (.ishl, 1) := by decide +kernel
theorem dX8_place_147 : decode cX8_place 147 = .ok (.iconst (-1), 1) := by decide +kernel
theorem dX8_place_148 : decode cX8_place 148 = .ok (.ixor, 1) := by decide +kernel
theorem dX8_place_149 : decode cX8_place 149 = .ok (.iand, 1) := by decide +kernel
theorem dX8_place_150 : decode cX8_place 150 = .ok (.iastore, 1) := by decide +kernel
theorem dX8_place_151 : decode cX8_place 151 = .ok (.iinc 4 1, 3) := by decide +kernel
theorem dX8_place_154 : decode cX8_place 154 = .ok (.goto (-131), 3) := by decide +kernel
theorem dX8_place_157 : decode cX8_place 157 = .ok (.iconst 0, 1) := by decide +kernel
theorem dX8_place_158 : decode cX8_place 158 = .ok (.ireturn, 1) := by decide +kernel
theorem dX8_standsWell_0 : decode cX8_standsWell 0 = .ok (.iload_n 1, 1) := by decide +kernel
theorem dX8_standsWell_1 : decode cX8_standsWell 1 = .ok (.ifCond .lt 19, 3) := by decide +kernel
theorem dX8_standsWell_4 : decode cX8_standsWell 4 = .ok (.iload_n 1, 1) := by decide +kernel
theorem dX8_standsWell_5 : decode cX8_standsWell 5 = .ok (.bipush 8, 2) := by decide +kernel
theorem dX8_standsWell_7 : decode cX8_standsWell 7 = .ok (.if_icmp .ge 13, 3) := by decide +kernel
theorem dX8_standsWell_10 : decode cX8_standsWell 10 = .ok (.iload_n 2, 1) := by decide +kernel
theorem dX8_standsWell_11 : decode cX8_standsWell 11 = .ok (.ifCond .lt 9, 3) := by decide +kernel
theorem dX8_standsWell_14 : decode cX8_standsWell 14 = .ok (.iload_n 2, 1) := by decide +kernel
theorem dX8_standsWell_15 : decode cX8_standsWell 15 = .ok (.bipush 8, 2) := by decide +kernel
theorem dX8_standsWell_17 : decode cX8_standsWell 17 = .ok (.if_icmp .lt 5, 3) := by decide +kernel
theorem dX8_standsWell_20 : decode cX8_standsWell 20 = .ok (.iconst 0, 1) := by decide +kernel
theorem dX8_standsWell_21 : decode cX8_standsWell 21 = .ok (.ireturn, 1) := by decide +kernel
theorem dX8_standsWell_22 : decode cX8_standsWell 22 = .ok (.aload_n 0, 1) := by decide +kernel
theorem dX8_standsWell_23 : decode cX8_standsWell 23 = .ok (.getfield 37, 3) := by decide +kernel
theorem dX8_standsWell_26 : decode cX8_standsWell 26 = .ok (.ifCond .eq 31, 3) := by decide +kernel
theorem dX8_standsWell_29 : decode cX8_standsWell 29 = .ok (.aload_n 0, 1) := by decide +kernel
theorem dX8_standsWell_30 : decode cX8_standsWell 30 = .ok (.getfield 24, 3) := by decide +kernel
theorem dX8_standsWell_33 : decode cX8_standsWell 33 = .ok (.iload_n 2, 1) := by decide +kernel
theorem dX8_standsWell_34 : decode cX8_standsWell 34 = .ok (.iaload, 1) := by decide +kernel
theorem dX8_standsWell_35 : decode cX8_standsWell 35 = .ok (.aload_n 0, 1) := by decide +kernel
theorem dX8_standsWell_36 : decode cX8_standsWell 36 = .ok (.getfield 9, 3) := by decide +kernel
theorem dX8_standsWell_39 : decode cX8_standsWell 39 = .ok (.iload_n 1, 1) := by decide +kernel
theorem dX8_standsWell_40 : decode cX8_standsWell 40 = .ok (.iaload, 1) := by decide +kernel
theorem dX8_standsWell_41 : decode cX8_standsWell 41 = .ok (.iadd, 1) := by decide +kernel
theorem dX8_standsWell_42 : decode cX8_standsWell 42 = .ok (.aload_n 0, 1) := by decide +kernel
theorem dX8_standsWell_43 : decode cX8_standsWell 43 = .ok (.getfield 34, 3) := by decide +kernel
theorem dX8_standsWell_46 : decode cX8_standsWell 46 = .ok (.if_icmp .gt 7, 3) := by decide +kernel
theorem dX8_standsWell_49 : decode cX8_standsWell 49 = .ok (.iconst 1, 1) := by decide +kernel
theorem dX8_standsWell_50 : decode cX8_standsWell 50 = .ok (.goto 28, 3) := by decide +kernel
theorem dX8_standsWell_53 : decode cX8_standsWell 53 = .ok (.iconst 0, 1) := by decide +kernel
theorem dX8_standsWell_54 : decode cX8_standsWell 54 = .ok (.goto 24, 3) := by decide +kernel
theorem dX8_standsWell_57 : decode cX8_standsWell 57 = .ok (.aload_n 0, 1) := by decide +kernel
theorem dX8_standsWell_58 : decode cX8_standsWell 58 = .ok (.getfield 27, 3) := by decide +kernel
theorem dX8_standsWell_61 : decode cX8_standsWell 61 = .ok (.iload_n 2, 1) := by decide +kernel
theorem dX8_standsWell_62 : decode cX8_standsWell 62 = .ok (.iaload, 1) := by decide +kernel
theorem dX8_standsWell_63 : decode cX8_standsWell 63 = .ok (.aload_n 0, 1) := by decide +kernel
theorem dX8_standsWell_64 : decode cX8_standsWell 64 = .ok (.getfield 15, 3) := by decide +kernel
theorem dX8_standsWell_67 : decode cX8_standsWell 67 = .ok (.iload_n 1, 1) := by decide +kernel
theorem dX8_standsWell_68 : decode cX8_standsWell 68 = .ok (.iaload, 1) := by decide +kernel
theorem dX8_standsWell_69 : decode cX8_standsWell 69 = .ok (.iand, 1) := by decide +kernel
theorem dX8_standsWell_70 : decode cX8_standsWell 70 = .ok (.ifCond .ne 7, 3) := by decide +kernel
theorem dX8_standsWell_73 : decode cX8_standsWell 73 = .ok (.iconst 1, 1) := by decide +kernel
theorem dX8_standsWell_74 : decode cX8_standsWell 74 = .ok (.goto 4, 3) := by decide +kernel
theorem dX8_standsWell_77 : decode cX8_standsWell 77 = .ok (.iconst 0, 1) := by decide +kernel
theorem dX8_standsWell_78 : decode cX8_standsWell 78 = .ok (.ireturn, 1) := by decide +kernel
theorem dX9_forget_0 : decode cX9_forget 0 = .ok (.aload_n 0, 1) := by decide +kernel
theorem dX9_forget_1 : decode cX9_forget 1 = .ok (.iconst 0, 1) := by decide +kernel
theorem dX9_forget_2 : decode cX9_forget 2 = .ok (.putfield 35, 3) := by decide +kernel
theorem dX9_forget_5 : decode cX9_forget 5 = .ok (.return_, 1) := by decide +kernel
theorem dX9_number_0 : decode cX9_number 0 = .ok (.aload_n 0, 1) := by decide +kernel
theorem dX9_number_1 : decode cX9_number 1 = .ok (.getfield 35, 3) := by decide +kernel
theorem dX9_number_4 : decode cX9_number 4 = .ok (.ireturn, 1) := by decide +kernel
theorem dX9_add_0 : decode cX9_add 0 = .ok (.aload_n 0, 1) := by decide +kernel
theorem dX9_add_1 : decode cX9_add 1 = .ok (.getfield 35, 3) := by decide +kernel
theorem dX9_add_4 : decode cX9_add 4 = .ok (.ifCond .lt 12, 3) := by decide +kernel
theorem dX9_add_7 : decode cX9_add 7 = .ok (.aload_n 0, 1) := by decide +kernel
theorem dX9_add_8 : decode cX9_add 8 = .ok (.getfield 35, 3) := by decide +kernel
theorem dX9_add_11 : decode cX9_add 11 = .ok (.bipush 10, 2) := by decide +kernel
theorem dX9_add_13 : decode cX9_add 13 = .ok (.if_icmp .lt 5, 3) := by decide +kernel
theorem dX9_add_16 : decode cX9_add 16 = .ok (.iconst (-1), 1) := by decide +kernel
theorem dX9_add_17 : decode cX9_add 17 = .ok (.ireturn, 1) := by decide +kernel
theorem dX9_add_18 : decode cX9_add 18 = .ok (.aload_n 0, 1) := by decide +kernel
theorem dX9_add_19 : decode cX9_add 19 = .ok (.getfield 18, 3) := by decide +kernel
theorem dX9_add_22 : decode cX9_add 22 = .ok (.aload_n 0, 1) := by decide +kernel
theorem dX9_add_23 : decode cX9_add 23 = .ok (.getfield 35, 3) := by decide +kernel
theorem dX9_add_26 : decode cX9_add 26 = .ok (.iload_n 1, 1) := by decide +kernel
theorem dX9_add_27 : decode cX9_add 27 = .ok (.iastore, 1) := by decide +kernel
theorem dX9_add_28 : decode cX9_add 28 = .ok (.aload_n 0, 1) := by decide +kernel
theorem dX9_add_29 : decode cX9_add 29 = .ok (.getfield 22, 3) := by decide +kernel
theorem dX9_add_32 : decode cX9_add 32 = .ok (.aload_n 0, 1) := by decide +kernel
theorem dX9_add_33 : decode cX9_add 33 = .ok (.getfield 35, 3) := by decide +kernel
theorem dX9_add_36 : decode cX9_add 36 = .ok (.iload_n 2, 1) := by decide +kernel
theorem dX9_add_37 : decode cX9_add 37 = .ok (.iastore, 1) := by decide +kernel
theorem dX9_add_38 : decode cX9_add 38 = .ok (.aload_n 0, 1) := by decide +kernel
theorem dX9_add_39 : decode cX9_add 39 = .ok (.getfield 25, 3) := by decide +kernel
theorem dX9_add_42 : decode cX9_add 42 = .ok (.aload_n 0, 1) := by decide +kernel
theorem dX9_add_43 : decode cX9_add 43 = .ok (.getfield 35, 3) := by decide +kernel
theorem dX9_add_46 : decode cX9_add 46 = .ok (.iload_n 3, 1) := by decide +kernel
theorem dX9_add_47 : decode cX9_add 47 = .ok (.iastore, 1) := by decide +kernel
theorem dX9_add_48 : decode cX9_add 48 = .ok (.aload_n 0, 1) := by decide +kernel
theorem dX9_add_49 : decode cX9_add 49 = .ok (.getfield 28, 3) := by decide +kernel
theorem dX9_add_52 : decode cX9_add 52 = .ok (.aload_n 0, 1) := by decide +kernel
theorem dX9_add_53 : decode cX9_add 53 = .ok (.getfield 35, 3) := by decide +kernel
theorem dX9_add_56 : decode cX9_add 56 = .ok (.iload 4, 2) := by decide +kernel
theorem dX9_add_58 : decode cX9_add 58 = .ok (.bastore, 1) := by decide +kernel
theorem dX9_add_59 : decode cX9_add 59 = .ok (.aload_n 0, 1) := by decide +kernel
theorem dX9_add_60 : decode cX9_add 60 = .ok (.dup, 1) := by decide +kernel
theorem dX9_add_61 : decode cX9_add 61 = .ok (.getfield 35, 3) := by decide +kernel
theorem dX9_add_64 : decode cX9_add 64 = .ok (.iconst 1, 1) := by decide +kernel
theorem dX9_add_65 : decode cX9_add 65 = .ok (.iadd, 1) := by decide +kernel
theorem dX9_add_66 : decode cX9_add 66 = .ok (.putfield 35, 3) := by decide +kernel
theorem dX9_add_69 : decode cX9_add 69 = .ok (.aload_n 0, 1) := by decide +kernel
theorem dX9_add_70 : decode cX9_add 70 = .ok (.getfield 35, 3) := by decide +kernel
theorem dX9_add_73 : decode cX9_add 73 = .ok (.ireturn, 1) := by decide +kernel
theorem dX9_possible_0 : decode cX9_possible 0 = .ok (.aload_n 0, 1) := by decide +kernel
theorem dX9_possible_1 : decode cX9_possible 1 = .ok (.iload_n 1, 1) := by decide +kernel
theorem dX9_possible_2 : decode cX9_possible 2 = .ok (.invokevirtual 47, 3) := by decide +kernel
theorem dX9_possible_5 : decode cX9_possible 5 = .ok (.istore_n 3, 1) := by decide +kernel
theorem dX9_possible_6 : decode cX9_possible 6 = .ok (.iload_n 2, 1) := by decide +kernel
theorem dX9_possible_7 : decode cX9_possible 7 = .ok (.iconst (-1), 1) := by decide +kernel
theorem dX9_possible_8 : decode cX9_possible 8 = .ok (.if_icmp .ne 5, 3) := by decide +kernel
theorem dX9_possible_11 : decode cX9_possible 11 = .ok (.iload_n 3, 1) := by decide +kernel
theorem dX9_possible_12 : decode cX9_possible 12 = .ok (.ireturn, 1) := by decide +kernel
theorem dX9_possible_13 : decode cX9_possible 13 = .ok (.iload_n 2, 1) := by decide +kernel
theorem dX9_possible_14 : decode cX9_possible 14 = .ok (.ifCond .lt 26, 3) := by decide +kernel
theorem dX9_possible_17 : decode cX9_possible 17 = .ok (.iload_n 2, 1) := by decide +kernel
theorem dX9_possible_18 : decode cX9_possible 18 = .ok (.iload_n 3, 1) := by decide +kernel
theorem dX9_possible_19 : decode cX9_possible 19 = .ok (.if_icmp .ge 21, 3) := by decide +kernel
theorem dX9_possible_22 : decode cX9_possible 22 = .ok (.iload_n 2, 1) := by decide +kernel
theorem dX9_possible_23 : decode cX9_possible 23 = .ok (.aload_n 0, 1) := by decide +kernel
theorem dX9_possible_24 : decode cX9_possible 24 = .ok (.getfield 32, 3) := by decide +kernel
theorem dX9_possible_27 : decode cX9_possible 27 = .ok (.arraylength, 1) := by decide +kernel
theorem dX9_possible_28 : decode cX9_possible 28 = .ok (.if_icmp .ge 12, 3) := by decide +kernel
theorem dX9_possible_31 : decode cX9_possible 31 = .ok (.aload_n 0, 1) := by decide +kernel
theorem dX9_possible_32 : decode cX9_possible 32 = .ok (.getfield 32, 3) := by decide +kernel
theorem dX9_possible_35 : decode cX9_possible 35 = .ok (.iload_n 2, 1) := by decide +kernel
theorem dX9_possible_36 : decode cX9_possible 36 = .ok (.iaload, 1) := by decide +kernel
theorem dX9_possible_37 : decode cX9_possible 37 = .ok (.goto 4, 3) := by decide +kernel
theorem dX9_possible_40 : decode cX9_possible 40 = .ok (.iconst (-1), 1) := by decide +kernel
theorem dX9_possible_41 : decode cX9_possible 41 = .ok (.ireturn, 1) := by decide +kernel
theorem dX9_gatherFitting_0 : decode cX9_gatherFitting 0 = .ok (.iconst 0, 1) := by decide +kernel
theorem dX9_gatherFitting_1 : decode cX9_gatherFitting 1 = .ok (.istore_n 2, 1) := by decide +kernel
theorem dX9_gatherFitting_2 : decode cX9_gatherFitting 2 = .ok (.iconst 1, 1) := by decide +kernel
theorem dX9_gatherFitting_3 : decode cX9_gatherFitting 3 = .ok (.istore_n 3, 1) := by decide +kernel
theorem dX9_gatherFitting_4 : decode cX9_gatherFitting 4 = .ok (.iload_n 3, 1) := by decide +kernel
theorem dX9_gatherFitting_5 : decode cX9_gatherFitting 5 = .ok (.bipush 30, 2) := by decide +kernel
theorem dX9_gatherFitting_7 : decode cX9_gatherFitting 7 = .ok (.if_icmp .gt 37, 3) := by decide +kernel
theorem dX9_gatherFitting_10 : decode cX9_gatherFitting 10 = .ok (.iload_n 2, 1) := by decide +kernel
theorem dX9_gatherFitting_11 : decode cX9_gatherFitting 11 = .ok (.aload_n 0, 1) := by decide +kernel
theorem dX9_gatherFitting_12 : decode cX9_gatherFitting 12 = .ok (.getfield 32, 3) := by decide +kernel
theorem dX9_gatherFitting_15 : decode cX9_gatherFitting 15 = .ok (.arraylength, 1) := by decide +kernel
theorem dX9_gatherFitting_16 : decode cX9_gatherFitting 16 = .ok (.if_icmp .ge 22, 3) := by decide +kernel
theorem dX9_gatherFitting_19 : decode cX9_gatherFitting 19 = .ok (.aload_n 0, 1) := by decide +kernel
theorem dX9_gatherFitting_20 : decode cX9_gatherFitting 20 = .ok (.iload_n 1, 1) := by decide +kernel
theorem dX9_gatherFitting_21 : decode cX9_gatherFitting 21 = .ok (.iload_n 3, 1) := by decide +kernel
theorem dX9_gatherFitting_22 : decode cX9_gatherFitting 22 = .ok (.invokevirtual 51, 3) := by decide +kernel
theorem dX9_gatherFitting_25 : decode cX9_gatherFitting 25 = .ok (.ifCond .eq 13, 3) := by decide +kernel
theorem dX9_gatherFitting_28 : decode cX9_gatherFitting 28 = .ok (.aload_n 0, 1) := by decide +kernel
theorem dX9_gatherFitting_29 : decode cX9_gatherFitting 29 = .ok (.getfield 32, 3) := by decide +kernel
theorem dX9_gatherFitting_32 : decode cX9_gatherFitting 32 = .ok (.iload_n 2, 1) := by decide +kernel
theorem dX9_gatherFitting_33 : decode cX9_gatherFitting 33 = .ok (.iload_n 3, 1) := by decide +kernel
theorem dX9_gatherFitting_34 : decode cX9_gatherFitting 34 = .ok (.iastore, 1) := by decide +kernel
theorem dX9_gatherFitting_35 : decode cX9_gatherFitting 35 = .ok (.iinc 2 1, 3) := by decide +kernel
theorem dX9_gatherFitting_38 : decode cX9_gatherFitting 38 = .ok (.iinc 3 1, 3) := by decide +kernel
theorem dX9_gatherFitting_41 : decode cX9_gatherFitting 41 = .ok (.goto (-37), 3) := by decide +kernel
theorem dX9_gatherFitting_44 : decode cX9_gatherFitting 44 = .ok (.iload_n 2, 1) := by decide +kernel
theorem dX9_gatherFitting_45 : decode cX9_gatherFitting 45 = .ok (.ireturn, 1) := by decide +kernel
theorem dX9_fits_0 : decode cX9_fits 0 = .ok (.aload_n 0, 1) := by decide +kernel
theorem dX9_fits_1 : decode cX9_fits 1 = .ok (.iload_n 1, 1) := by decide +kernel
theorem dX9_fits_2 : decode cX9_fits 2 = .ok (.invokevirtual 55, 3) := by decide +kernel
theorem dX9_fits_5 : decode cX9_fits 5 = .ok (.istore_n 3, 1) := by decide +kernel
theorem dX9_fits_6 : decode cX9_fits 6 = .ok (.aload_n 0, 1) := by decide +kernel
theorem dX9_fits_7 : decode cX9_fits 7 = .ok (.iload_n 1, 1) := by decide +kernel
theorem dX9_fits_8 : decode cX9_fits 8 = .ok (.iload_n 2, 1) := by decide +kernel
theorem dX9_fits_9 : decode cX9_fits 9 = .ok (.invokevirtual 58, 3) := by decide +kernel
theorem dX9_fits_12 : decode cX9_fits 12 = .ok (.iconst 1, 1) := by decide +kernel
theorem dX9_fits_13 : decode cX9_fits 13 = .ok (.istore 4, 2) := by decide +kernel
theorem dX9_fits_15 : decode cX9_fits 15 = .ok (.iload 4, 2) := by decide +kernel
theorem dX9_fits_17 : decode cX9_fits 17 = .ok (.iload_n 3, 1) := by decide +kernel
theorem dX9_fits_18 : decode cX9_fits 18 = .ok (.if_icmp .gt 45, 3) := by decide +kernel
theorem dX9_fits_21 : decode cX9_fits 21 = .ok (.aload_n 0, 1) := by decide +kernel
theorem dX9_fits_22 : decode cX9_fits 22 = .ok (.getfield 12, 3) := by decide +kernel
theorem dX9_fits_25 : decode cX9_fits 25 = .ok (.aload_n 0, 1) := by decide +kernel
theorem dX9_fits_26 : decode cX9_fits 26 = .ok (.getfield 39, 3) := by decide +kernel
theorem dX9_fits_29 : decode cX9_fits 29 = .ok (.aload_n 0, 1) := by decide +kernel
theorem dX9_fits_30 : decode cX9_fits 30 = .ok (.getfield 43, 3) := by decide +kernel
theorem dX9_fits_33 : decode cX9_fits 33 = .ok (.invokevirtual 62, 3) := by decide +kernel
theorem dX9_fits_36 : decode cX9_fits 36 = .ok (.aload_n 0, 1) := by decide +kernel
theorem dX9_fits_37 : decode cX9_fits 37 = .ok (.iload_n 1, 1) := by decide +kernel
theorem dX9_fits_38 : decode cX9_fits 38 = .ok (.iload 4, 2) := by decide +kernel
theorem dX9_fits_40 : decode cX9_fits 40 = .ok (.aload_n 0, 1) := by decide +kernel
theorem dX9_fits_41 : decode cX9_fits 41 = .ok (.getfield 12, 3) := by decide +kernel
theorem dX9_fits_44 : decode cX9_fits 44 = .ok (.iconst 0, 1) := by decide +kernel
theorem dX9_fits_45 : decode cX9_fits 45 = .ok (.iconst 0, 1) := by decide +kernel
theorem dX9_fits_46 : decode cX9_fits 46 = .ok (.invokevirtual 66, 3) := by decide +kernel
theorem dX9_fits_49 : decode cX9_fits 49 = .ok (.invokevirtual 70, 3) := by decide +kernel
theorem dX9_fits_52 : decode cX9_fits 52 = .ok (.ifCond .ne 5, 3) := by decide +kernel
theorem dX9_fits_55 : decode cX9_fits 55 = .ok (.iconst 0, 1) := by decide +kernel
theorem dX9_fits_56 : decode cX9_fits 56 = .ok (.ireturn, 1) := by decide +kernel
theorem dX9_fits_57 : decode cX9_fits 57 = .ok (.iinc 4 1, 3) := by decide +kernel
theorem dX9_fits_60 : decode cX9_fits 60 = .ok (.goto (-45), 3) := by decide +kernel
theorem dX9_fits_63 : decode cX9_fits 63 = .ok (.iconst 1, 1) := by decide +kernel
theorem dX9_fits_64 : decode cX9_fits 64 = .ok (.ireturn, 1) := by decide +kernel
theorem dX9_lastDaySeen_0 : decode cX9_lastDaySeen 0 = .ok (.iconst 0, 1) := by decide +kernel
theorem dX9_lastDaySeen_1 : decode cX9_lastDaySeen 1 = .ok (.istore_n 2, 1) := by decide +kernel
theorem dX9_lastDaySeen_2 : decode cX9_lastDaySeen 2 = .ok (.iconst 0, 1) := by decide +kernel
theorem dX9_lastDaySeen_3 : decode cX9_lastDaySeen 3 = .ok (.istore_n 3, 1) := by decide +kernel
theorem dX9_lastDaySeen_4 : decode cX9_lastDaySeen 4 = .ok (.iload_n 3, 1) := by decide +kernel
theorem dX9_lastDaySeen_5 : decode cX9_lastDaySeen 5 = .ok (.aload_n 0, 1) := by decide +kernel
theorem dX9_lastDaySeen_6 : decode cX9_lastDaySeen 6 = .ok (.getfield 35, 3) := by decide +kernel
theorem dX9_lastDaySeen_9 : decode cX9_lastDaySeen 9 = .ok (.if_icmp .ge 36, 3) := by decide +kernel
theorem dX9_lastDaySeen_12 : decode cX9_lastDaySeen 12 = .ok (.iload_n 3, 1) := by decide +kernel
theorem dX9_lastDaySeen_13 : decode cX9_lastDaySeen 13 = .ok (.bipush 10, 2) := by decide +kernel
theorem dX9_lastDaySeen_15 : decode cX9_lastDaySeen 15 = .ok (.if_icmp .ge 30, 3) := by decide +kernel
theorem dX9_lastDaySeen_18 : decode cX9_lastDaySeen 18 = .ok (.aload_n 0, 1) := by decide +kernel
theorem dX9_lastDaySeen_19 : decode cX9_lastDaySeen 19 = .ok (.getfield 18, 3) := by decide +kernel
theorem dX9_lastDaySeen_22 : decode cX9_lastDaySeen 22 = .ok (.iload_n 3, 1) := by decide +kernel
theorem dX9_lastDaySeen_23 : decode cX9_lastDaySeen 23 = .ok (.iaload, 1) := by decide +kernel
theorem dX9_lastDaySeen_24 : decode cX9_lastDaySeen 24 = .ok (.iload_n 1, 1) := by decide +kernel
theorem dX9_lastDaySeen_25 : decode cX9_lastDaySeen 25 = .ok (.if_icmp .ne 14, 3) := by decide +kernel
theorem dX9_lastDaySeen_28 : decode cX9_lastDaySeen 28 = .ok (.iload_n 2, 1) := by decide +kernel
theorem dX9_lastDaySeen_29 : decode cX9_lastDaySeen 29 = .ok (.aload_n 0, 1) := by decide +kernel
theorem dX9_lastDaySeen_30 : decode cX9_lastDaySeen 30 = .ok (.getfield 22, 3) := by decide +kernel
theorem dX9_lastDaySeen_33 : decode cX9_lastDaySeen 33 = .ok (.iload_n 3, 1) := by decide +kernel
theorem dX9_lastDaySeen_34 : decode cX9_lastDaySeen 34 = .ok (.iaload, 1) := by decide +kernel
theorem dX9_lastDaySeen_35 : decode cX9_lastDaySeen 35 = .ok (.invokestatic 74, 3) := by decide +kernel
theorem dX9_lastDaySeen_38 : decode cX9_lastDaySeen 38 = .ok (.istore_n 2, 1) := by decide +kernel
theorem dX9_lastDaySeen_39 : decode cX9_lastDaySeen 39 = .ok (.iinc 3 1, 3) := by decide +kernel
theorem dX9_lastDaySeen_42 : decode cX9_lastDaySeen 42 = .ok (.goto (-38), 3) := by decide +kernel
theorem dX9_lastDaySeen_45 : decode cX9_lastDaySeen 45 = .ok (.iload_n 2, 1) := by decide +kernel
theorem dX9_lastDaySeen_46 : decode cX9_lastDaySeen 46 = .ok (.ireturn, 1) := by decide +kernel
theorem dX9_agrees_0 : decode cX9_agrees 0 = .ok (.iconst 0, 1) := by decide +kernel
theorem dX9_agrees_1 : decode cX9_agrees 1 = .ok (.istore 4, 2) := by decide +kernel
theorem dX9_agrees_3 : decode cX9_agrees 3 = .ok (.iload 4, 2) := by decide +kernel
theorem dX9_agrees_5 : decode cX9_agrees 5 = .ok (.aload_n 0, 1) := by decide +kernel
theorem dX9_agrees_6 : decode cX9_agrees 6 = .ok (.getfield 35, 3) := by decide +kernel
theorem dX9_agrees_9 : decode cX9_agrees 9 = .ok (.if_icmp .ge 66, 3) := by decide +kernel
theorem dX9_agrees_12 : decode cX9_agrees 12 = .ok (.iload 4, 2) := by decide +kernel
theorem dX9_agrees_14 : decode cX9_agrees 14 = .ok (.bipush 10, 2) := by decide +kernel
theorem dX9_agrees_16 : decode cX9_agrees 16 = .ok (.if_icmp .ge 59, 3) := by decide +kernel
theorem dX9_agrees_19 : decode cX9_agrees 19 = .ok (.aload_n 0, 1) := by decide +kernel
theorem dX9_agrees_20 : decode cX9_agrees 20 = .ok (.getfield 18, 3) := by decide +kernel
theorem dX9_agrees_23 : decode cX9_agrees 23 = .ok (.iload 4, 2) := by decide +kernel
theorem dX9_agrees_25 : decode cX9_agrees 25 = .ok (.iaload, 1) := by decide +kernel
theorem dX9_agrees_26 : decode cX9_agrees 26 = .ok (.iload_n 1, 1) := by decide +kernel
theorem dX9_agrees_27 : decode cX9_agrees 27 = .ok (.if_icmp .ne 42, 3) := by decide +kernel
theorem dX9_agrees_30 : decode cX9_agrees 30 = .ok (.aload_n 0, 1) := by decide +kernel
theorem dX9_agrees_31 : decode cX9_agrees 31 = .ok (.getfield 22, 3) := by decide +kernel
theorem dX9_agrees_34 : decode cX9_agrees 34 = .ok (.iload 4, 2) := by decide +kernel
theorem dX9_agrees_36 : decode cX9_agrees 36 = .ok (.iaload, 1) := by decide +kernel
theorem dX9_agrees_37 : decode cX9_agrees 37 = .ok (.iload_n 2, 1) := by decide +kernel
theorem dX9_agrees_38 : decode cX9_agrees 38 = .ok (.if_icmp .ne 31, 3) := by decide +kernel
theorem dX9_agrees_41 : decode cX9_agrees 41 = .ok (.iload_n 3, 1) := by decide +kernel
theorem dX9_agrees_42 : decode cX9_agrees 42 = .ok (.aload_n 0, 1) := by decide +kernel
theorem dX9_agrees_43 : decode cX9_agrees 43 = .ok (.getfield 25, 3) := by decide +kernel
theorem dX9_agrees_46 : decode cX9_agrees 46 = .ok (.iload 4, 2) := by decide +kernel
theorem dX9_agrees_48 : decode cX9_agrees 48 = .ok (.iaload, 1) := by decide +kernel
theorem dX9_agrees_49 : decode cX9_agrees 49 = .ok (.if_icmp .lt 7, 3) := by decide +kernel
theorem dX9_agrees_52 : decode cX9_agrees 52 = .ok (.iconst 1, 1) := by decide +kernel
theorem dX9_agrees_53 : decode cX9_agrees 53 = .ok (.goto 4, 3) := by decide +kernel
theorem dX9_agrees_56 : decode cX9_agrees 56 = .ok (.iconst 0, 1) := by decide +kernel
theorem dX9_agrees_57 : decode cX9_agrees 57 = .ok (.aload_n 0, 1) := by decide +kernel
theorem dX9_agrees_58 : decode cX9_agrees 58 = .ok (.getfield 28, 3) := by decide +kernel
theorem dX9_agrees_61 : decode cX9_agrees 61 = .ok (.iload 4, 2) := by decide +kernel
theorem dX9_agrees_63 : decode cX9_agrees 63 = .ok (.baload, 1) := by decide +kernel
theorem dX9_agrees_64 : decode cX9_agrees 64 = .ok (.if_icmp .eq 5, 3) := by decide +kernel
theorem dX9_agrees_67 : decode cX9_agrees 67 = .ok (.iconst 0, 1) := by decide +kernel
theorem dX9_agrees_68 : decode cX9_agrees 68 = .ok (.ireturn, 1) := by decide +kernel
theorem dX9_agrees_69 : decode cX9_agrees 69 = .ok (.iinc 4 1, 3) := by decide +kernel
theorem dX9_agrees_72 : decode cX9_agrees 72 = .ok (.goto (-69), 3) := by decide +kernel
theorem dX9_agrees_75 : decode cX9_agrees 75 = .ok (.iconst 1, 1) := by decide +kernel
theorem dX9_agrees_76 : decode cX9_agrees 76 = .ok (.ireturn, 1) := by decide +kernel
theorem dX9_setScene_0 : decode cX9_setScene 0 = .ok (.aload_n 0, 1) := by decide +kernel
theorem dX9_setScene_1 : decode cX9_setScene 1 = .ok (.getfield 12, 3) := by decide +kernel
theorem dX9_setScene_4 : decode cX9_setScene 4 = .ok (.invokevirtual 79, 3) := by decide +kernel
theorem dX9_setScene_7 : decode cX9_setScene 7 = .ok (.aload_n 0, 1) := by decide +kernel
theorem dX9_setScene_8 : decode cX9_setScene 8 = .ok (.getfield 12, 3) := by decide +kernel
theorem dX9_setScene_11 : decode cX9_setScene 11 = .ok (.iconst 0, 1) := by decide +kernel
theorem dX9_setScene_12 : decode cX9_setScene 12 = .ok (.iload_n 2, 1) := by decide +kernel
theorem dX9_setScene_13 : decode cX9_setScene 13 = .ok (.aload_n 0, 1) := by decide +kernel
theorem dX9_setScene_14 : decode cX9_setScene 14 = .ok (.getfield 43, 3) := by decide +kernel
theorem dX9_setScene_17 : decode cX9_setScene 17 = .ok (.iload_n 1, 1) := by decide +kernel
theorem dX9_setScene_18 : decode cX9_setScene 18 = .ok (.iconst 1, 1) := by decide +kernel
theorem dX9_setScene_19 : decode cX9_setScene 19 = .ok (.invokevirtual 82, 3) := by decide +kernel
theorem dX9_setScene_22 : decode cX9_setScene 22 = .ok (.aload_n 0, 1) := by decide +kernel
theorem dX9_setScene_23 : decode cX9_setScene 23 = .ok (.getfield 43, 3) := by decide +kernel
theorem dX9_setScene_26 : decode cX9_setScene 26 = .ok (.iload_n 1, 1) := by decide +kernel
theorem dX9_setScene_27 : decode cX9_setScene 27 = .ok (.iconst 2, 1) := by decide +kernel
theorem dX9_setScene_28 : decode cX9_setScene 28 = .ok (.invokevirtual 82, 3) := by decide +kernel
theorem dX9_setScene_31 : decode cX9_setScene 31 = .ok (.aload_n 0, 1) := by decide +kernel
theorem dX9_setScene_32 : decode cX9_setScene 32 = .ok (.getfield 43, 3) := by decide +kernel
theorem dX9_setScene_35 : decode cX9_setScene 35 = .ok (.iload_n 1, 1) := by decide +kernel
theorem dX9_setScene_36 : decode cX9_setScene 36 = .ok (.iconst 3, 1) := by decide +kernel
theorem dX9_setScene_37 : decode cX9_setScene 37 = .ok (.invokevirtual 82, 3) := by decide +kernel
theorem dX9_setScene_40 : decode cX9_setScene 40 = .ok (.aload_n 0, 1) := by decide +kernel
theorem dX9_setScene_41 : decode cX9_setScene 41 = .ok (.getfield 43, 3) := by decide +kernel
theorem dX9_setScene_44 : decode cX9_setScene 44 = .ok (.iload_n 1, 1) := by decide +kernel
theorem dX9_setScene_45 : decode cX9_setScene 45 = .ok (.iconst 4, 1) := by decide +kernel
theorem dX9_setScene_46 : decode cX9_setScene 46 = .ok (.invokevirtual 82, 3) := by decide +kernel
theorem dX9_setScene_49 : decode cX9_setScene 49 = .ok (.invokevirtual 87, 3) := by decide +kernel
theorem dX9_setScene_52 : decode cX9_setScene 52 = .ok (.return_, 1) := by decide +kernel
theorem dX9_bestMark_0 : decode cX9_bestMark 0 = .ok (.aload_n 0, 1) := by decide +kernel
theorem dX9_bestMark_1 : decode cX9_bestMark 1 = .ok (.iload_n 1, 1) := by decide +kernel
theorem dX9_bestMark_2 : decode cX9_bestMark 2 = .ok (.invokevirtual 47, 3) := by decide +kernel
theorem dX9_bestMark_5 : decode cX9_bestMark 5 = .ok (.istore_n 3, 1) := by decide +kernel
theorem dX9_bestMark_6 : decode cX9_bestMark 6 = .ok (.iload_n 3, 1) := by decide +kernel
theorem dX9_bestMark_7 : decode cX9_bestMark 7 = .ok (.ifCond .ne 5, 3) := by decide +kernel
theorem dX9_bestMark_10 : decode cX9_bestMark 10 = .ok (.iconst (-1), 1) := by decide +kernel
theorem dX9_bestMark_11 : decode cX9_bestMark 11 = .ok (.ireturn, 1) := by decide +kernel
theorem dX9_bestMark_12 : decode cX9_bestMark 12 = .ok (.iconst 0, 1) := by decide +kernel
theorem dX9_bestMark_13 : decode cX9_bestMark 13 = .ok (.istore 4, 2) := by decide +kernel
theorem dX9_bestMark_15 : decode cX9_bestMark 15 = .ok (.iload 4, 2) := by decide +kernel
theorem dX9_bestMark_17 : decode cX9_bestMark 17 = .ok (.iload_n 3, 1) := by decide +kernel
theorem dX9_bestMark_18 : decode cX9_bestMark 18 = .ok (.if_icmp .ge 39, 3) := by decide +kernel
theorem dX9_bestMark_21 : decode cX9_bestMark 21 = .ok (.iload 4, 2) := by decide +kernel
theorem dX9_bestMark_23 : decode cX9_bestMark 23 = .ok (.aload_n 0, 1) := by decide +kernel
theorem dX9_bestMark_24 : decode cX9_bestMark 24 = .ok (.getfield 32, 3) := by decide +kernel
theorem dX9_bestMark_27 : decode cX9_bestMark 27 = .ok (.arraylength, 1) := by decide +kernel
theorem dX9_bestMark_28 : decode cX9_bestMark 28 = .ok (.if_icmp .ge 29, 3) := by decide +kernel
theorem dX9_bestMark_31 : decode cX9_bestMark 31 = .ok (.aload_n 0, 1) := by decide +kernel
theorem dX9_bestMark_32 : decode cX9_bestMark 32 = .ok (.getfield 32, 3) := by decide +kernel
theorem dX9_bestMark_35 : decode cX9_bestMark 35 = .ok (.iload 4, 2) := by decide +kernel
theorem dX9_bestMark_37 : decode cX9_bestMark 37 = .ok (.aload_n 0, 1) := by decide +kernel
theorem dX9_bestMark_38 : decode cX9_bestMark 38 = .ok (.iload_n 1, 1) := by decide +kernel
theorem dX9_bestMark_39 : decode cX9_bestMark 39 = .ok (.aload_n 0, 1) := by decide +kernel
theorem dX9_bestMark_40 : decode cX9_bestMark 40 = .ok (.getfield 32, 3) := by decide +kernel
theorem dX9_bestMark_43 : decode cX9_bestMark 43 = .ok (.iload 4, 2) := by decide +kernel
theorem dX9_bestMark_45 : decode cX9_bestMark 45 = .ok (.iaload, 1) := by decide +kernel
theorem dX9_bestMark_46 : decode cX9_bestMark 46 = .ok (.iload_n 2, 1) := by decide +kernel
theorem dX9_bestMark_47 : decode cX9_bestMark 47 = .ok (.invokevirtual 91, 3) := by decide +kernel
theorem dX9_bestMark_50 : decode cX9_bestMark 50 = .ok (.iastore, 1) := by decide +kernel
theorem dX9_bestMark_51 : decode cX9_bestMark 51 = .ok (.iinc 4 1, 3) := by decide +kernel
theorem dX9_bestMark_54 : decode cX9_bestMark 54 = .ok (.goto (-39), 3) := by decide +kernel
theorem dX9_bestMark_57 : decode cX9_bestMark 57 = .ok (.iconst (-1), 1) := by decide +kernel
theorem dX9_bestMark_58 : decode cX9_bestMark 58 = .ok (.istore 4, 2) := by decide +kernel
theorem dX9_bestMark_60 : decode cX9_bestMark 60 = .ok (.iconst 0, 1) := by decide +kernel
theorem dX9_bestMark_61 : decode cX9_bestMark 61 = .ok (.istore 5, 2) := by decide +kernel
theorem dX9_bestMark_63 : decode cX9_bestMark 63 = .ok (.iconst 0, 1) := by decide +kernel
theorem dX9_bestMark_64 : decode cX9_bestMark 64 = .ok (.istore 6, 2) := by decide +kernel
theorem dX9_bestMark_66 : decode cX9_bestMark 66 = .ok (.iload 6, 2) := by decide +kernel
theorem dX9_bestMark_68 : decode cX9_bestMark 68 = .ok (.bipush 99, 2) := by decide +kernel
theorem dX9_bestMark_70 : decode cX9_bestMark 70 = .ok (.if_icmp .gt 39, 3) := by decide +kernel
theorem dX9_bestMark_73 : decode cX9_bestMark 73 = .ok (.aload_n 0, 1) := by decide +kernel
theorem dX9_bestMark_74 : decode cX9_bestMark 74 = .ok (.iload 6, 2) := by decide +kernel
theorem dX9_bestMark_76 : decode cX9_bestMark 76 = .ok (.iload_n 3, 1) := by decide +kernel
theorem dX9_bestMark_77 : decode cX9_bestMark 77 = .ok (.invokevirtual 95, 3) := by decide +kernel
theorem dX9_bestMark_80 : decode cX9_bestMark 80 = .ok (.istore 7, 2) := by decide +kernel
theorem dX9_bestMark_82 : decode cX9_bestMark 82 = .ok (.iload 4, 2) := by decide +kernel
theorem dX9_bestMark_84 : decode cX9_bestMark 84 = .ok (.iconst (-1), 1) := by decide +kernel
theorem dX9_bestMark_85 : decode cX9_bestMark 85 = .ok (.if_icmp .eq 10, 3) := by decide +kernel
theorem dX9_bestMark_88 : decode cX9_bestMark 88 = .ok (.iload 7, 2) := by decide +kernel
theorem dX9_bestMark_90 : decode cX9_bestMark 90 = .ok (.iload 5, 2) := by decide +kernel
theorem dX9_bestMark_92 : decode cX9_bestMark 92 = .ok (.if_icmp .ge 11, 3) := by decide +kernel
theorem dX9_bestMark_95 : decode cX9_bestMark 95 = .ok (.iload 6, 2) := by decide +kernel
theorem dX9_bestMark_97 : decode cX9_bestMark 97 = .ok (.istore 4, 2) := by decide +kernel
theorem dX9_bestMark_99 : decode cX9_bestMark 99 = .ok (.iload 7, 2) := by decide +kernel
theorem dX9_bestMark_101 : decode cX9_bestMark 101 = .ok (.istore 5, 2) := by decide +kernel
theorem dX9_bestMark_103 : decode cX9_bestMark 103 = .ok (.iinc 6 1, 3) := by decide +kernel
theorem dX9_bestMark_106 : decode cX9_bestMark 106 = .ok (.goto (-40), 3) := by decide +kernel
theorem dX9_bestMark_109 : decode cX9_bestMark 109 = .ok (.iload 4, 2) := by decide +kernel
theorem dX9_bestMark_111 : decode cX9_bestMark 111 = .ok (.ireturn, 1) := by decide +kernel
theorem dX9_sizeBehind_0 : decode cX9_sizeBehind 0 = .ok (.aload_n 0, 1) := by decide +kernel
theorem dX9_sizeBehind_1 : decode cX9_sizeBehind 1 = .ok (.iload_n 1, 1) := by decide +kernel
theorem dX9_sizeBehind_2 : decode cX9_sizeBehind 2 = .ok (.iload_n 2, 1) := by decide +kernel
theorem dX9_sizeBehind_3 : decode cX9_sizeBehind 3 = .ok (.invokevirtual 58, 3) := by decide +kernel
theorem dX9_sizeBehind_6 : decode cX9_sizeBehind 6 = .ok (.iconst 0, 1) := by decide +kernel
theorem dX9_sizeBehind_7 : decode cX9_sizeBehind 7 = .ok (.istore 4, 2) := by decide +kernel
theorem dX9_sizeBehind_9 : decode cX9_sizeBehind 9 = .ok (.iload 4, 2) := by decide +kernel
theorem dX9_sizeBehind_11 : decode cX9_sizeBehind 11 = .ok (.iload_n 3, 1) := by decide +kernel
theorem dX9_sizeBehind_12 : decode cX9_sizeBehind 12 = .ok (.if_icmp .ge 35, 3) := by decide +kernel
theorem dX9_sizeBehind_15 : decode cX9_sizeBehind 15 = .ok (.aload_n 0, 1) := by decide +kernel
theorem dX9_sizeBehind_16 : decode cX9_sizeBehind 16 = .ok (.getfield 12, 3) := by decide +kernel
theorem dX9_sizeBehind_19 : decode cX9_sizeBehind 19 = .ok (.iconst 0, 1) := by decide +kernel
theorem dX9_sizeBehind_20 : decode cX9_sizeBehind 20 = .ok (.invokevirtual 98, 3) := by decide +kernel
theorem dX9_sizeBehind_23 : decode cX9_sizeBehind 23 = .ok (.ifCond .eq 24, 3) := by decide +kernel
theorem dX9_sizeBehind_26 : decode cX9_sizeBehind 26 = .ok (.aload_n 0, 1) := by decide +kernel
theorem dX9_sizeBehind_27 : decode cX9_sizeBehind 27 = .ok (.getfield 12, 3) := by decide +kernel
theorem dX9_sizeBehind_30 : decode cX9_sizeBehind 30 = .ok (.aload_n 0, 1) := by decide +kernel
theorem dX9_sizeBehind_31 : decode cX9_sizeBehind 31 = .ok (.getfield 39, 3) := by decide +kernel
theorem dX9_sizeBehind_34 : decode cX9_sizeBehind 34 = .ok (.aload_n 0, 1) := by decide +kernel
theorem dX9_sizeBehind_35 : decode cX9_sizeBehind 35 = .ok (.getfield 43, 3) := by decide +kernel
theorem dX9_sizeBehind_38 : decode cX9_sizeBehind 38 = .ok (.invokevirtual 62, 3) := by decide +kernel
theorem dX9_sizeBehind_41 : decode cX9_sizeBehind 41 = .ok (.iinc 4 1, 3) := by decide +kernel
theorem dX9_sizeBehind_44 : decode cX9_sizeBehind 44 = .ok (.goto (-35), 3) := by decide +kernel
theorem dX9_sizeBehind_47 : decode cX9_sizeBehind 47 = .ok (.aload_n 0, 1) := by decide +kernel
theorem dX9_sizeBehind_48 : decode cX9_sizeBehind 48 = .ok (.getfield 12, 3) := by decide +kernel
theorem dX9_sizeBehind_51 : decode cX9_sizeBehind 51 = .ok (.iconst 0, 1) := by decide +kernel
theorem dX9_sizeBehind_52 : decode cX9_sizeBehind 52 = .ok (.iconst 0, 1) := by decide +kernel
theorem dX9_sizeBehind_53 : decode cX9_sizeBehind 53 = .ok (.invokevirtual 66, 3) := by decide +kernel
theorem dX9_sizeBehind_56 : decode cX9_sizeBehind 56 = .ok (.ireturn, 1) := by decide +kernel
theorem dX9_gapAt_0 : decode cX9_gapAt 0 = .ok (.iconst 0, 1) := by decide +kernel
theorem dX9_gapAt_1 : decode cX9_gapAt 1 = .ok (.istore_n 3, 1) := by decide +kernel
theorem dX9_gapAt_2 : decode cX9_gapAt 2 = .ok (.iconst 0, 1) := by decide +kernel
theorem dX9_gapAt_3 : decode cX9_gapAt 3 = .ok (.istore 4, 2) := by decide +kernel
theorem dX9_gapAt_5 : decode cX9_gapAt 5 = .ok (.iload 4, 2) := by decide +kernel
theorem dX9_gapAt_7 : decode cX9_gapAt 7 = .ok (.iload_n 2, 1) := by decide +kernel
theorem dX9_gapAt_8 : decode cX9_gapAt 8 = .ok (.if_icmp .ge 38, 3) := by decide +kernel
theorem dX9_gapAt_11 : decode cX9_gapAt 11 = .ok (.iload 4, 2) := by decide +kernel
theorem dX9_gapAt_13 : decode cX9_gapAt 13 = .ok (.aload_n 0, 1) := by decide +kernel
theorem dX9_gapAt_14 : decode cX9_gapAt 14 = .ok (.getfield 32, 3) := by decide +kernel
theorem dX9_gapAt_17 : decode cX9_gapAt 17 = .ok (.arraylength, 1) := by decide +kernel
theorem dX9_gapAt_18 : decode cX9_gapAt 18 = .ok (.if_icmp .ge 28, 3) := by decide +kernel
theorem dX9_gapAt_21 : decode cX9_gapAt 21 = .ok (.iload_n 3, 1) := by decide +kernel
theorem dX9_gapAt_22 : decode cX9_gapAt 22 = .ok (.aload_n 0, 1) := by decide +kernel
theorem dX9_gapAt_23 : decode cX9_gapAt 23 = .ok (.getfield 32, 3) := by decide +kernel
theorem dX9_gapAt_26 : decode cX9_gapAt 26 = .ok (.iload 4, 2) := by decide +kernel
theorem dX9_gapAt_28 : decode cX9_gapAt 28 = .ok (.iaload, 1) := by decide +kernel
theorem dX9_gapAt_29 : decode cX9_gapAt 29 = .ok (.iload_n 1, 1) := by decide +kernel
theorem dX9_gapAt_30 : decode cX9_gapAt 30 = .ok (.if_icmp .lt 7, 3) := by decide +kernel
theorem dX9_gapAt_33 : decode cX9_gapAt 33 = .ok (.iconst 1, 1) := by decide +kernel
theorem dX9_gapAt_34 : decode cX9_gapAt 34 = .ok (.goto 4, 3) := by decide +kernel
theorem dX9_gapAt_37 : decode cX9_gapAt 37 = .ok (.iconst (-1), 1) := by decide +kernel
theorem dX9_gapAt_38 : decode cX9_gapAt 38 = .ok (.iadd, 1) := by decide +kernel
theorem dX9_gapAt_39 : decode cX9_gapAt 39 = .ok (.istore_n 3, 1) := by decide +kernel
theorem dX9_gapAt_40 : decode cX9_gapAt 40 = .ok (.iinc 4 1, 3) := by decide +kernel
theorem dX9_gapAt_43 : decode cX9_gapAt 43 = .ok (.goto (-38), 3) := by decide +kernel
theorem dX9_gapAt_46 : decode cX9_gapAt 46 = .ok (.iload_n 3, 1) := by decide +kernel
theorem dX9_gapAt_47 : decode cX9_gapAt 47 = .ok (.invokestatic 102, 3) := by decide +kernel
theorem dX9_gapAt_50 : decode cX9_gapAt 50 = .ok (.ireturn, 1) := by decide +kernel
theorem dX10_signsIn_0 : decode cX10_signsIn 0 = .ok (.iconst 0, 1) := by decide +kernel
theorem dX10_signsIn_1 : decode cX10_signsIn 1 = .ok (.istore_n 1, 1) := by decide +kernel
theorem dX10_signsIn_2 : decode cX10_signsIn 2 = .ok (.bipush 24, 2) := by decide +kernel
theorem dX10_signsIn_4 : decode cX10_signsIn 4 = .ok (.istore_n 2, 1) := by decide +kernel
theorem dX10_signsIn_5 : decode cX10_signsIn 5 = .ok (.iload_n 2, 1) := by decide +kernel
theorem dX10_signsIn_6 : decode cX10_signsIn 6 = .ok (.ifCond .lt 22, 3) := by decide +kernel
theorem dX10_signsIn_9 : decode cX10_signsIn 9 = .ok (.iload_n 0, 1) := by decide +kernel
theorem dX10_signsIn_10 : decode cX10_signsIn 10 = .ok (.iload_n 2, 1) := by decide +kernel
theorem dX10_signsIn_11 : decode cX10_signsIn 11 = .ok (.iushr, 1) := by decide +kernel
theorem dX10_signsIn_12 : decode cX10_signsIn 12 = .ok (.sipush 255, 3) := by decide +kernel
theorem dX10_signsIn_15 : decode cX10_signsIn 15 = .ok (.iand, 1) := by decide +kernel
theorem dX10_signsIn_16 : decode cX10_signsIn 16 = .ok (.ifCond .eq 6, 3) := by decide +kernel
theorem dX10_signsIn_19 : decode cX10_signsIn 19 = .ok (.iinc 1 1, 3) := by decide +kernel
theorem dX10_signsIn_22 : decode cX10_signsIn 22 = .ok (.iinc 2 (-8), 3) := by decide +kernel
theorem dX10_signsIn_25 : decode cX10_signsIn 25 = .ok (.goto (-20), 3) := by decide +kernel
theorem dX10_signsIn_28 : decode cX10_signsIn 28 = .ok (.iload_n 1, 1) := by decide +kernel
theorem dX10_signsIn_29 : decode cX10_signsIn 29 = .ok (.ireturn, 1) := by decide +kernel
theorem dX10_add_0 : decode cX10_add 0 = .ok (.bipush 24, 2) := by decide +kernel
theorem dX10_add_2 : decode cX10_add 2 = .ok (.istore_n 2, 1) := by decide +kernel
theorem dX10_add_3 : decode cX10_add 3 = .ok (.iload_n 2, 1) := by decide +kernel
theorem dX10_add_4 : decode cX10_add 4 = .ok (.ifCond .lt 51, 3) := by decide +kernel
theorem dX10_add_7 : decode cX10_add 7 = .ok (.iload_n 1, 1) := by decide +kernel
theorem dX10_add_8 : decode cX10_add 8 = .ok (.iload_n 2, 1) := by decide +kernel
theorem dX10_add_9 : decode cX10_add 9 = .ok (.iushr, 1) := by decide +kernel
theorem dX10_add_10 : decode cX10_add 10 = .ok (.sipush 255, 3) := by decide +kernel
theorem dX10_add_13 : decode cX10_add 13 = .ok (.iand, 1) := by decide +kernel
theorem dX10_add_14 : decode cX10_add 14 = .ok (.istore_n 3, 1) := by decide +kernel
theorem dX10_add_15 : decode cX10_add 15 = .ok (.iload_n 3, 1) := by decide +kernel
theorem dX10_add_16 : decode cX10_add 16 = .ok (.ifCond .eq 33, 3) := by decide +kernel
theorem dX10_add_19 : decode cX10_add 19 = .ok (.aload_n 0, 1) := by decide +kernel
theorem dX10_add_20 : decode cX10_add 20 = .ok (.getfield 15, 3) := by decide +kernel
theorem dX10_add_23 : decode cX10_add 23 = .ok (.sipush 240, 3) := by decide +kernel
theorem dX10_add_26 : decode cX10_add 26 = .ok (.if_icmp .ge 23, 3) := by decide +kernel
theorem dX10_add_29 : decode cX10_add 29 = .ok (.aload_n 0, 1) := by decide +kernel
theorem dX10_add_30 : decode cX10_add 30 = .ok (.getfield 9, 3) := by decide +kernel
theorem dX10_add_33 : decode cX10_add 33 = .ok (.aload_n 0, 1) := by decide +kernel
theorem dX10_add_34 : decode cX10_add 34 = .ok (.getfield 15, 3) := by decide +kernel
theorem dX10_add_37 : decode cX10_add 37 = .ok (.iload_n 3, 1) := by decide +kernel
theorem dX10_add_38 : decode cX10_add 38 = .ok (.iastore, 1) := by decide +kernel
theorem dX10_add_39 : decode cX10_add 39 = .ok (.aload_n 0, 1) := by decide +kernel
theorem dX10_add_40 : decode cX10_add 40 = .ok (.dup, 1) := by decide +kernel
theorem dX10_add_41 : decode cX10_add 41 = .ok (.getfield 15, 3) := by decide +kernel
theorem dX10_add_44 : decode cX10_add 44 = .ok (.iconst 1, 1) := by decide +kernel
theorem dX10_add_45 : decode cX10_add 45 = .ok (.iadd, 1) := by decide +kernel
theorem dX10_add_46 : decode cX10_add 46 = .ok (.putfield 15, 3) := by decide +kernel
theorem dX10_add_49 : decode cX10_add 49 = .ok (.iinc 2 (-8), 3) := by decide +kernel
theorem dX10_add_52 : decode cX10_add 52 = .ok (.goto (-49), 3) := by decide +kernel
theorem dX10_add_55 : decode cX10_add 55 = .ok (.return_, 1) := by decide +kernel
theorem dX10_cut_0 : decode cX10_cut 0 = .ok (.aload_n 0, 1) := by decide +kernel
theorem dX10_cut_1 : decode cX10_cut 1 = .ok (.iconst 0, 1) := by decide +kernel
theorem dX10_cut_2 : decode cX10_cut 2 = .ok (.aload_n 0, 1) := by decide +kernel
theorem dX10_cut_3 : decode cX10_cut 3 = .ok (.getfield 15, 3) := by decide +kernel
theorem dX10_cut_6 : decode cX10_cut 6 = .ok (.iload_n 1, 1) := by decide +kernel
theorem dX10_cut_7 : decode cX10_cut 7 = .ok (.invokestatic 28, 3) := by decide +kernel
theorem dX10_cut_10 : decode cX10_cut 10 = .ok (.invokestatic 34, 3) := by decide +kernel
theorem dX10_cut_13 : decode cX10_cut 13 = .ok (.putfield 15, 3) := by decide +kernel
theorem dX10_cut_16 : decode cX10_cut 16 = .ok (.return_, 1) := by decide +kernel
theorem dX10_used_0 : decode cX10_used 0 = .ok (.aload_n 0, 1) := by decide +kernel
theorem dX10_used_1 : decode cX10_used 1 = .ok (.getfield 15, 3) := by decide +kernel
theorem dX10_used_4 : decode cX10_used 4 = .ok (.ireturn, 1) := by decide +kernel
theorem dX10_rewind_0 : decode cX10_rewind 0 = .ok (.aload_n 0, 1) := by decide +kernel
theorem dX10_rewind_1 : decode cX10_rewind 1 = .ok (.iconst 0, 1) := by decide +kernel
theorem dX10_rewind_2 : decode cX10_rewind 2 = .ok (.putfield 19, 3) := by decide +kernel
theorem dX10_rewind_5 : decode cX10_rewind 5 = .ok (.aload_n 0, 1) := by decide +kernel
theorem dX10_rewind_6 : decode cX10_rewind 6 = .ok (.iconst (-1), 1) := by decide +kernel
theorem dX10_rewind_7 : decode cX10_rewind 7 = .ok (.putfield 22, 3) := by decide +kernel
theorem dX10_rewind_10 : decode cX10_rewind 10 = .ok (.return_, 1) := by decide +kernel
theorem dX10_sign_0 : decode cX10_sign 0 = .ok (.aload_n 0, 1) := by decide +kernel
theorem dX10_sign_1 : decode cX10_sign 1 = .ok (.getfield 19, 3) := by decide +kernel
theorem dX10_sign_4 : decode cX10_sign 4 = .ok (.ifCond .lt 36, 3) := by decide +kernel
theorem dX10_sign_7 : decode cX10_sign 7 = .ok (.aload_n 0, 1) := by decide +kernel
theorem dX10_sign_8 : decode cX10_sign 8 = .ok (.getfield 19, 3) := by decide +kernel
theorem dX10_sign_11 : decode cX10_sign 11 = .ok (.aload_n 0, 1) := by decide +kernel
theorem dX10_sign_12 : decode cX10_sign 12 = .ok (.getfield 15, 3) := by decide +kernel
theorem dX10_sign_15 : decode cX10_sign 15 = .ok (.if_icmp .ge 25, 3) := by decide +kernel
theorem dX10_sign_18 : decode cX10_sign 18 = .ok (.aload_n 0, 1) := by decide +kernel
theorem dX10_sign_19 : decode cX10_sign 19 = .ok (.getfield 19, 3) := by decide +kernel
theorem dX10_sign_22 : decode cX10_sign 22 = .ok (.sipush 240, 3) := by decide +kernel
theorem dX10_sign_25 : decode cX10_sign 25 = .ok (.if_icmp .ge 15, 3) := by decide +kernel
theorem dX10_sign_28 : decode cX10_sign 28 = .ok (.aload_n 0, 1) := by decide +kernel
theorem dX10_sign_29 : decode cX10_sign 29 = .ok (.getfield 9, 3) := by decide +kernel
theorem dX10_sign_32 : decode cX10_sign 32 = .ok (.aload_n 0, 1) := by decide +kernel
theorem dX10_sign_33 : decode cX10_sign 33 = .ok (.getfield 19, 3) := by decide +kernel
theorem dX10_sign_36 : decode cX10_sign 36 = .ok (.iaload, 1) := by decide +kernel
theorem dX10_sign_37 : decode cX10_sign 37 = .ok (.goto 4, 3) := by decide +kernel
theorem dX10_sign_40 : decode cX10_sign 40 = .ok (.iconst (-1), 1) := by decide +kernel
theorem dX10_sign_41 : decode cX10_sign 41 = .ok (.ireturn, 1) := by decide +kernel
theorem dX10_next_0 : decode cX10_next 0 = .ok (.aload_n 0, 1) := by decide +kernel
theorem dX10_next_1 : decode cX10_next 1 = .ok (.getfield 19, 3) := by decide +kernel
theorem dX10_next_4 : decode cX10_next 4 = .ok (.ifCond .lt 61, 3) := by decide +kernel
theorem dX10_next_7 : decode cX10_next 7 = .ok (.aload_n 0, 1) := by decide +kernel
theorem dX10_next_8 : decode cX10_next 8 = .ok (.getfield 19, 3) := by decide +kernel
theorem dX10_next_11 : decode cX10_next 11 = .ok (.aload_n 0, 1) := by decide +kernel
theorem dX10_next_12 : decode cX10_next 12 = .ok (.getfield 15, 3) := by decide +kernel
theorem dX10_next_15 : decode cX10_next 15 = .ok (.if_icmp .ge 50, 3) := by decide +kernel
theorem dX10_next_18 : decode cX10_next 18 = .ok (.aload_n 0, 1) := by decide +kernel
theorem dX10_next_19 : decode cX10_next 19 = .ok (.getfield 19, 3) := by decide +kernel
theorem dX10_next_22 : decode cX10_next 22 = .ok (.sipush 240, 3) := by decide +kernel
theorem dX10_next_25 : decode cX10_next 25 = .ok (.if_icmp .ge 40, 3) := by decide +kernel
theorem dX10_next_28 : decode cX10_next 28 = .ok (.aload_n 0, 1) := by decide +kernel
theorem dX10_next_29 : decode cX10_next 29 = .ok (.getfield 9, 3) := by decide +kernel
theorem dX10_next_32 : decode cX10_next 32 = .ok (.aload_n 0, 1) := by decide +kernel
theorem dX10_next_33 : decode cX10_next 33 = .ok (.getfield 19, 3) := by decide +kernel
theorem dX10_next_36 : decode cX10_next 36 = .ok (.iaload, 1) := by decide +kernel
theorem dX10_next_37 : decode cX10_next 37 = .ok (.bipush 32, 2) := by decide +kernel
theorem dX10_next_39 : decode cX10_next 39 = .ok (.if_icmp .eq 13, 3) := by decide +kernel
theorem dX10_next_42 : decode cX10_next 42 = .ok (.aload_n 0, 1) := by decide +kernel
theorem dX10_next_43 : decode cX10_next 43 = .ok (.getfield 9, 3) := by decide +kernel
theorem dX10_next_46 : decode cX10_next 46 = .ok (.aload_n 0, 1) := by decide +kernel
theorem dX10_next_47 : decode cX10_next 47 = .ok (.getfield 19, 3) := by decide +kernel
theorem dX10_next_50 : decode cX10_next 50 = .ok (.iaload, 1) := by decide +kernel
theorem dX10_next_51 : decode cX10_next 51 = .ok (.ireturn, 1) := by decide +kernel
theorem dX10_next_52 : decode cX10_next 52 = .ok (.aload_n 0, 1) := by decide +kernel
theorem dX10_next_53 : decode cX10_next 53 = .ok (.dup, 1) := by decide +kernel
theorem dX10_next_54 : decode cX10_next 54 = .ok (.getfield 19, 3) := by decide +kernel
theorem dX10_next_57 : decode cX10_next 57 = .ok (.iconst 1, 1) := by decide +kernel
theorem dX10_next_58 : decode cX10_next 58 = .ok (.iadd, 1) := by decide +kernel
theorem dX10_next_59 : decode cX10_next 59 = .ok (.putfield 19, 3) := by decide +kernel
theorem dX10_next_62 : decode cX10_next 62 = .ok (.goto (-62), 3) := by decide +kernel
theorem dX10_next_65 : decode cX10_next 65 = .ok (.iconst (-1), 1) := by decide +kernel
theorem dX10_next_66 : decode cX10_next 66 = .ok (.ireturn, 1) := by decide +kernel
theorem dX10_step_0 : decode cX10_step 0 = .ok (.aload_n 0, 1) := by decide +kernel
theorem dX10_step_1 : decode cX10_step 1 = .ok (.dup, 1) := by decide +kernel
theorem dX10_step_2 : decode cX10_step 2 = .ok (.getfield 19, 3) := by decide +kernel
theorem dX10_step_5 : decode cX10_step 5 = .ok (.iconst 1, 1) := by decide +kernel
theorem dX10_step_6 : decode cX10_step 6 = .ok (.iadd, 1) := by decide +kernel
theorem dX10_step_7 : decode cX10_step 7 = .ok (.putfield 19, 3) := by decide +kernel
theorem dX10_step_10 : decode cX10_step 10 = .ok (.return_, 1) := by decide +kernel
theorem dX10_wrongAt_0 : decode cX10_wrongAt 0 = .ok (.aload_n 0, 1) := by decide +kernel
theorem dX10_wrongAt_1 : decode cX10_wrongAt 1 = .ok (.getfield 22, 3) := by decide +kernel
theorem dX10_wrongAt_4 : decode cX10_wrongAt 4 = .ok (.ireturn, 1) := by decide +kernel
theorem dX10_wrong_0 : decode cX10_wrong 0 = .ok (.aload_n 0, 1) := by decide +kernel
theorem dX10_wrong_1 : decode cX10_wrong 1 = .ok (.iload_n 1, 1) := by decide +kernel
theorem dX10_wrong_2 : decode cX10_wrong 2 = .ok (.putfield 22, 3) := by decide +kernel
theorem dX10_wrong_5 : decode cX10_wrong 5 = .ok (.iconst 0, 1) := by decide +kernel
theorem dX10_wrong_6 : decode cX10_wrong 6 = .ok (.ireturn, 1) := by decide +kernel
theorem dX10_wrongHere_0 : decode cX10_wrongHere 0 = .ok (.aload_n 0, 1) := by decide +kernel
theorem dX10_wrongHere_1 : decode cX10_wrongHere 1 = .ok (.aload_n 0, 1) := by decide +kernel
theorem dX10_wrongHere_2 : decode cX10_wrongHere 2 = .ok (.getfield 19, 3) := by decide +kernel
theorem dX10_wrongHere_5 : decode cX10_wrongHere 5 = .ok (.putfield 22, 3) := by decide +kernel
theorem dX10_wrongHere_8 : decode cX10_wrongHere 8 = .ok (.iconst 0, 1) := by decide +kernel
theorem dX10_wrongHere_9 : decode cX10_wrongHere 9 = .ok (.ireturn, 1) := by decide +kernel
theorem dX10_take_0 : decode cX10_take 0 = .ok (.aload_n 0, 1) := by decide +kernel
theorem dX10_take_1 : decode cX10_take 1 = .ok (.invokevirtual 37, 3) := by decide +kernel
theorem dX10_take_4 : decode cX10_take 4 = .ok (.iload_n 1, 1) := by decide +kernel
theorem dX10_take_5 : decode cX10_take 5 = .ok (.if_icmp .eq 8, 3) := by decide +kernel
theorem dX10_take_8 : decode cX10_take 8 = .ok (.aload_n 0, 1) := by decide +kernel
theorem dX10_take_9 : decode cX10_take 9 = .ok (.invokevirtual 41, 3) := by decide +kernel
theorem dX10_take_12 : decode cX10_take 12 = .ok (.ireturn, 1) := by decide +kernel
theorem dX10_take_13 : decode cX10_take 13 = .ok (.aload_n 0, 1) := by decide +kernel
theorem dX10_take_14 : decode cX10_take 14 = .ok (.dup, 1) := by decide +kernel
theorem dX10_take_15 : decode cX10_take 15 = .ok (.getfield 19, 3) := by decide +kernel
theorem dX10_take_18 : decode cX10_take 18 = .ok (.iconst 1, 1) := by decide +kernel
theorem dX10_take_19 : decode cX10_take 19 = .ok (.iadd, 1) := by decide +kernel
theorem dX10_take_20 : decode cX10_take 20 = .ok (.putfield 19, 3) := by decide +kernel
theorem dX10_take_23 : decode cX10_take 23 = .ok (.iconst 1, 1) := by decide +kernel
theorem dX10_take_24 : decode cX10_take 24 = .ok (.ireturn, 1) := by decide +kernel
theorem dX10_takeNumber_0 : decode cX10_takeNumber 0 = .ok (.aload_n 0, 1) := by decide +kernel
theorem dX10_takeNumber_1 : decode cX10_takeNumber 1 = .ok (.invokevirtual 37, 3) := by decide +kernel
theorem dX10_takeNumber_4 : decode cX10_takeNumber 4 = .ok (.invokestatic 45, 3) := by decide +kernel
theorem dX10_takeNumber_7 : decode cX10_takeNumber 7 = .ok (.ifCond .ne 8, 3) := by decide +kernel
theorem dX10_takeNumber_10 : decode cX10_takeNumber 10 = .ok (.aload_n 0, 1) := by decide +kernel
theorem dX10_takeNumber_11 : decode cX10_takeNumber 11 = .ok (.invokevirtual 41, 3) := by decide +kernel
theorem dX10_takeNumber_14 : decode cX10_takeNumber 14 = .ok (.ireturn, 1) := by decide +kernel
theorem dX10_takeNumber_15 : decode cX10_takeNumber 15 = .ok (.aload_n 0, 1) := by decide +kernel
theorem dX10_takeNumber_16 : decode cX10_takeNumber 16 = .ok (.iconst 0, 1) := by decide +kernel
theorem dX10_takeNumber_17 : decode cX10_takeNumber 17 = .ok (.putfield 25, 3) := by decide +kernel
theorem dX10_takeNumber_20 : decode cX10_takeNumber 20 = .ok (.iconst 0, 1) := by decide +kernel
theorem dX10_takeNumber_21 : decode cX10_takeNumber 21 = .ok (.istore_n 2, 1) := by decide +kernel
theorem dX10_takeNumber_22 : decode cX10_takeNumber 22 = .ok (.iload_n 2, 1) := by decide +kernel
theorem dX10_takeNumber_23 : decode cX10_takeNumber 23 = .ok (.iload_n 1, 1) := by decide +kernel
theorem dX10_takeNumber_24 : decode cX10_takeNumber 24 = .ok (.if_icmp .ge 48, 3) := by decide +kernel
theorem dX10_takeNumber_27 : decode cX10_takeNumber 27 = .ok (.aload_n 0, 1) := by decide +kernel
theorem dX10_takeNumber_28 : decode cX10_takeNumber 28 = .ok (.invokevirtual 49, 3) := by decide +kernel
theorem dX10_takeNumber_31 : decode cX10_takeNumber 31 = .ok (.invokestatic 45, 3) := by decide +kernel
theorem dX10_takeNumber_34 : decode cX10_takeNumber 34 = .ok (.ifCond .eq 38, 3) := by decide +kernel
theorem dX10_takeNumber_37 : decode cX10_takeNumber 37 = .ok (.aload_n 0, 1) := by decide +kernel
theorem dX10_takeNumber_38 : decode cX10_takeNumber 38 = .ok (.aload_n 0, 1) := by decide +kernel
theorem dX10_takeNumber_39 : decode cX10_takeNumber 39 = .ok (.getfield 25, 3) := by decide +kernel
theorem dX10_takeNumber_42 : decode cX10_takeNumber 42 = .ok (.bipush 10, 2) := by decide +kernel
theorem dX10_takeNumber_44 : decode cX10_takeNumber 44 = .ok (.imul, 1) := by decide +kernel
theorem dX10_takeNumber_45 : decode cX10_takeNumber 45 = .ok (.aload_n 0, 1) := by decide +kernel
theorem dX10_takeNumber_46 : decode cX10_takeNumber 46 = .ok (.invokevirtual 49, 3) := by decide +kernel
theorem dX10_takeNumber_49 : decode cX10_takeNumber 49 = .ok (.iadd, 1) := by decide +kernel
theorem dX10_takeNumber_50 : decode cX10_takeNumber 50 = .ok (.bipush 48, 2) := by decide +kernel
theorem dX10_takeNumber_52 : decode cX10_takeNumber 52 = .ok (.isub, 1) := by decide +kernel
theorem dX10_takeNumber_53 : decode cX10_takeNumber 53 = .ok (.putfield 25, 3) := by decide +kernel
theorem dX10_takeNumber_56 : decode cX10_takeNumber 56 = .ok (.aload_n 0, 1) := by decide +kernel
theorem dX10_takeNumber_57 : decode cX10_takeNumber 57 = .ok (.dup, 1) := by decide +kernel
theorem dX10_takeNumber_58 : decode cX10_takeNumber 58 = .ok (.getfield 19, 3) := by decide +kernel
theorem dX10_takeNumber_61 : decode cX10_takeNumber 61 = .ok (.iconst 1, 1) := by decide +kernel
theorem dX10_takeNumber_62 : decode cX10_takeNumber 62 = .ok (.iadd, 1) := by decide +kernel
theorem dX10_takeNumber_63 : decode cX10_takeNumber 63 = .ok (.putfield 19, 3) := by decide +kernel
theorem dX10_takeNumber_66 : decode cX10_takeNumber 66 = .ok (.iinc 2 1, 3) := by decide +kernel
theorem dX10_takeNumber_69 : decode cX10_takeNumber 69 = .ok (.goto (-47), 3) := by decide +kernel
theorem dX10_takeNumber_72 : decode cX10_takeNumber 72 = .ok (.aload_n 0, 1) := by decide +kernel
theorem dX10_takeNumber_73 : decode cX10_takeNumber 73 = .ok (.invokevirtual 49, 3) := by decide +kernel
theorem dX10_takeNumber_76 : decode cX10_takeNumber 76 = .ok (.invokestatic 45, 3) := by decide +kernel
theorem dX10_takeNumber_79 : decode cX10_takeNumber 79 = .ok (.ifCond .eq 10, 3) := by decide +kernel
theorem dX10_takeNumber_82 : decode cX10_takeNumber 82 = .ok (.aload_n 0, 1) := by decide +kernel
theorem dX10_takeNumber_83 : decode cX10_takeNumber 83 = .ok (.invokevirtual 41, 3) := by decide +kernel
theorem dX10_takeNumber_86 : decode cX10_takeNumber 86 = .ok (.ifCond .eq 7, 3) := by decide +kernel
theorem dX10_takeNumber_89 : decode cX10_takeNumber 89 = .ok (.iconst 1, 1) := by decide +kernel
theorem dX10_takeNumber_90 : decode cX10_takeNumber 90 = .ok (.goto 4, 3) := by decide +kernel
theorem dX10_takeNumber_93 : decode cX10_takeNumber 93 = .ok (.iconst 0, 1) := by decide +kernel
theorem dX10_takeNumber_94 : decode cX10_takeNumber 94 = .ok (.ireturn, 1) := by decide +kernel
theorem dX10_number_0 : decode cX10_number 0 = .ok (.aload_n 0, 1) := by decide +kernel
theorem dX10_number_1 : decode cX10_number 1 = .ok (.getfield 25, 3) := by decide +kernel
theorem dX10_number_4 : decode cX10_number 4 = .ok (.ireturn, 1) := by decide +kernel
theorem dX10_numberWithin_0 : decode cX10_numberWithin 0 = .ok (.aload_n 0, 1) := by decide +kernel
theorem dX10_numberWithin_1 : decode cX10_numberWithin 1 = .ok (.getfield 25, 3) := by decide +kernel
theorem dX10_numberWithin_4 : decode cX10_numberWithin 4 = .ok (.iload_n 1, 1) := by decide +kernel
theorem dX10_numberWithin_5 : decode cX10_numberWithin 5 = .ok (.iload_n 2, 1) := by decide +kernel
theorem dX10_numberWithin_6 : decode cX10_numberWithin 6 = .ok (.invokestatic 52, 3) := by decide +kernel
theorem dX10_numberWithin_9 : decode cX10_numberWithin 9 = .ok (.ifCond .ne 16, 3) := by decide +kernel
theorem dX10_numberWithin_12 : decode cX10_numberWithin 12 = .ok (.aload_n 0, 1) := by decide +kernel
theorem dX10_numberWithin_13 : decode cX10_numberWithin 13 = .ok (.aload_n 0, 1) := by decide +kernel
theorem dX10_numberWithin_14 : decode cX10_numberWithin 14 = .ok (.getfield 19, 3) := by decide +kernel
theorem dX10_numberWithin_17 : decode cX10_numberWithin 17 = .ok (.iconst 1, 1) := by decide +kernel
theorem dX10_numberWithin_18 : decode cX10_numberWithin 18 = .ok (.isub, 1) := by decide +kernel
theorem dX10_numberWithin_19 : decode cX10_numberWithin 19 = .ok (.invokevirtual 56, 3) := by decide +kernel
theorem dX10_numberWithin_22 : decode cX10_numberWithin 22 = .ok (.ifCond .eq 7, 3) := by decide +kernel
theorem dX10_numberWithin_25 : decode cX10_numberWithin 25 = .ok (.iconst 1, 1) := by decide +kernel
theorem dX10_numberWithin_26 : decode cX10_numberWithin 26 = .ok (.goto 4, 3) := by decide +kernel
theorem dX10_numberWithin_29 : decode cX10_numberWithin 29 = .ok (.iconst 0, 1) := by decide +kernel
theorem dX10_numberWithin_30 : decode cX10_numberWithin 30 = .ok (.ireturn, 1) := by decide +kernel
theorem dX10_isDigit_0 : decode cX10_isDigit 0 = .ok (.iload_n 0, 1) := by decide +kernel
theorem dX10_isDigit_1 : decode cX10_isDigit 1 = .ok (.bipush 48, 2) := by decide +kernel
theorem dX10_isDigit_3 : decode cX10_isDigit 3 = .ok (.if_icmp .lt 13, 3) := by decide +kernel
theorem dX10_isDigit_6 : decode cX10_isDigit 6 = .ok (.iload_n 0, 1) := by decide +kernel
theorem dX10_isDigit_7 : decode cX10_isDigit 7 = .ok (.bipush 57, 2) := by decide +kernel
theorem dX10_isDigit_9 : decode cX10_isDigit 9 = .ok (.if_icmp .gt 7, 3) := by decide +kernel
theorem dX10_isDigit_12 : decode cX10_isDigit 12 = .ok (.iconst 1, 1) := by decide +kernel
theorem dX10_isDigit_13 : decode cX10_isDigit 13 = .ok (.goto 4, 3) := by decide +kernel
theorem dX10_isDigit_16 : decode cX10_isDigit 16 = .ok (.iconst 0, 1) := by decide +kernel
theorem dX10_isDigit_17 : decode cX10_isDigit 17 = .ok (.ireturn, 1) := by decide +kernel
theorem dX11_feed_0 : decode cX11_feed 0 = .ok (.iload_n 1, 1) := by decide +kernel
theorem dX11_feed_1 : decode cX11_feed 1 = .ok (.invokestatic 112, 3) := by decide +kernel
theorem dX11_feed_4 : decode cX11_feed 4 = .ok (.iload_n 2, 1) := by decide +kernel
theorem dX11_feed_5 : decode cX11_feed 5 = .ok (.invokestatic 112, 3) := by decide +kernel
theorem dX11_feed_8 : decode cX11_feed 8 = .ok (.iadd, 1) := by decide +kernel
theorem dX11_feed_9 : decode cX11_feed 9 = .ok (.iload_n 3, 1) := by decide +kernel
theorem dX11_feed_10 : decode cX11_feed 10 = .ok (.invokestatic 112, 3) := by decide +kernel
theorem dX11_feed_13 : decode cX11_feed 13 = .ok (.iadd, 1) := by decide +kernel
theorem dX11_feed_14 : decode cX11_feed 14 = .ok (.iload 4, 2) := by decide +kernel
theorem dX11_feed_16 : decode cX11_feed 16 = .ok (.invokestatic 112, 3) := by decide +kernel
theorem dX11_feed_19 : decode cX11_feed 19 = .ok (.iadd, 1) := by decide +kernel
theorem dX11_feed_20 : decode cX11_feed 20 = .ok (.iload 5, 2) := by decide +kernel
theorem dX11_feed_22 : decode cX11_feed 22 = .ok (.invokestatic 112, 3) := by decide +kernel
theorem dX11_feed_25 : decode cX11_feed 25 = .ok (.iadd, 1) := by decide +kernel
theorem dX11_feed_26 : decode cX11_feed 26 = .ok (.istore 6, 2) := by decide +kernel
theorem dX11_feed_28 : decode cX11_feed 28 = .ok (.aload_n 0, 1) := by decide +kernel
theorem dX11_feed_29 : decode cX11_feed 29 = .ok (.getfield 10, 3) := by decide +kernel
theorem dX11_feed_32 : decode cX11_feed 32 = .ok (.invokevirtual 116, 3) := by decide +kernel
theorem dX11_feed_35 : decode cX11_feed 35 = .ok (.iload 6, 2) := by decide +kernel
theorem dX11_feed_37 : decode cX11_feed 37 = .ok (.iadd, 1) := by decide +kernel
theorem dX11_feed_38 : decode cX11_feed 38 = .ok (.sipush 240, 3) := by decide +kernel
theorem dX11_feed_41 : decode cX11_feed 41 = .ok (.if_icmp .le 5, 3) := by decide +kernel
theorem dX11_feed_44 : decode cX11_feed 44 = .ok (.iconst (-1), 1) := by decide +kernel
theorem dX11_feed_45 : decode cX11_feed 45 = .ok (.ireturn, 1) := by decide +kernel
theorem dX11_feed_46 : decode cX11_feed 46 = .ok (.aload_n 0, 1) := by decide +kernel
theorem dX11_feed_47 : decode cX11_feed 47 = .ok (.getfield 10, 3) := by decide +kernel
theorem dX11_feed_50 : decode cX11_feed 50 = .ok (.iload_n 1, 1) := by decide +kernel
theorem dX11_feed_51 : decode cX11_feed 51 = .ok (.invokevirtual 120, 3) := by decide +kernel
theorem dX11_feed_54 : decode cX11_feed 54 = .ok (.aload_n 0, 1) := by decide +kernel
theorem dX11_feed_55 : decode cX11_feed 55 = .ok (.getfield 10, 3) := by decide +kernel
theorem dX11_feed_58 : decode cX11_feed 58 = .ok (.iload_n 2, 1) := by decide +kernel
theorem dX11_feed_59 : decode cX11_feed 59 = .ok (.invokevirtual 120, 3) := by decide +kernel
theorem dX11_feed_62 : decode cX11_feed 62 = .ok (.aload_n 0, 1) := by decide +kernel
theorem dX11_feed_63 : decode cX11_feed 63 = .ok (.getfield 10, 3) := by decide +kernel
theorem dX11_feed_66 : decode cX11_feed 66 = .ok (.iload_n 3, 1) := by decide +kernel
theorem dX11_feed_67 : decode cX11_feed 67 = .ok (.invokevirtual 120, 3) := by decide +kernel
theorem dX11_feed_70 : decode cX11_feed 70 = .ok (.aload_n 0, 1) := by decide +kernel
theorem dX11_feed_71 : decode cX11_feed 71 = .ok (.getfield 10, 3) := by decide +kernel
theorem dX11_feed_74 : decode cX11_feed 74 = .ok (.iload 4, 2) := by decide +kernel
theorem dX11_feed_76 : decode cX11_feed 76 = .ok (.invokevirtual 120, 3) := by decide +kernel
theorem dX11_feed_79 : decode cX11_feed 79 = .ok (.aload_n 0, 1) := by decide +kernel
theorem dX11_feed_80 : decode cX11_feed 80 = .ok (.getfield 10, 3) := by decide +kernel
theorem dX11_feed_83 : decode cX11_feed 83 = .ok (.iload 5, 2) := by decide +kernel
theorem dX11_feed_85 : decode cX11_feed 85 = .ok (.invokevirtual 120, 3) := by decide +kernel
theorem dX11_feed_88 : decode cX11_feed 88 = .ok (.aload_n 0, 1) := by decide +kernel
theorem dX11_feed_89 : decode cX11_feed 89 = .ok (.getfield 10, 3) := by decide +kernel
theorem dX11_feed_92 : decode cX11_feed 92 = .ok (.invokevirtual 116, 3) := by decide +kernel
theorem dX11_feed_95 : decode cX11_feed 95 = .ok (.ireturn, 1) := by decide +kernel
theorem dX11_end_0 : decode cX11_end 0 = .ok (.iload_n 1, 1) := by decide +kernel
theorem dX11_end_1 : decode cX11_end 1 = .ok (.ifCond .lt 14, 3) := by decide +kernel
theorem dX11_end_4 : decode cX11_end 4 = .ok (.iload_n 1, 1) := by decide +kernel
theorem dX11_end_5 : decode cX11_end 5 = .ok (.aload_n 0, 1) := by decide +kernel
theorem dX11_end_6 : decode cX11_end 6 = .ok (.getfield 10, 3) := by decide +kernel
theorem dX11_end_9 : decode cX11_end 9 = .ok (.invokevirtual 116, 3) := by decide +kernel
theorem dX11_end_12 : decode cX11_end 12 = .ok (.if_icmp .le 5, 3) := by decide +kernel
theorem dX11_end_15 : decode cX11_end 15 = .ok (.iconst 0, 1) := by decide +kernel
theorem dX11_end_16 : decode cX11_end 16 = .ok (.ireturn, 1) := by decide +kernel
theorem dX11_end_17 : decode cX11_end 17 = .ok (.aload_n 0, 1) := by decide +kernel
theorem dX11_end_18 : decode cX11_end 18 = .ok (.getfield 10, 3) := by decide +kernel
theorem dX11_end_21 : decode cX11_end 21 = .ok (.iload_n 1, 1) := by decide +kernel
theorem dX11_end_22 : decode cX11_end 22 = .ok (.invokevirtual 124, 3) := by decide +kernel
theorem dX11_end_25 : decode cX11_end 25 = .ok (.iconst 1, 1) := by decide +kernel
theorem dX11_end_26 : decode cX11_end 26 = .ok (.ireturn, 1) := by decide +kernel
theorem dX11_fault_0 : decode cX11_fault 0 = .ok (.iload_n 1, 1) := by decide +kernel
theorem dX11_fault_1 : decode cX11_fault 1 = .ok (.ifCond .ne 11, 3) := by decide +kernel
theorem dX11_fault_4 : decode cX11_fault 4 = .ok (.aload_n 0, 1) := by decide +kernel
theorem dX11_fault_5 : decode cX11_fault 5 = .ok (.getfield 21, 3) := by decide +kernel
theorem dX11_fault_8 : decode cX11_fault 8 = .ok (.invokevirtual 127, 3) := by decide +kernel
theorem dX11_fault_11 : decode cX11_fault 11 = .ok (.ireturn, 1) := by decide +kernel
theorem dX11_fault_12 : decode cX11_fault 12 = .ok (.iload_n 1, 1) := by decide +kernel
theorem dX11_fault_13 : decode cX11_fault 13 = .ok (.iconst 1, 1) := by decide +kernel
theorem dX11_fault_14 : decode cX11_fault 14 = .ok (.if_icmp .ne 13, 3) := by decide +kernel
theorem dX11_fault_17 : decode cX11_fault 17 = .ok (.aload_n 0, 1) := by decide +kernel
theorem dX11_fault_18 : decode cX11_fault 18 = .ok (.getfield 28, 3) := by decide +kernel
theorem dX11_fault_21 : decode cX11_fault 21 = .ok (.invokevirtual 130, 3) := by decide +kernel
theorem dX11_fault_24 : decode cX11_fault 24 = .ok (.goto 5, 3) := by decide +kernel
theorem dX11_fault_27 : decode cX11_fault 27 = .ok (.bipush (-2), 2) := by decide +kernel
theorem dX11_fault_29 : decode cX11_fault 29 = .ok (.ireturn, 1) := by decide +kernel
theorem dX11_text_0 : decode cX11_text 0 = .ok (.iload_n 1, 1) := by decide +kernel
theorem dX11_text_1 : decode cX11_text 1 = .ok (.ifCond .ne 19, 3) := by decide +kernel
theorem dX11_text_4 : decode cX11_text 4 = .ok (.aload_n 0, 1) := by decide +kernel
theorem dX11_text_5 : decode cX11_text 5 = .ok (.getfield 21, 3) := by decide +kernel
theorem dX11_text_8 : decode cX11_text 8 = .ok (.invokevirtual 127, 3) := by decide +kernel
theorem dX11_text_11 : decode cX11_text 11 = .ok (.iconst (-1), 1) := by decide +kernel
theorem dX11_text_12 : decode cX11_text 12 = .ok (.if_icmp .ne 8, 3) := by decide +kernel
theorem dX11_text_15 : decode cX11_text 15 = .ok (.aload_n 0, 1) := by decide +kernel
theorem dX11_text_16 : decode cX11_text 16 = .ok (.invokevirtual 131, 3) := by decide +kernel
theorem dX11_text_19 : decode cX11_text 19 = .ok (.ireturn, 1) := by decide +kernel
theorem dX11_text_20 : decode cX11_text 20 = .ok (.iload_n 1, 1) := by decide +kernel
theorem dX11_text_21 : decode cX11_text 21 = .ok (.iconst 1, 1) := by decide +kernel
theorem dX11_text_22 : decode cX11_text 22 = .ok (.if_icmp .ne 45, 3) := by decide +kernel
theorem dX11_text_25 : decode cX11_text 25 = .ok (.aload_n 0, 1) := by decide +kernel
theorem dX11_text_26 : decode cX11_text 26 = .ok (.getfield 35, 3) := by decide +kernel
theorem dX11_text_29 : decode cX11_text 29 = .ok (.invokevirtual 134, 3) := by decide +kernel
theorem dX11_text_32 : decode cX11_text 32 = .ok (.iconst 4, 1) := by decide +kernel
theorem dX11_text_33 : decode cX11_text 33 = .ok (.if_icmp .ge 34, 3) := by decide +kernel
theorem dX11_text_36 : decode cX11_text 36 = .ok (.aload_n 0, 1) := by decide +kernel
theorem dX11_text_37 : decode cX11_text 37 = .ok (.getfield 28, 3) := by decide +kernel
theorem dX11_text_40 : decode cX11_text 40 = .ok (.invokevirtual 130, 3) := by decide +kernel
theorem dX11_text_43 : decode cX11_text 43 = .ok (.iconst (-1), 1) := by decide +kernel
theorem dX11_text_44 : decode cX11_text 44 = .ok (.if_icmp .ne 23, 3) := by decide +kernel
theorem dX11_text_47 : decode cX11_text 47 = .ok (.aload_n 0, 1) := by decide +kernel
theorem dX11_text_48 : decode cX11_text 48 = .ok (.getfield 10, 3) := by decide +kernel
theorem dX11_text_51 : decode cX11_text 51 = .ok (.iconst 0, 1) := by decide +kernel
theorem dX11_text_52 : decode cX11_text 52 = .ok (.invokevirtual 124, 3) := by decide +kernel
theorem dX11_text_55 : decode cX11_text 55 = .ok (.aload_n 0, 1) := by decide +kernel
theorem dX11_text_56 : decode cX11_text 56 = .ok (.getfield 35, 3) := by decide +kernel
theorem dX11_text_59 : decode cX11_text 59 = .ok (.aload_n 0, 1) := by decide +kernel
theorem dX11_text_60 : decode cX11_text 60 = .ok (.getfield 28, 3) := by decide +kernel
theorem dX11_text_63 : decode cX11_text 63 = .ok (.invokevirtual 137, 3) := by decide +kernel
theorem dX11_text_66 : decode cX11_text 66 = .ok (.ireturn, 1) := by decide +kernel
theorem dX11_text_67 : decode cX11_text 67 = .ok (.iconst (-1), 1) := by decide +kernel
theorem dX11_text_68 : decode cX11_text 68 = .ok (.ireturn, 1) := by decide +kernel
theorem dX11_openOffice_0 : decode cX11_openOffice 0 = .ok (.aload_n 0, 1) := by decide +kernel
theorem dX11_openOffice_1 : decode cX11_openOffice 1 = .ok (.getfield 10, 3) := by decide +kernel
theorem dX11_openOffice_4 : decode cX11_openOffice 4 = .ok (.iconst 0, 1) := by decide +kernel
theorem dX11_openOffice_5 : decode cX11_openOffice 5 = .ok (.invokevirtual 124, 3) := by decide +kernel
theorem dX11_openOffice_8 : decode cX11_openOffice 8 = .ok (.aload_n 0, 1) := by decide +kernel
theorem dX11_openOffice_9 : decode cX11_openOffice 9 = .ok (.getfield 42, 3) := by decide +kernel
theorem dX11_openOffice_12 : decode cX11_openOffice 12 = .ok (.aload_n 0, 1) := by decide +kernel
theorem dX11_openOffice_13 : decode cX11_openOffice 13 = .ok (.getfield 21, 3) := by decide +kernel
theorem dX11_openOffice_16 : decode cX11_openOffice 16 = .ok (.invokevirtual 140, 3) := by decide +kernel
theorem dX11_openOffice_19 : decode cX11_openOffice 19 = .ok (.aload_n 0, 1) := by decide +kernel
theorem dX11_openOffice_20 : decode cX11_openOffice 20 = .ok (.getfield 49, 3) := by decide +kernel
theorem dX11_openOffice_23 : decode cX11_openOffice 23 = .ok (.aload_n 0, 1) := by decide +kernel
theorem dX11_openOffice_24 : decode cX11_openOffice 24 = .ok (.getfield 42, 3) := by decide +kernel
theorem dX11_openOffice_27 : decode cX11_openOffice 27 = .ok (.invokevirtual 144, 3) := by decide +kernel
theorem dX11_openOffice_30 : decode cX11_openOffice 30 = .ok (.aload_n 0, 1) := by decide +kernel
theorem dX11_openOffice_31 : decode cX11_openOffice 31 = .ok (.getfield 63, 3) := by decide +kernel
theorem dX11_openOffice_34 : decode cX11_openOffice 34 = .ok (.invokevirtual 148, 3) := by decide +kernel
theorem dX11_openOffice_37 : decode cX11_openOffice 37 = .ok (.aload_n 0, 1) := by decide +kernel
theorem dX11_openOffice_38 : decode cX11_openOffice 38 = .ok (.getfield 79, 3) := by decide +kernel
theorem dX11_openOffice_41 : decode cX11_openOffice 41 = .ok (.invokevirtual 151, 3) := by decide +kernel
theorem dX11_openOffice_44 : decode cX11_openOffice 44 = .ok (.aload_n 0, 1) := by decide +kernel
theorem dX11_openOffice_45 : decode cX11_openOffice 45 = .ok (.iconst 0, 1) := by decide +kernel
theorem dX11_openOffice_46 : decode cX11_openOffice 46 = .ok (.putfield 100, 3) := by decide +kernel
theorem dX11_openOffice_49 : decode cX11_openOffice 49 = .ok (.aload_n 0, 1) := by decide +kernel
theorem dX11_openOffice_50 : decode cX11_openOffice 50 = .ok (.getfield 42, 3) := by decide +kernel
theorem dX11_openOffice_53 : decode cX11_openOffice 53 = .ok (.invokevirtual 152, 3) := by decide +kernel
theorem dX11_openOffice_56 : decode cX11_openOffice 56 = .ok (.ireturn, 1) := by decide +kernel
theorem dX11_law_0 : decode cX11_law 0 = .ok (.aload_n 0, 1) := by decide +kernel
theorem dX11_law_1 : decode cX11_law 1 = .ok (.getfield 35, 3) := by decide +kernel
theorem dX11_law_4 : decode cX11_law 4 = .ok (.iload_n 1, 1) := by decide +kernel
theorem dX11_law_5 : decode cX11_law 5 = .ok (.invokevirtual 155, 3) := by decide +kernel
theorem dX11_law_8 : decode cX11_law 8 = .ok (.ireturn, 1) := by decide +kernel
theorem dX11_rule_0 : decode cX11_rule 0 = .ok (.aload_n 0, 1) := by decide +kernel
theorem dX11_rule_1 : decode cX11_rule 1 = .ok (.getfield 42, 3) := by decide +kernel
theorem dX11_rule_4 : decode cX11_rule 4 = .ok (.invokevirtual 159, 3) := by decide +kernel
theorem dX11_rule_7 : decode cX11_rule 7 = .ok (.ifCond .ne 5, 3) := by decide +kernel
theorem dX11_rule_10 : decode cX11_rule 10 = .ok (.iconst (-1), 1) := by decide +kernel
theorem dX11_rule_11 : decode cX11_rule 11 = .ok (.ireturn, 1) := by decide +kernel
theorem dX11_rule_12 : decode cX11_rule 12 = .ok (.iload_n 1, 1) := by decide +kernel
theorem dX11_rule_13 : decode cX11_rule 13 = .ok (.iconst 3, 1) := by decide +kernel
theorem dX11_rule_14 : decode cX11_rule 14 = .ok (.if_icmp .ne 11, 3) := by decide +kernel
theorem dX11_rule_17 : decode cX11_rule 17 = .ok (.aload_n 0, 1) := by decide +kernel
theorem dX11_rule_18 : decode cX11_rule 18 = .ok (.getfield 49, 3) := by decide +kernel
theorem dX11_rule_21 : decode cX11_rule 21 = .ok (.invokevirtual 163, 3) := by decide +kernel
theorem dX11_rule_24 : decode cX11_rule 24 = .ok (.ireturn, 1) := by decide +kernel
theorem dX11_rule_25 : decode cX11_rule 25 = .ok (.iload_n 1, 1) := by decide +kernel
theorem dX11_rule_26 : decode cX11_rule 26 = .ok (.ifCond .lt 8, 3) := by decide +kernel
theorem dX11_rule_29 : decode cX11_rule 29 = .ok (.iload_n 1, 1) := by decide +kernel
theorem dX11_rule_30 : decode cX11_rule 30 = .ok (.iconst 3, 1) := by decide +kernel
theorem dX11_rule_31 : decode cX11_rule 31 = .ok (.if_icmp .le 7, 3) := by decide +kernel
theorem dX11_rule_34 : decode cX11_rule 34 = .ok (.iconst (-1), 1) := by decide +kernel
theorem dX11_rule_35 : decode cX11_rule 35 = .ok (.goto 11, 3) := by decide +kernel
theorem dX11_rule_38 : decode cX11_rule 38 = .ok (.aload_n 0, 1) := by decide +kernel
theorem dX11_rule_39 : decode cX11_rule 39 = .ok (.getfield 42, 3) := by decide +kernel
theorem dX11_rule_42 : decode cX11_rule 42 = .ok (.iload_n 1, 1) := by decide +kernel
theorem dX11_rule_43 : decode cX11_rule 43 = .ok (.invokevirtual 166, 3) := by decide +kernel
theorem dX11_rule_46 : decode cX11_rule 46 = .ok (.ireturn, 1) := by decide +kernel
theorem dX11_bag_0 : decode cX11_bag 0 = .ok (.aload_n 0, 1) := by decide +kernel
theorem dX11_bag_1 : decode cX11_bag 1 = .ok (.getfield 49, 3) := by decide +kernel
theorem dX11_bag_4 : decode cX11_bag 4 = .ok (.iload_n 1, 1) := by decide +kernel
theorem dX11_bag_5 : decode cX11_bag 5 = .ok (.invokevirtual 169, 3) := by decide +kernel
theorem dX11_bag_8 : decode cX11_bag 8 = .ok (.ifCond .eq 13, 3) := by decide +kernel
theorem dX11_bag_11 : decode cX11_bag 11 = .ok (.iload_n 2, 1) := by decide +kernel
theorem dX11_bag_12 : decode cX11_bag 12 = .ok (.ifCond .lt 9, 3) := by decide +kernel
theorem dX11_bag_15 : decode cX11_bag 15 = .ok (.iload_n 2, 1) := by decide +kernel
theorem dX11_bag_16 : decode cX11_bag 16 = .ok (.bipush 7, 2) := by decide +kernel
theorem dX11_bag_18 : decode cX11_bag 18 = .ok (.if_icmp .le 11, 3) := by decide +kernel
theorem dX11_bag_21 : decode cX11_bag 21 = .ok (.new 172, 3) := by decide +kernel
theorem dX11_bag_24 : decode cX11_bag 24 = .ok (.dup, 1) := by decide +kernel
theorem dX11_bag_25 : decode cX11_bag 25 = .ok (.invokespecial 174, 3) := by decide +kernel
theorem dX11_bag_28 : decode cX11_bag 28 = .ok (.athrow, 1) := by decide +kernel
theorem dX11_bag_29 : decode cX11_bag 29 = .ok (.iload_n 2, 1) := by decide +kernel
theorem dX11_bag_30 : decode cX11_bag 30 = .ok (.bipush 7, 2) := by decide +kernel
theorem dX11_bag_32 : decode cX11_bag 32 = .ok (.if_icmp .ne 18, 3) := by decide +kernel
theorem dX11_bag_35 : decode cX11_bag 35 = .ok (.aload_n 0, 1) := by decide +kernel
theorem dX11_bag_36 : decode cX11_bag 36 = .ok (.getfield 35, 3) := by decide +kernel
theorem dX11_bag_39 : decode cX11_bag 39 = .ok (.aload_n 0, 1) := by decide +kernel
theorem dX11_bag_40 : decode cX11_bag 40 = .ok (.getfield 49, 3) := by decide +kernel
theorem dX11_bag_43 : decode cX11_bag 43 = .ok (.iload_n 1, 1) := by decide +kernel
theorem dX11_bag_44 : decode cX11_bag 44 = .ok (.invokevirtual 175, 3) := by decide +kernel
theorem dX11_bag_47 : decode cX11_bag 47 = .ok (.goto 12, 3) := by decide +kernel
theorem dX11_bag_50 : decode cX11_bag 50 = .ok (.aload_n 0, 1) := by decide +kernel
theorem dX11_bag_51 : decode cX11_bag 51 = .ok (.getfield 49, 3) := by decide +kernel
theorem dX11_bag_54 : decode cX11_bag 54 = .ok (.iload_n 1, 1) := by decide +kernel
theorem dX11_bag_55 : decode cX11_bag 55 = .ok (.iload_n 2, 1) := by decide +kernel
theorem dX11_bag_56 : decode cX11_bag 56 = .ok (.invokevirtual 179, 3) := by decide +kernel
theorem dX11_bag_59 : decode cX11_bag 59 = .ok (.ireturn, 1) := by decide +kernel
theorem dX11_load_0 : decode cX11_load 0 = .ok (.aload_n 0, 1) := by decide +kernel
theorem dX11_load_1 : decode cX11_load 1 = .ok (.getfield 42, 3) := by decide +kernel
theorem dX11_load_4 : decode cX11_load 4 = .ok (.invokevirtual 159, 3) := by decide +kernel
theorem dX11_load_7 : decode cX11_load 7 = .ok (.ifCond .eq 20, 3) := by decide +kernel
theorem dX11_load_10 : decode cX11_load 10 = .ok (.iload_n 1, 1) := by decide +kernel
theorem dX11_load_11 : decode cX11_load 11 = .ok (.bipush 9, 2) := by decide +kernel
theorem dX11_load_13 : decode cX11_load 13 = .ok (.if_icmp .eq 16, 3) := by decide +kernel
theorem dX11_load_16 : decode cX11_load 16 = .ok (.aload_n 0, 1) := by decide +kernel
theorem dX11_load_17 : decode cX11_load 17 = .ok (.getfield 42, 3) := by decide +kernel
theorem dX11_load_20 : decode cX11_load 20 = .ok (.iload_n 1, 1) := by decide +kernel
theorem dX11_load_21 : decode cX11_load 21 = .ok (.invokevirtual 183, 3) := by decide +kernel
theorem dX11_load_24 : decode cX11_load 24 = .ok (.ifCond .ne 5, 3) := by decide +kernel
theorem dX11_load_27 : decode cX11_load 27 = .ok (.iconst (-1), 1) := by decide +kernel
theorem dX11_load_28 : decode cX11_load 28 = .ok (.ireturn, 1) := by decide +kernel
theorem dX11_load_29 : decode cX11_load 29 = .ok (.aload_n 0, 1) := by decide +kernel
theorem dX11_load_30 : decode cX11_load 30 = .ok (.getfield 49, 3) := by decide +kernel
theorem dX11_load_33 : decode cX11_load 33 = .ok (.iload_n 1, 1) := by decide +kernel
theorem dX11_load_34 : decode cX11_load 34 = .ok (.invokevirtual 186, 3) := by decide +kernel
theorem dX11_load_37 : decode cX11_load 37 = .ok (.ireturn, 1) := by decide +kernel
theorem dX11_count_0 : decode cX11_count 0 = .ok (.iload_n 1, 1) := by decide +kernel
theorem dX11_count_1 : decode cX11_count 1 = .ok (.tableswitch 138 0 9 #[55, 63, 74, 82, 90, 98, 106, 111, 119, 130], 55) := by decide +kernel
theorem dX11_count_56 : decode cX11_count 56 = .ok (.aload_n 0, 1) := by decide +kernel
theorem dX11_count_57 : decode cX11_count 57 = .ok (.getfield 42, 3) := by decide +kernel
theorem dX11_count_60 : decode cX11_count 60 = .ok (.invokevirtual 152, 3) := by decide +kernel
theorem dX11_count_63 : decode cX11_count 63 = .ok (.ireturn, 1) := by decide +kernel
theorem dX11_count_64 : decode cX11_count 64 = .ok (.aload_n 0, 1) := by decide +kernel
theorem dX11_count_65 : decode cX11_count 65 = .ok (.getfield 49, 3) := by decide +kernel
theorem dX11_count_68 : decode cX11_count 68 = .ok (.invokevirtual 189, 3) := by decide +kernel
theorem dX11_count_71 : decode cX11_count 71 = .ok (.invokestatic 192, 3) := by decide +kernel
theorem dX11_count_74 : decode cX11_count 74 = .ok (.ireturn, 1) := by decide +kernel
theorem dX11_count_75 : decode cX11_count 75 = .ok (.aload_n 0, 1) := by decide +kernel
theorem dX11_count_76 : decode cX11_count 76 = .ok (.getfield 35, 3) := by decide +kernel
theorem dX11_count_79 : decode cX11_count 79 = .ok (.invokevirtual 134, 3) := by decide +kernel
theorem dX11_count_82 : decode cX11_count 82 = .ok (.ireturn, 1) := by decide +kernel
theorem dX11_count_83 : decode cX11_count 83 = .ok (.aload_n 0, 1) := by decide +kernel
theorem dX11_count_84 : decode cX11_count 84 = .ok (.getfield 10, 3) := by decide +kernel
theorem dX11_count_87 : decode cX11_count 87 = .ok (.invokevirtual 116, 3) := by decide +kernel
theorem dX11_count_90 : decode cX11_count 90 = .ok (.ireturn, 1) := by decide +kernel
theorem dX11_count_91 : decode cX11_count 91 = .ok (.aload_n 0, 1) := by decide +kernel
theorem dX11_count_92 : decode cX11_count 92 = .ok (.getfield 35, 3) := by decide +kernel
theorem dX11_count_95 : decode cX11_count 95 = .ok (.invokevirtual 197, 3) := by decide +kernel
theorem dX11_count_98 : decode cX11_count 98 = .ok (.ireturn, 1) := by decide +kernel
theorem dX11_count_99 : decode cX11_count 99 = .ok (.aload_n 0, 1) := by decide +kernel
theorem dX11_count_100 : decode cX11_count 100 = .ok (.getfield 49, 3) := by decide +kernel
theorem dX11_count_103 : decode cX11_count 103 = .ok (.invokevirtual 200, 3) := by decide +kernel
theorem dX11_count_106 : decode cX11_count 106 = .ok (.ireturn, 1) := by decide +kernel
theorem dX11_count_107 : decode cX11_count 107 = .ok (.aload_n 0, 1) := by decide +kernel
theorem dX11_count_108 : decode cX11_count 108 = .ok (.getfield 104, 3) := by decide +kernel
theorem dX11_count_111 : decode cX11_count 111 = .ok (.ireturn, 1) := by decide +kernel
theorem dX11_count_112 : decode cX11_count 112 = .ok (.aload_n 0, 1) := by decide +kernel
theorem dX11_count_113 : decode cX11_count 113 = .ok (.getfield 79, 3) := by decide +kernel
theorem dX11_count_116 : decode cX11_count 116 = .ok (.invokevirtual 203, 3) := by decide +kernel
theorem dX11_count_119 : decode cX11_count 119 = .ok (.ireturn, 1) := by decide +kernel
theorem dX11_count_120 : decode cX11_count 120 = .ok (.aload_n 0, 1) := by decide +kernel
theorem dX11_count_121 : decode cX11_count 121 = .ok (.getfield 49, 3) := by decide +kernel
theorem dX11_count_124 : decode cX11_count 124 = .ok (.invokevirtual 200, 3) := by decide +kernel
theorem dX11_count_127 : decode cX11_count 127 = .ok (.invokestatic 204, 3) := by decide +kernel
theorem dX11_count_130 : decode cX11_count 130 = .ok (.ireturn, 1) := by decide +kernel
theorem dX11_count_131 : decode cX11_count 131 = .ok (.aload_n 0, 1) := by decide +kernel
theorem dX11_count_132 : decode cX11_count 132 = .ok (.getfield 63, 3) := by decide +kernel
theorem dX11_count_135 : decode cX11_count 135 = .ok (.invokevirtual 207, 3) := by decide +kernel
theorem dX11_count_138 : decode cX11_count 138 = .ok (.ireturn, 1) := by decide +kernel
theorem dX11_count_139 : decode cX11_count 139 = .ok (.ldc 208, 2) := by decide +kernel
theorem dX11_count_141 : decode cX11_count 141 = .ok (.ireturn, 1) := by decide +kernel
theorem dX11_status_0 : decode cX11_status 0 = .ok (.iload_n 1, 1) := by decide +kernel
theorem dX11_status_1 : decode cX11_status 1 = .ok (.ifCond .lt 8, 3) := by decide +kernel
theorem dX11_status_4 : decode cX11_status 4 = .ok (.iload_n 1, 1) := by decide +kernel
theorem dX11_status_5 : decode cX11_status 5 = .ok (.iconst 5, 1) := by decide +kernel
theorem dX11_status_6 : decode cX11_status 6 = .ok (.if_icmp .lt 7, 3) := by decide +kernel
theorem dX11_status_9 : decode cX11_status 9 = .ok (.iconst (-1), 1) := by decide +kernel
theorem dX11_status_10 : decode cX11_status 10 = .ok (.goto 9, 3) := by decide +kernel
theorem dX11_status_13 : decode cX11_status 13 = .ok (.aload_n 0, 1) := by decide +kernel
theorem dX11_status_14 : decode cX11_status 14 = .ok (.getfield 96, 3) := by decide +kernel
theorem dX11_status_17 : decode cX11_status 17 = .ok (.iload_n 1, 1) := by decide +kernel
theorem dX11_status_18 : decode cX11_status 18 = .ok (.iaload, 1) := by decide +kernel
theorem dX11_status_19 : decode cX11_status 19 = .ok (.ireturn, 1) := by decide +kernel
theorem dX11_log_0 : decode cX11_log 0 = .ok (.aload_n 0, 1) := by decide +kernel
theorem dX11_log_1 : decode cX11_log 1 = .ok (.getfield 56, 3) := by decide +kernel
theorem dX11_log_4 : decode cX11_log 4 = .ok (.aload_n 0, 1) := by decide +kernel
theorem dX11_log_5 : decode cX11_log 5 = .ok (.getfield 49, 3) := by decide +kernel
theorem dX11_log_8 : decode cX11_log 8 = .ok (.invokevirtual 200, 3) := by decide +kernel
theorem dX11_log_11 : decode cX11_log 11 = .ok (.iload_n 1, 1) := by decide +kernel
theorem dX11_log_12 : decode cX11_log 12 = .ok (.iload_n 2, 1) := by decide +kernel
theorem dX11_log_13 : decode cX11_log 13 = .ok (.invokevirtual 209, 3) := by decide +kernel
theorem dX11_log_16 : decode cX11_log 16 = .ok (.ireturn, 1) := by decide +kernel
theorem dX11_refuse_0 : decode cX11_refuse 0 = .ok (.iload_n 1, 1) := by decide +kernel
theorem dX11_refuse_1 : decode cX11_refuse 1 = .ok (.ifCond .lt 18, 3) := by decide +kernel
theorem dX11_refuse_4 : decode cX11_refuse 4 = .ok (.iload_n 1, 1) := by decide +kernel
theorem dX11_refuse_5 : decode cX11_refuse 5 = .ok (.iconst 5, 1) := by decide +kernel
theorem dX11_refuse_6 : decode cX11_refuse 6 = .ok (.if_icmp .ge 13, 3) := by decide +kernel
theorem dX11_refuse_9 : decode cX11_refuse 9 = .ok (.aload_n 0, 1) := by decide +kernel
theorem dX11_refuse_10 : decode cX11_refuse 10 = .ok (.getfield 96, 3) := by decide +kernel
theorem dX11_refuse_13 : decode cX11_refuse 13 = .ok (.iload_n 1, 1) := by decide +kernel
theorem dX11_refuse_14 : decode cX11_refuse 14 = .ok (.dup2, 1) := by decide +kernel
theorem dX11_refuse_15 : decode cX11_refuse 15 = .ok (.iaload, 1) := by decide +kernel
theorem dX11_refuse_16 : decode cX11_refuse 16 = .ok (.iconst 1, 1) := by decide +kernel
theorem dX11_refuse_17 : decode cX11_refuse 17 = .ok (.iadd, 1) := by decide +kernel
theorem dX11_refuse_18 : decode cX11_refuse 18 = .ok (.iastore, 1) := by decide +kernel
theorem dX11_refuse_19 : decode cX11_refuse 19 = .ok (.iconst (-1), 1) := by decide +kernel
theorem dX11_refuse_20 : decode cX11_refuse 20 = .ok (.ireturn, 1) := by decide +kernel
theorem dX11_passDay_0 : decode cX11_passDay 0 = .ok (.aload_n 0, 1) := by decide +kernel
theorem dX11_passDay_1 : decode cX11_passDay 1 = .ok (.getfield 49, 3) := by decide +kernel
theorem dX11_passDay_4 : decode cX11_passDay 4 = .ok (.invokevirtual 200, 3) := by decide +kernel
theorem dX11_passDay_7 : decode cX11_passDay 7 = .ok (.istore_n 1, 1) := by decide +kernel
theorem dX11_passDay_8 : decode cX11_passDay 8 = .ok (.aload_n 0, 1) := by decide +kernel
theorem dX11_passDay_9 : decode cX11_passDay 9 = .ok (.getfield 49, 3) := by decide +kernel
theorem dX11_passDay_12 : decode cX11_passDay 12 = .ok (.aload_n 0, 1) := by decide +kernel
theorem dX11_passDay_13 : decode cX11_passDay 13 = .ok (.getfield 35, 3) := by decide +kernel
theorem dX11_passDay_16 : decode cX11_passDay 16 = .ok (.aload_n 0, 1) := by decide +kernel
theorem dX11_passDay_17 : decode cX11_passDay 17 = .ok (.getfield 42, 3) := by decide +kernel
theorem dX11_passDay_20 : decode cX11_passDay 20 = .ok (.invokevirtual 213, 3) := by decide +kernel
theorem dX11_passDay_23 : decode cX11_passDay 23 = .ok (.aload_n 0, 1) := by decide +kernel
theorem dX11_passDay_24 : decode cX11_passDay 24 = .ok (.getfield 56, 3) := by decide +kernel
theorem dX11_passDay_27 : decode cX11_passDay 27 = .ok (.iload_n 1, 1) := by decide +kernel
theorem dX11_passDay_28 : decode cX11_passDay 28 = .ok (.aload_n 0, 1) := by decide +kernel
theorem dX11_passDay_29 : decode cX11_passDay 29 = .ok (.getfield 49, 3) := by decide +kernel
theorem dX11_passDay_32 : decode cX11_passDay 32 = .ok (.invokevirtual 216, 3) := by decide +kernel
theorem dX11_passDay_35 : decode cX11_passDay 35 = .ok (.aload_n 0, 1) := by decide +kernel
theorem dX11_passDay_36 : decode cX11_passDay 36 = .ok (.getfield 49, 3) := by decide +kernel
theorem dX11_passDay_39 : decode cX11_passDay 39 = .ok (.invokevirtual 219, 3) := by decide +kernel
theorem dX11_passDay_42 : decode cX11_passDay 42 = .ok (.aload_n 0, 1) := by decide +kernel
theorem dX11_passDay_43 : decode cX11_passDay 43 = .ok (.getfield 49, 3) := by decide +kernel
theorem dX11_passDay_46 : decode cX11_passDay 46 = .ok (.invokevirtual 222, 3) := by decide +kernel
theorem dX11_passDay_49 : decode cX11_passDay 49 = .ok (.invokevirtual 225, 3) := by decide +kernel
theorem dX11_passDay_52 : decode cX11_passDay 52 = .ok (.return_, 1) := by decide +kernel
theorem dX11_days_0 : decode cX11_days 0 = .ok (.aload_n 0, 1) := by decide +kernel
theorem dX11_days_1 : decode cX11_days 1 = .ok (.getfield 42, 3) := by decide +kernel
theorem dX11_days_4 : decode cX11_days 4 = .ok (.invokevirtual 159, 3) := by decide +kernel
theorem dX11_days_7 : decode cX11_days 7 = .ok (.ifCond .ne 9, 3) := by decide +kernel
theorem dX11_days_10 : decode cX11_days 10 = .ok (.aload_n 0, 1) := by decide +kernel
theorem dX11_days_11 : decode cX11_days 11 = .ok (.iconst 0, 1) := by decide +kernel
theorem dX11_days_12 : decode cX11_days 12 = .ok (.invokevirtual 229, 3) := by decide +kernel
theorem dX11_days_15 : decode cX11_days 15 = .ok (.ireturn, 1) := by decide +kernel
theorem dX11_days_16 : decode cX11_days 16 = .ok (.iload_n 1, 1) := by decide +kernel
theorem dX11_days_17 : decode cX11_days 17 = .ok (.iconst 1, 1) := by decide +kernel
theorem dX11_days_18 : decode cX11_days 18 = .ok (.if_icmp .lt 9, 3) := by decide +kernel
theorem dX11_days_21 : decode cX11_days 21 = .ok (.iload_n 1, 1) := by decide +kernel
theorem dX11_days_22 : decode cX11_days 22 = .ok (.bipush 60, 2) := by decide +kernel
theorem dX11_days_24 : decode cX11_days 24 = .ok (.if_icmp .le 9, 3) := by decide +kernel
theorem dX11_days_27 : decode cX11_days 27 = .ok (.aload_n 0, 1) := by decide +kernel
theorem dX11_days_28 : decode cX11_days 28 = .ok (.iconst 1, 1) := by decide +kernel
theorem dX11_days_29 : decode cX11_days 29 = .ok (.invokevirtual 229, 3) := by decide +kernel
theorem dX11_days_32 : decode cX11_days 32 = .ok (.ireturn, 1) := by decide +kernel
theorem dX11_days_33 : decode cX11_days 33 = .ok (.aload_n 0, 1) := by decide +kernel
theorem dX11_days_34 : decode cX11_days 34 = .ok (.getfield 49, 3) := by decide +kernel
theorem dX11_days_37 : decode cX11_days 37 = .ok (.invokevirtual 200, 3) := by decide +kernel
theorem dX11_days_40 : decode cX11_days 40 = .ok (.iload_n 1, 1) := by decide +kernel
theorem dX11_days_41 : decode cX11_days 41 = .ok (.iadd, 1) := by decide +kernel
theorem dX11_days_42 : decode cX11_days 42 = .ok (.sipush 999, 3) := by decide +kernel
theorem dX11_days_45 : decode cX11_days 45 = .ok (.if_icmp .le 9, 3) := by decide +kernel
theorem dX11_days_48 : decode cX11_days 48 = .ok (.aload_n 0, 1) := by decide +kernel
theorem dX11_days_49 : decode cX11_days 49 = .ok (.iconst 4, 1) := by decide +kernel
theorem dX11_days_50 : decode cX11_days 50 = .ok (.invokevirtual 229, 3) := by decide +kernel
theorem dX11_days_53 : decode cX11_days 53 = .ok (.ireturn, 1) := by decide +kernel
theorem dX11_days_54 : decode cX11_days 54 = .ok (.iconst 0, 1) := by decide +kernel
theorem dX11_days_55 : decode cX11_days 55 = .ok (.istore_n 2, 1) := by decide +kernel
theorem dX11_days_56 : decode cX11_days 56 = .ok (.iload_n 2, 1) := by decide +kernel
theorem dX11_days_57 : decode cX11_days 57 = .ok (.iload_n 1, 1) := by decide +kernel
theorem dX11_days_58 : decode cX11_days 58 = .ok (.if_icmp .ge 24, 3) := by decide +kernel
theorem dX11_days_61 : decode cX11_days 61 = .ok (.aload_n 0, 1) := by decide +kernel
theorem dX11_days_62 : decode cX11_days 62 = .ok (.getfield 63, 3) := by decide +kernel
theorem dX11_days_65 : decode cX11_days 65 = .ok (.aload_n 0, 1) := by decide +kernel
theorem dX11_days_66 : decode cX11_days 66 = .ok (.getfield 49, 3) := by decide +kernel
theorem dX11_days_69 : decode cX11_days 69 = .ok (.invokevirtual 232, 3) := by decide +kernel
theorem dX11_days_72 : decode cX11_days 72 = .ok (.aload_n 0, 1) := by decide +kernel
theorem dX11_days_73 : decode cX11_days 73 = .ok (.invokevirtual 236, 3) := by decide +kernel
theorem dX11_days_76 : decode cX11_days 76 = .ok (.iinc 2 1, 3) := by decide +kernel
theorem dX11_days_79 : decode cX11_days 79 = .ok (.goto (-23), 3) := by decide +kernel
theorem dX11_days_82 : decode cX11_days 82 = .ok (.aload_n 0, 1) := by decide +kernel
theorem dX11_days_83 : decode cX11_days 83 = .ok (.getfield 49, 3) := by decide +kernel
theorem dX11_days_86 : decode cX11_days 86 = .ok (.invokevirtual 200, 3) := by decide +kernel
theorem dX11_days_89 : decode cX11_days 89 = .ok (.ireturn, 1) := by decide +kernel
theorem dX11_leave_0 : decode cX11_leave 0 = .ok (.aload_n 0, 1) := by decide +kernel
theorem dX11_leave_1 : decode cX11_leave 1 = .ok (.getfield 42, 3) := by decide +kernel
theorem dX11_leave_4 : decode cX11_leave 4 = .ok (.invokevirtual 159, 3) := by decide +kernel
theorem dX11_leave_7 : decode cX11_leave 7 = .ok (.ifCond .ne 9, 3) := by decide +kernel
theorem dX11_leave_10 : decode cX11_leave 10 = .ok (.aload_n 0, 1) := by decide +kernel
theorem dX11_leave_11 : decode cX11_leave 11 = .ok (.iconst 0, 1) := by decide +kernel
theorem dX11_leave_12 : decode cX11_leave 12 = .ok (.invokevirtual 229, 3) := by decide +kernel
theorem dX11_leave_15 : decode cX11_leave 15 = .ok (.ireturn, 1) := by decide +kernel
theorem dX11_leave_16 : decode cX11_leave 16 = .ok (.iload_n 1, 1) := by decide +kernel
theorem dX11_leave_17 : decode cX11_leave 17 = .ok (.iconst 1, 1) := by decide +kernel
theorem dX11_leave_18 : decode cX11_leave 18 = .ok (.bipush 30, 2) := by decide +kernel
theorem dX11_leave_20 : decode cX11_leave 20 = .ok (.invokestatic 239, 3) := by decide +kernel
theorem dX11_leave_23 : decode cX11_leave 23 = .ok (.ifCond .eq 35, 3) := by decide +kernel
theorem dX11_leave_26 : decode cX11_leave 26 = .ok (.iload_n 2, 1) := by decide +kernel
theorem dX11_leave_27 : decode cX11_leave 27 = .ok (.iconst 0, 1) := by decide +kernel
theorem dX11_leave_28 : decode cX11_leave 28 = .ok (.bipush 9, 2) := by decide +kernel
theorem dX11_leave_30 : decode cX11_leave 30 = .ok (.invokestatic 239, 3) := by decide +kernel
theorem dX11_leave_33 : decode cX11_leave 33 = .ok (.ifCond .eq 25, 3) := by decide +kernel
theorem dX11_leave_36 : decode cX11_leave 36 = .ok (.iload_n 3, 1) := by decide +kernel
theorem dX11_leave_37 : decode cX11_leave 37 = .ok (.iconst 0, 1) := by decide +kernel
theorem dX11_leave_38 : decode cX11_leave 38 = .ok (.bipush 9, 2) := by decide +kernel
theorem dX11_leave_40 : decode cX11_leave 40 = .ok (.invokestatic 239, 3) := by decide +kernel
theorem dX11_leave_43 : decode cX11_leave 43 = .ok (.ifCond .eq 15, 3) := by decide +kernel
theorem dX11_leave_46 : decode cX11_leave 46 = .ok (.aload_n 0, 1) := by decide +kernel
theorem dX11_leave_47 : decode cX11_leave 47 = .ok (.getfield 42, 3) := by decide +kernel
theorem dX11_leave_50 : decode cX11_leave 50 = .ok (.iload 4, 2) := by decide +kernel
theorem dX11_leave_52 : decode cX11_leave 52 = .ok (.invokevirtual 183, 3) := by decide +kernel
theorem dX11_leave_55 : decode cX11_leave 55 = .ok (.ifCond .ne 9, 3) := by decide +kernel
theorem dX11_leave_58 : decode cX11_leave 58 = .ok (.aload_n 0, 1) := by decide +kernel
theorem dX11_leave_59 : decode cX11_leave 59 = .ok (.iconst 1, 1) := by decide +kernel
theorem dX11_leave_60 : decode cX11_leave 60 = .ok (.invokevirtual 229, 3) := by decide +kernel
theorem dX11_leave_63 : decode cX11_leave 63 = .ok (.ireturn, 1) := by decide +kernel
theorem dX11_leave_64 : decode cX11_leave 64 = .ok (.aload_n 0, 1) := by decide +kernel
theorem dX11_leave_65 : decode cX11_leave 65 = .ok (.getfield 49, 3) := by decide +kernel
theorem dX11_leave_68 : decode cX11_leave 68 = .ok (.invokevirtual 243, 3) := by decide +kernel
theorem dX11_leave_71 : decode cX11_leave 71 = .ok (.istore 5, 2) := by decide +kernel
theorem dX11_leave_73 : decode cX11_leave 73 = .ok (.iload 5, 2) := by decide +kernel
theorem dX11_leave_75 : decode cX11_leave 75 = .ok (.iconst (-1), 1) := by decide +kernel
theorem dX11_leave_76 : decode cX11_leave 76 = .ok (.if_icmp .eq 20, 3) := by decide +kernel
theorem dX11_leave_79 : decode cX11_leave 79 = .ok (.aload_n 0, 1) := by decide +kernel
theorem dX11_leave_80 : decode cX11_leave 80 = .ok (.getfield 49, 3) := by decide +kernel
theorem dX11_leave_83 : decode cX11_leave 83 = .ok (.aload_n 0, 1) := by decide +kernel
theorem dX11_leave_84 : decode cX11_leave 84 = .ok (.getfield 42, 3) := by decide +kernel
theorem dX11_leave_87 : decode cX11_leave 87 = .ok (.iload 4, 2) := by decide +kernel
theorem dX11_leave_89 : decode cX11_leave 89 = .ok (.iload_n 1, 1) := by decide +kernel
theorem dX11_leave_90 : decode cX11_leave 90 = .ok (.invokevirtual 246, 3) := by decide +kernel
theorem dX11_leave_93 : decode cX11_leave 93 = .ok (.ifCond .ne 9, 3) := by decide +kernel
theorem dX11_leave_96 : decode cX11_leave 96 = .ok (.aload_n 0, 1) := by decide +kernel
theorem dX11_leave_97 : decode cX11_leave 97 = .ok (.iconst 3, 1) := by decide +kernel
theorem dX11_leave_98 : decode cX11_leave 98 = .ok (.invokevirtual 229, 3) := by decide +kernel
theorem dX11_leave_101 : decode cX11_leave 101 = .ok (.ireturn, 1) := by decide +kernel
theorem dX11_leave_102 : decode cX11_leave 102 = .ok (.aload_n 0, 1) := by decide +kernel
theorem dX11_leave_103 : decode cX11_leave 103 = .ok (.getfield 63, 3) := by decide +kernel
theorem dX11_leave_106 : decode cX11_leave 106 = .ok (.aload_n 0, 1) := by decide +kernel
theorem dX11_leave_107 : decode cX11_leave 107 = .ok (.getfield 49, 3) := by decide +kernel
theorem dX11_leave_110 : decode cX11_leave 110 = .ok (.invokevirtual 232, 3) := by decide +kernel
theorem dX11_leave_113 : decode cX11_leave 113 = .ok (.aload_n 0, 1) := by decide +kernel
theorem dX11_leave_114 : decode cX11_leave 114 = .ok (.getfield 49, 3) := by decide +kernel
theorem dX11_leave_117 : decode cX11_leave 117 = .ok (.iload 5, 2) := by decide +kernel
theorem dX11_leave_119 : decode cX11_leave 119 = .ok (.iload_n 1, 1) := by decide +kernel
theorem dX11_leave_120 : decode cX11_leave 120 = .ok (.iload_n 2, 1) := by decide +kernel
theorem dX11_leave_121 : decode cX11_leave 121 = .ok (.iload_n 3, 1) := by decide +kernel
theorem dX11_leave_122 : decode cX11_leave 122 = .ok (.iload 4, 2) := by decide +kernel
theorem dX11_leave_124 : decode cX11_leave 124 = .ok (.iconst 0, 1) := by decide +kernel
theorem dX11_leave_125 : decode cX11_leave 125 = .ok (.invokevirtual 250, 3) := by decide +kernel
theorem dX11_leave_128 : decode cX11_leave 128 = .ok (.iload 5, 2) := by decide +kernel
theorem dX11_leave_130 : decode cX11_leave 130 = .ok (.ireturn, 1) := by decide +kernel
theorem dX11_call_0 : decode cX11_call 0 = .ok (.aload_n 0, 1) := by decide +kernel
theorem dX11_call_1 : decode cX11_call 1 = .ok (.getfield 49, 3) := by decide +kernel
theorem dX11_call_4 : decode cX11_call 4 = .ok (.iload_n 1, 1) := by decide +kernel
theorem dX11_call_5 : decode cX11_call 5 = .ok (.invokevirtual 169, 3) := by decide +kernel
theorem dX11_call_8 : decode cX11_call 8 = .ok (.ifCond .ne 9, 3) := by decide +kernel
theorem dX11_call_11 : decode cX11_call 11 = .ok (.aload_n 0, 1) := by decide +kernel
theorem dX11_call_12 : decode cX11_call 12 = .ok (.iconst 0, 1) := by decide +kernel
theorem dX11_call_13 : decode cX11_call 13 = .ok (.invokevirtual 229, 3) := by decide +kernel
theorem dX11_call_16 : decode cX11_call 16 = .ok (.ireturn, 1) := by decide +kernel
theorem dX11_call_17 : decode cX11_call 17 = .ok (.aload_n 0, 1) := by decide +kernel
theorem dX11_call_18 : decode cX11_call 18 = .ok (.getfield 63, 3) := by decide +kernel
theorem dX11_call_21 : decode cX11_call 21 = .ok (.aload_n 0, 1) := by decide +kernel
theorem dX11_call_22 : decode cX11_call 22 = .ok (.getfield 49, 3) := by decide +kernel
theorem dX11_call_25 : decode cX11_call 25 = .ok (.invokevirtual 232, 3) := by decide +kernel
theorem dX11_call_28 : decode cX11_call 28 = .ok (.aload_n 0, 1) := by decide +kernel
theorem dX11_call_29 : decode cX11_call 29 = .ok (.getfield 49, 3) := by decide +kernel
theorem dX11_call_32 : decode cX11_call 32 = .ok (.iload_n 1, 1) := by decide +kernel
theorem dX11_call_33 : decode cX11_call 33 = .ok (.aload_n 0, 1) := by decide +kernel
theorem dX11_call_34 : decode cX11_call 34 = .ok (.getfield 42, 3) := by decide +kernel
theorem dX11_call_37 : decode cX11_call 37 = .ok (.invokevirtual 253, 3) := by decide +kernel
theorem dX11_call_40 : decode cX11_call 40 = .ok (.ireturn, 1) := by decide +kernel
theorem dX11_move_0 : decode cX11_move 0 = .ok (.aload_n 0, 1) := by decide +kernel
theorem dX11_move_1 : decode cX11_move 1 = .ok (.getfield 49, 3) := by decide +kernel
theorem dX11_move_4 : decode cX11_move 4 = .ok (.iload_n 1, 1) := by decide +kernel
theorem dX11_move_5 : decode cX11_move 5 = .ok (.invokevirtual 169, 3) := by decide +kernel
theorem dX11_move_8 : decode cX11_move 8 = .ok (.ifCond .ne 9, 3) := by decide +kernel
theorem dX11_move_11 : decode cX11_move 11 = .ok (.aload_n 0, 1) := by decide +kernel
theorem dX11_move_12 : decode cX11_move 12 = .ok (.iconst 0, 1) := by decide +kernel
theorem dX11_move_13 : decode cX11_move 13 = .ok (.invokevirtual 229, 3) := by decide +kernel
theorem dX11_move_16 : decode cX11_move 16 = .ok (.ireturn, 1) := by decide +kernel
theorem dX11_move_17 : decode cX11_move 17 = .ok (.iload_n 2, 1) := by decide +kernel
theorem dX11_move_18 : decode cX11_move 18 = .ok (.bipush 9, 2) := by decide +kernel
theorem dX11_move_20 : decode cX11_move 20 = .ok (.if_icmp .eq 20, 3) := by decide +kernel
theorem dX11_move_23 : decode cX11_move 23 = .ok (.aload_n 0, 1) := by decide +kernel
theorem dX11_move_24 : decode cX11_move 24 = .ok (.getfield 42, 3) := by decide +kernel
theorem dX11_move_27 : decode cX11_move 27 = .ok (.iload_n 2, 1) := by decide +kernel
theorem dX11_move_28 : decode cX11_move 28 = .ok (.invokevirtual 183, 3) := by decide +kernel
theorem dX11_move_31 : decode cX11_move 31 = .ok (.ifCond .ne 9, 3) := by decide +kernel
theorem dX11_move_34 : decode cX11_move 34 = .ok (.aload_n 0, 1) := by decide +kernel
theorem dX11_move_35 : decode cX11_move 35 = .ok (.iconst 1, 1) := by decide +kernel
theorem dX11_move_36 : decode cX11_move 36 = .ok (.invokevirtual 229, 3) := by decide +kernel
theorem dX11_move_39 : decode cX11_move 39 = .ok (.ireturn, 1) := by decide +kernel
theorem dX11_move_40 : decode cX11_move 40 = .ok (.aload_n 0, 1) := by decide +kernel
theorem dX11_move_41 : decode cX11_move 41 = .ok (.getfield 49, 3) := by decide +kernel
theorem dX11_move_44 : decode cX11_move 44 = .ok (.iload_n 1, 1) := by decide +kernel
theorem dX11_move_45 : decode cX11_move 45 = .ok (.iconst 3, 1) := by decide +kernel
theorem dX11_move_46 : decode cX11_move 46 = .ok (.invokevirtual 179, 3) := by decide +kernel
theorem dX11_move_49 : decode cX11_move 49 = .ok (.istore_n 3, 1) := by decide +kernel
theorem dX11_move_50 : decode cX11_move 50 = .ok (.iload_n 3, 1) := by decide +kernel
theorem dX11_move_51 : decode cX11_move 51 = .ok (.iload_n 2, 1) := by decide +kernel
theorem dX11_move_52 : decode cX11_move 52 = .ok (.if_icmp .ne 9, 3) := by decide +kernel
theorem dX11_move_55 : decode cX11_move 55 = .ok (.aload_n 0, 1) := by decide +kernel
theorem dX11_move_56 : decode cX11_move 56 = .ok (.iconst 2, 1) := by decide +kernel
theorem dX11_move_57 : decode cX11_move 57 = .ok (.invokevirtual 229, 3) := by decide +kernel
theorem dX11_move_60 : decode cX11_move 60 = .ok (.ireturn, 1) := by decide +kernel
theorem dX11_move_61 : decode cX11_move 61 = .ok (.iload_n 2, 1) := by decide +kernel
theorem dX11_move_62 : decode cX11_move 62 = .ok (.bipush 9, 2) := by decide +kernel
theorem dX11_move_64 : decode cX11_move 64 = .ok (.if_icmp .ne 7, 3) := by decide +kernel
theorem dX11_move_67 : decode cX11_move 67 = .ok (.iconst 1, 1) := by decide +kernel
theorem dX11_move_68 : decode cX11_move 68 = .ok (.goto 4, 3) := by decide +kernel
theorem dX11_move_71 : decode cX11_move 71 = .ok (.iconst 0, 1) := by decide +kernel
theorem dX11_move_72 : decode cX11_move 72 = .ok (.istore 4, 2) := by decide +kernel
theorem dX11_move_74 : decode cX11_move 74 = .ok (.iload 4, 2) := by decide +kernel
theorem dX11_move_76 : decode cX11_move 76 = .ok (.ifCond .ne 44, 3) := by decide +kernel
theorem dX11_move_79 : decode cX11_move 79 = .ok (.aload_n 0, 1) := by decide +kernel
theorem dX11_move_80 : decode cX11_move 80 = .ok (.getfield 49, 3) := by decide +kernel
theorem dX11_move_83 : decode cX11_move 83 = .ok (.invokevirtual 163, 3) := by decide +kernel
theorem dX11_move_86 : decode cX11_move 86 = .ok (.iconst 1, 1) := by decide +kernel
theorem dX11_move_87 : decode cX11_move 87 = .ok (.if_icmp .lt 27, 3) := by decide +kernel
theorem dX11_move_90 : decode cX11_move 90 = .ok (.aload_n 0, 1) := by decide +kernel
theorem dX11_move_91 : decode cX11_move 91 = .ok (.getfield 49, 3) := by decide +kernel
theorem dX11_move_94 : decode cX11_move 94 = .ok (.aload_n 0, 1) := by decide +kernel
theorem dX11_move_95 : decode cX11_move 95 = .ok (.getfield 42, 3) := by decide +kernel
theorem dX11_move_98 : decode cX11_move 98 = .ok (.iload_n 2, 1) := by decide +kernel
theorem dX11_move_99 : decode cX11_move 99 = .ok (.aload_n 0, 1) := by decide +kernel
theorem dX11_move_100 : decode cX11_move 100 = .ok (.getfield 49, 3) := by decide +kernel
theorem dX11_move_103 : decode cX11_move 103 = .ok (.iload_n 1, 1) := by decide +kernel
theorem dX11_move_104 : decode cX11_move 104 = .ok (.iconst 0, 1) := by decide +kernel
theorem dX11_move_105 : decode cX11_move 105 = .ok (.invokevirtual 179, 3) := by decide +kernel
theorem dX11_move_108 : decode cX11_move 108 = .ok (.invokevirtual 246, 3) := by decide +kernel
theorem dX11_move_111 : decode cX11_move 111 = .ok (.ifCond .ne 9, 3) := by decide +kernel
theorem dX11_move_114 : decode cX11_move 114 = .ok (.aload_n 0, 1) := by decide +kernel
theorem dX11_move_115 : decode cX11_move 115 = .ok (.iconst 3, 1) := by decide +kernel
theorem dX11_move_116 : decode cX11_move 116 = .ok (.invokevirtual 229, 3) := by decide +kernel
theorem dX11_move_119 : decode cX11_move 119 = .ok (.ireturn, 1) := by decide +kernel
theorem dX11_move_120 : decode cX11_move 120 = .ok (.aload_n 0, 1) := by decide +kernel
theorem dX11_move_121 : decode cX11_move 121 = .ok (.getfield 63, 3) := by decide +kernel
theorem dX11_move_124 : decode cX11_move 124 = .ok (.aload_n 0, 1) := by decide +kernel
theorem dX11_move_125 : decode cX11_move 125 = .ok (.getfield 49, 3) := by decide +kernel
theorem dX11_move_128 : decode cX11_move 128 = .ok (.invokevirtual 232, 3) := by decide +kernel
theorem dX11_move_131 : decode cX11_move 131 = .ok (.aload_n 0, 1) := by decide +kernel
theorem dX11_move_132 : decode cX11_move 132 = .ok (.getfield 49, 3) := by decide +kernel
theorem dX11_move_135 : decode cX11_move 135 = .ok (.iload_n 1, 1) := by decide +kernel
theorem dX11_move_136 : decode cX11_move 136 = .ok (.iconst 3, 1) := by decide +kernel
theorem dX11_move_137 : decode cX11_move 137 = .ok (.iload_n 2, 1) := by decide +kernel
theorem dX11_move_138 : decode cX11_move 138 = .ok (.invokevirtual 257, 3) := by decide +kernel
theorem dX11_move_141 : decode cX11_move 141 = .ok (.iload 4, 2) := by decide +kernel
theorem dX11_move_143 : decode cX11_move 143 = .ok (.ifCond .ne 11, 3) := by decide +kernel
theorem dX11_move_146 : decode cX11_move 146 = .ok (.aload_n 0, 1) := by decide +kernel
theorem dX11_move_147 : decode cX11_move 147 = .ok (.getfield 49, 3) := by decide +kernel
theorem dX11_move_150 : decode cX11_move 150 = .ok (.iconst (-1), 1) := by decide +kernel
theorem dX11_move_151 : decode cX11_move 151 = .ok (.invokevirtual 261, 3) := by decide +kernel
theorem dX11_move_154 : decode cX11_move 154 = .ok (.iload_n 3, 1) := by decide +kernel
theorem dX11_move_155 : decode cX11_move 155 = .ok (.ireturn, 1) := by decide +kernel
theorem dX11_hush_0 : decode cX11_hush 0 = .ok (.aload_n 0, 1) := by decide +kernel
theorem dX11_hush_1 : decode cX11_hush 1 = .ok (.getfield 49, 3) := by decide +kernel
theorem dX11_hush_4 : decode cX11_hush 4 = .ok (.iload_n 1, 1) := by decide +kernel
theorem dX11_hush_5 : decode cX11_hush 5 = .ok (.invokevirtual 169, 3) := by decide +kernel
theorem dX11_hush_8 : decode cX11_hush 8 = .ok (.ifCond .ne 9, 3) := by decide +kernel
theorem dX11_hush_11 : decode cX11_hush 11 = .ok (.aload_n 0, 1) := by decide +kernel
theorem dX11_hush_12 : decode cX11_hush 12 = .ok (.iconst 0, 1) := by decide +kernel
theorem dX11_hush_13 : decode cX11_hush 13 = .ok (.invokevirtual 229, 3) := by decide +kernel
theorem dX11_hush_16 : decode cX11_hush 16 = .ok (.ireturn, 1) := by decide +kernel
theorem dX11_hush_17 : decode cX11_hush 17 = .ok (.aload_n 0, 1) := by decide +kernel
theorem dX11_hush_18 : decode cX11_hush 18 = .ok (.getfield 49, 3) := by decide +kernel
theorem dX11_hush_21 : decode cX11_hush 21 = .ok (.iload_n 1, 1) := by decide +kernel
theorem dX11_hush_22 : decode cX11_hush 22 = .ok (.bipush 6, 2) := by decide +kernel
theorem dX11_hush_24 : decode cX11_hush 24 = .ok (.invokevirtual 179, 3) := by decide +kernel
theorem dX11_hush_27 : decode cX11_hush 27 = .ok (.iconst 1, 1) := by decide +kernel
theorem dX11_hush_28 : decode cX11_hush 28 = .ok (.if_icmp .ne 9, 3) := by decide +kernel
theorem dX11_hush_31 : decode cX11_hush 31 = .ok (.aload_n 0, 1) := by decide +kernel
theorem dX11_hush_32 : decode cX11_hush 32 = .ok (.iconst 2, 1) := by decide +kernel
theorem dX11_hush_33 : decode cX11_hush 33 = .ok (.invokevirtual 229, 3) := by decide +kernel
theorem dX11_hush_36 : decode cX11_hush 36 = .ok (.ireturn, 1) := by decide +kernel
theorem dX11_hush_37 : decode cX11_hush 37 = .ok (.aload_n 0, 1) := by decide +kernel
theorem dX11_hush_38 : decode cX11_hush 38 = .ok (.getfield 49, 3) := by decide +kernel
theorem dX11_hush_41 : decode cX11_hush 41 = .ok (.invokevirtual 163, 3) := by decide +kernel
theorem dX11_hush_44 : decode cX11_hush 44 = .ok (.iconst 1, 1) := by decide +kernel
theorem dX11_hush_45 : decode cX11_hush 45 = .ok (.if_icmp .ge 9, 3) := by decide +kernel
theorem dX11_hush_48 : decode cX11_hush 48 = .ok (.aload_n 0, 1) := by decide +kernel
theorem dX11_hush_49 : decode cX11_hush 49 = .ok (.iconst 3, 1) := by decide +kernel
theorem dX11_hush_50 : decode cX11_hush 50 = .ok (.invokevirtual 229, 3) := by decide +kernel
theorem dX11_hush_53 : decode cX11_hush 53 = .ok (.ireturn, 1) := by decide +kernel
theorem dX11_hush_54 : decode cX11_hush 54 = .ok (.aload_n 0, 1) := by decide +kernel
theorem dX11_hush_55 : decode cX11_hush 55 = .ok (.getfield 63, 3) := by decide +kernel
theorem dX11_hush_58 : decode cX11_hush 58 = .ok (.aload_n 0, 1) := by decide +kernel
theorem dX11_hush_59 : decode cX11_hush 59 = .ok (.getfield 49, 3) := by decide +kernel
theorem dX11_hush_62 : decode cX11_hush 62 = .ok (.invokevirtual 232, 3) := by decide +kernel
theorem dX11_hush_65 : decode cX11_hush 65 = .ok (.aload_n 0, 1) := by decide +kernel
theorem dX11_hush_66 : decode cX11_hush 66 = .ok (.getfield 49, 3) := by decide +kernel
theorem dX11_hush_69 : decode cX11_hush 69 = .ok (.iload_n 1, 1) := by decide +kernel
theorem dX11_hush_70 : decode cX11_hush 70 = .ok (.bipush 6, 2) := by decide +kernel
theorem dX11_hush_72 : decode cX11_hush 72 = .ok (.iconst 1, 1) := by decide +kernel
theorem dX11_hush_73 : decode cX11_hush 73 = .ok (.invokevirtual 257, 3) := by decide +kernel
theorem dX11_hush_76 : decode cX11_hush 76 = .ok (.aload_n 0, 1) := by decide +kernel
theorem dX11_hush_77 : decode cX11_hush 77 = .ok (.getfield 49, 3) := by decide +kernel
theorem dX11_hush_80 : decode cX11_hush 80 = .ok (.iconst (-1), 1) := by decide +kernel
theorem dX11_hush_81 : decode cX11_hush 81 = .ok (.invokevirtual 261, 3) := by decide +kernel
theorem dX11_hush_84 : decode cX11_hush 84 = .ok (.aload_n 0, 1) := by decide +kernel
theorem dX11_hush_85 : decode cX11_hush 85 = .ok (.getfield 49, 3) := by decide +kernel
theorem dX11_hush_88 : decode cX11_hush 88 = .ok (.invokevirtual 163, 3) := by decide +kernel
theorem dX11_hush_91 : decode cX11_hush 91 = .ok (.ireturn, 1) := by decide +kernel
theorem dX11_sell_0 : decode cX11_sell 0 = .ok (.aload_n 0, 1) := by decide +kernel
theorem dX11_sell_1 : decode cX11_sell 1 = .ok (.getfield 49, 3) := by decide +kernel
theorem dX11_sell_4 : decode cX11_sell 4 = .ok (.iload_n 1, 1) := by decide +kernel
theorem dX11_sell_5 : decode cX11_sell 5 = .ok (.invokevirtual 169, 3) := by decide +kernel
theorem dX11_sell_8 : decode cX11_sell 8 = .ok (.ifCond .ne 9, 3) := by decide +kernel
theorem dX11_sell_11 : decode cX11_sell 11 = .ok (.aload_n 0, 1) := by decide +kernel
theorem dX11_sell_12 : decode cX11_sell 12 = .ok (.iconst 0, 1) := by decide +kernel
theorem dX11_sell_13 : decode cX11_sell 13 = .ok (.invokevirtual 229, 3) := by decide +kernel
theorem dX11_sell_16 : decode cX11_sell 16 = .ok (.ireturn, 1) := by decide +kernel
theorem dX11_sell_17 : decode cX11_sell 17 = .ok (.aload_n 0, 1) := by decide +kernel
theorem dX11_sell_18 : decode cX11_sell 18 = .ok (.getfield 49, 3) := by decide +kernel
theorem dX11_sell_21 : decode cX11_sell 21 = .ok (.iload_n 1, 1) := by decide +kernel
theorem dX11_sell_22 : decode cX11_sell 22 = .ok (.iconst 5, 1) := by decide +kernel
theorem dX11_sell_23 : decode cX11_sell 23 = .ok (.invokevirtual 179, 3) := by decide +kernel
theorem dX11_sell_26 : decode cX11_sell 26 = .ok (.bipush 7, 2) := by decide +kernel
theorem dX11_sell_28 : decode cX11_sell 28 = .ok (.if_icmp .ge 9, 3) := by decide +kernel
theorem dX11_sell_31 : decode cX11_sell 31 = .ok (.aload_n 0, 1) := by decide +kernel
theorem dX11_sell_32 : decode cX11_sell 32 = .ok (.iconst 2, 1) := by decide +kernel
theorem dX11_sell_33 : decode cX11_sell 33 = .ok (.invokevirtual 229, 3) := by decide +kernel
theorem dX11_sell_36 : decode cX11_sell 36 = .ok (.ireturn, 1) := by decide +kernel
theorem dX11_sell_37 : decode cX11_sell 37 = .ok (.aload_n 0, 1) := by decide +kernel
theorem dX11_sell_38 : decode cX11_sell 38 = .ok (.getfield 63, 3) := by decide +kernel
theorem dX11_sell_41 : decode cX11_sell 41 = .ok (.aload_n 0, 1) := by decide +kernel
theorem dX11_sell_42 : decode cX11_sell 42 = .ok (.getfield 49, 3) := by decide +kernel
theorem dX11_sell_45 : decode cX11_sell 45 = .ok (.invokevirtual 232, 3) := by decide +kernel
theorem dX11_sell_48 : decode cX11_sell 48 = .ok (.aload_n 0, 1) := by decide +kernel
theorem dX11_sell_49 : decode cX11_sell 49 = .ok (.getfield 49, 3) := by decide +kernel
theorem dX11_sell_52 : decode cX11_sell 52 = .ok (.iload_n 1, 1) := by decide +kernel
theorem dX11_sell_53 : decode cX11_sell 53 = .ok (.iconst 0, 1) := by decide +kernel
theorem dX11_sell_54 : decode cX11_sell 54 = .ok (.invokevirtual 179, 3) := by decide +kernel
theorem dX11_sell_57 : decode cX11_sell 57 = .ok (.istore_n 2, 1) := by decide +kernel
theorem dX11_sell_58 : decode cX11_sell 58 = .ok (.aload_n 0, 1) := by decide +kernel
theorem dX11_sell_59 : decode cX11_sell 59 = .ok (.getfield 49, 3) := by decide +kernel
theorem dX11_sell_62 : decode cX11_sell 62 = .ok (.iload_n 2, 1) := by decide +kernel
theorem dX11_sell_63 : decode cX11_sell 63 = .ok (.invokevirtual 261, 3) := by decide +kernel
theorem dX11_sell_66 : decode cX11_sell 66 = .ok (.aload_n 0, 1) := by decide +kernel
theorem dX11_sell_67 : decode cX11_sell 67 = .ok (.getfield 49, 3) := by decide +kernel
theorem dX11_sell_70 : decode cX11_sell 70 = .ok (.iload_n 1, 1) := by decide +kernel
theorem dX11_sell_71 : decode cX11_sell 71 = .ok (.invokevirtual 264, 3) := by decide +kernel
theorem dX11_sell_74 : decode cX11_sell 74 = .ok (.iload_n 2, 1) := by decide +kernel
theorem dX11_sell_75 : decode cX11_sell 75 = .ok (.ireturn, 1) := by decide +kernel
theorem dX11_give_0 : decode cX11_give 0 = .ok (.aload_n 0, 1) := by decide +kernel
theorem dX11_give_1 : decode cX11_give 1 = .ok (.getfield 42, 3) := by decide +kernel
theorem dX11_give_4 : decode cX11_give 4 = .ok (.invokevirtual 159, 3) := by decide +kernel
theorem dX11_give_7 : decode cX11_give 7 = .ok (.ifCond .ne 9, 3) := by decide +kernel
theorem dX11_give_10 : decode cX11_give 10 = .ok (.aload_n 0, 1) := by decide +kernel
theorem dX11_give_11 : decode cX11_give 11 = .ok (.iconst 0, 1) := by decide +kernel
theorem dX11_give_12 : decode cX11_give 12 = .ok (.invokevirtual 229, 3) := by decide +kernel
theorem dX11_give_15 : decode cX11_give 15 = .ok (.ireturn, 1) := by decide +kernel
theorem dX11_give_16 : decode cX11_give 16 = .ok (.iload_n 1, 1) := by decide +kernel
theorem dX11_give_17 : decode cX11_give 17 = .ok (.iconst 1, 1) := by decide +kernel
theorem dX11_give_18 : decode cX11_give 18 = .ok (.bipush 50, 2) := by decide +kernel
theorem dX11_give_20 : decode cX11_give 20 = .ok (.invokestatic 239, 3) := by decide +kernel
theorem dX11_give_23 : decode cX11_give 23 = .ok (.ifCond .eq 18, 3) := by decide +kernel
theorem dX11_give_26 : decode cX11_give 26 = .ok (.aload_n 0, 1) := by decide +kernel
theorem dX11_give_27 : decode cX11_give 27 = .ok (.getfield 49, 3) := by decide +kernel
theorem dX11_give_30 : decode cX11_give 30 = .ok (.invokevirtual 163, 3) := by decide +kernel
theorem dX11_give_33 : decode cX11_give 33 = .ok (.iload_n 1, 1) := by decide +kernel
theorem dX11_give_34 : decode cX11_give 34 = .ok (.iadd, 1) := by decide +kernel
theorem dX11_give_35 : decode cX11_give 35 = .ok (.sipush 999, 3) := by decide +kernel
theorem dX11_give_38 : decode cX11_give 38 = .ok (.if_icmp .le 9, 3) := by decide +kernel
theorem dX11_give_41 : decode cX11_give 41 = .ok (.aload_n 0, 1) := by decide +kernel
theorem dX11_give_42 : decode cX11_give 42 = .ok (.iconst 1, 1) := by decide +kernel
theorem dX11_give_43 : decode cX11_give 43 = .ok (.invokevirtual 229, 3) := by decide +kernel
theorem dX11_give_46 : decode cX11_give 46 = .ok (.ireturn, 1) := by decide +kernel
theorem dX11_give_47 : decode cX11_give 47 = .ok (.aload_n 0, 1) := by decide +kernel
theorem dX11_give_48 : decode cX11_give 48 = .ok (.getfield 63, 3) := by decide +kernel
theorem dX11_give_51 : decode cX11_give 51 = .ok (.aload_n 0, 1) := by decide +kernel
theorem dX11_give_52 : decode cX11_give 52 = .ok (.getfield 49, 3) := by decide +kernel
theorem dX11_give_55 : decode cX11_give 55 = .ok (.invokevirtual 232, 3) := by decide +kernel
theorem dX11_give_58 : decode cX11_give 58 = .ok (.aload_n 0, 1) := by decide +kernel
theorem dX11_give_59 : decode cX11_give 59 = .ok (.getfield 49, 3) := by decide +kernel
theorem dX11_give_62 : decode cX11_give 62 = .ok (.iload_n 1, 1) := by decide +kernel
theorem dX11_give_63 : decode cX11_give 63 = .ok (.invokevirtual 261, 3) := by decide +kernel
theorem dX11_give_66 : decode cX11_give 66 = .ok (.aload_n 0, 1) := by decide +kernel
theorem dX11_give_67 : decode cX11_give 67 = .ok (.getfield 49, 3) := by decide +kernel
theorem dX11_give_70 : decode cX11_give 70 = .ok (.invokevirtual 163, 3) := by decide +kernel
theorem dX11_give_73 : decode cX11_give 73 = .ok (.ireturn, 1) := by decide +kernel
theorem dX11_undo_0 : decode cX11_undo 0 = .ok (.aload_n 0, 1) := by decide +kernel
theorem dX11_undo_1 : decode cX11_undo 1 = .ok (.getfield 63, 3) := by decide +kernel
theorem dX11_undo_4 : decode cX11_undo 4 = .ok (.aload_n 0, 1) := by decide +kernel
theorem dX11_undo_5 : decode cX11_undo 5 = .ok (.getfield 49, 3) := by decide +kernel
theorem dX11_undo_8 : decode cX11_undo 8 = .ok (.invokevirtual 267, 3) := by decide +kernel
theorem dX11_undo_11 : decode cX11_undo 11 = .ok (.ifCond .eq 13, 3) := by decide +kernel
theorem dX11_undo_14 : decode cX11_undo 14 = .ok (.aload_n 0, 1) := by decide +kernel
theorem dX11_undo_15 : decode cX11_undo 15 = .ok (.getfield 63, 3) := by decide +kernel
theorem dX11_undo_18 : decode cX11_undo 18 = .ok (.invokevirtual 207, 3) := by decide +kernel
theorem dX11_undo_21 : decode cX11_undo 21 = .ok (.goto 4, 3) := by decide +kernel
theorem dX11_undo_24 : decode cX11_undo 24 = .ok (.iconst (-1), 1) := by decide +kernel
theorem dX11_undo_25 : decode cX11_undo 25 = .ok (.ireturn, 1) := by decide +kernel
theorem dX11_trains_0 : decode cX11_trains 0 = .ok (.iload_n 1, 1) := by decide +kernel
theorem dX11_trains_1 : decode cX11_trains 1 = .ok (.iconst 0, 1) := by decide +kernel
theorem dX11_trains_2 : decode cX11_trains 2 = .ok (.bipush 9, 2) := by decide +kernel
theorem dX11_trains_4 : decode cX11_trains 4 = .ok (.invokestatic 239, 3) := by decide +kernel
theorem dX11_trains_7 : decode cX11_trains 7 = .ok (.ifCond .eq 11, 3) := by decide +kernel
theorem dX11_trains_10 : decode cX11_trains 10 = .ok (.iload_n 1, 1) := by decide +kernel
theorem dX11_trains_11 : decode cX11_trains 11 = .ok (.aload_n 0, 1) := by decide +kernel
theorem dX11_trains_12 : decode cX11_trains 12 = .ok (.getfield 104, 3) := by decide +kernel
theorem dX11_trains_15 : decode cX11_trains 15 = .ok (.if_icmp .ne 5, 3) := by decide +kernel
theorem dX11_trains_18 : decode cX11_trains 18 = .ok (.iconst 0, 1) := by decide +kernel
theorem dX11_trains_19 : decode cX11_trains 19 = .ok (.ireturn, 1) := by decide +kernel
theorem dX11_trains_20 : decode cX11_trains 20 = .ok (.aload_n 0, 1) := by decide +kernel
theorem dX11_trains_21 : decode cX11_trains 21 = .ok (.iload_n 1, 1) := by decide +kernel
theorem dX11_trains_22 : decode cX11_trains 22 = .ok (.putfield 104, 3) := by decide +kernel
theorem dX11_trains_25 : decode cX11_trains 25 = .ok (.iconst 1, 1) := by decide +kernel
theorem dX11_trains_26 : decode cX11_trains 26 = .ok (.ireturn, 1) := by decide +kernel
theorem dX11_years_0 : decode cX11_years 0 = .ok (.aload_n 0, 1) := by decide +kernel
theorem dX11_years_1 : decode cX11_years 1 = .ok (.getfield 42, 3) := by decide +kernel
theorem dX11_years_4 : decode cX11_years 4 = .ok (.invokevirtual 159, 3) := by decide +kernel
theorem dX11_years_7 : decode cX11_years 7 = .ok (.ifCond .eq 28, 3) := by decide +kernel
theorem dX11_years_10 : decode cX11_years 10 = .ok (.iload_n 1, 1) := by decide +kernel
theorem dX11_years_11 : decode cX11_years 11 = .ok (.iconst 1, 1) := by decide +kernel
theorem dX11_years_12 : decode cX11_years 12 = .ok (.bipush 60, 2) := by decide +kernel
theorem dX11_years_14 : decode cX11_years 14 = .ok (.invokestatic 239, 3) := by decide +kernel
theorem dX11_years_17 : decode cX11_years 17 = .ok (.ifCond .eq 18, 3) := by decide +kernel
theorem dX11_years_20 : decode cX11_years 20 = .ok (.aload_n 0, 1) := by decide +kernel
theorem dX11_years_21 : decode cX11_years 21 = .ok (.getfield 49, 3) := by decide +kernel
theorem dX11_years_24 : decode cX11_years 24 = .ok (.invokevirtual 200, 3) := by decide +kernel
theorem dX11_years_27 : decode cX11_years 27 = .ok (.iload_n 1, 1) := by decide +kernel
theorem dX11_years_28 : decode cX11_years 28 = .ok (.iadd, 1) := by decide +kernel
theorem dX11_years_29 : decode cX11_years 29 = .ok (.sipush 999, 3) := by decide +kernel
theorem dX11_years_32 : decode cX11_years 32 = .ok (.if_icmp .le 5, 3) := by decide +kernel
theorem dX11_years_35 : decode cX11_years 35 = .ok (.iconst (-1), 1) := by decide +kernel
theorem dX11_years_36 : decode cX11_years 36 = .ok (.ireturn, 1) := by decide +kernel
theorem dX11_years_37 : decode cX11_years 37 = .ok (.aload_n 0, 1) := by decide +kernel
theorem dX11_years_38 : decode cX11_years 38 = .ok (.lload_n 2, 1) := by decide +kernel
theorem dX11_years_39 : decode cX11_years 39 = .ok (.putfield 108, 3) := by decide +kernel
theorem dX11_years_42 : decode cX11_years 42 = .ok (.iconst 0, 1) := by decide +kernel
theorem dX11_years_43 : decode cX11_years 43 = .ok (.istore 4, 2) := by decide +kernel
theorem dX11_years_45 : decode cX11_years 45 = .ok (.iload 4, 2) := by decide +kernel
theorem dX11_years_47 : decode cX11_years 47 = .ok (.iload_n 1, 1) := by decide +kernel
theorem dX11_years_48 : decode cX11_years 48 = .ok (.if_icmp .ge 32, 3) := by decide +kernel
theorem dX11_years_51 : decode cX11_years 51 = .ok (.aload_n 0, 1) := by decide +kernel
theorem dX11_years_52 : decode cX11_years 52 = .ok (.getfield 63, 3) := by decide +kernel
theorem dX11_years_55 : decode cX11_years 55 = .ok (.aload_n 0, 1) := by decide +kernel
theorem dX11_years_56 : decode cX11_years 56 = .ok (.getfield 49, 3) := by decide +kernel
theorem dX11_years_59 : decode cX11_years 59 = .ok (.invokevirtual 232, 3) := by decide +kernel
theorem dX11_years_62 : decode cX11_years 62 = .ok (.aload_n 0, 1) := by decide +kernel
theorem dX11_years_63 : decode cX11_years 63 = .ok (.invokevirtual 271, 3) := by decide +kernel
theorem dX11_years_66 : decode cX11_years 66 = .ok (.aload_n 0, 1) := by decide +kernel
theorem dX11_years_67 : decode cX11_years 67 = .ok (.invokevirtual 274, 3) := by decide +kernel
theorem dX11_years_70 : decode cX11_years 70 = .ok (.aload_n 0, 1) := by decide +kernel
theorem dX11_years_71 : decode cX11_years 71 = .ok (.invokevirtual 236, 3) := by decide +kernel
theorem dX11_years_74 : decode cX11_years 74 = .ok (.iinc 4 1, 3) := by decide +kernel
theorem dX11_years_77 : decode cX11_years 77 = .ok (.goto (-32), 3) := by decide +kernel
theorem dX11_years_80 : decode cX11_years 80 = .ok (.aload_n 0, 1) := by decide +kernel
theorem dX11_years_81 : decode cX11_years 81 = .ok (.getfield 49, 3) := by decide +kernel
theorem dX11_years_84 : decode cX11_years 84 = .ok (.invokevirtual 200, 3) := by decide +kernel
theorem dX11_years_87 : decode cX11_years 87 = .ok (.ireturn, 1) := by decide +kernel
theorem dX11_draw_0 : decode cX11_draw 0 = .ok (.aload_n 0, 1) := by decide +kernel
theorem dX11_draw_1 : decode cX11_draw 1 = .ok (.aload_n 0, 1) := by decide +kernel
theorem dX11_draw_2 : decode cX11_draw 2 = .ok (.getfield 108, 3) := by decide +kernel
theorem dX11_draw_5 : decode cX11_draw 5 = .ok (.ldc2_w 277, 3) := by decide +kernel
theorem dX11_draw_8 : decode cX11_draw 8 = .ok (.lmul, 1) := by decide +kernel
theorem dX11_draw_9 : decode cX11_draw 9 = .ok (.ldc2_w 279, 3) := by decide +kernel
theorem dX11_draw_12 : decode cX11_draw 12 = .ok (.ladd, 1) := by decide +kernel
theorem dX11_draw_13 : decode cX11_draw 13 = .ok (.putfield 108, 3) := by decide +kernel
theorem dX11_draw_16 : decode cX11_draw 16 = .ok (.iload_n 1, 1) := by decide +kernel
theorem dX11_draw_17 : decode cX11_draw 17 = .ok (.iconst 1, 1) := by decide +kernel
theorem dX11_draw_18 : decode cX11_draw 18 = .ok (.if_icmp .ge 7, 3) := by decide +kernel
theorem dX11_draw_21 : decode cX11_draw 21 = .ok (.iconst 0, 1) := by decide +kernel
theorem dX11_draw_22 : decode cX11_draw 22 = .ok (.goto 14, 3) := by decide +kernel
theorem dX11_draw_25 : decode cX11_draw 25 = .ok (.aload_n 0, 1) := by decide +kernel
theorem dX11_draw_26 : decode cX11_draw 26 = .ok (.getfield 108, 3) := by decide +kernel
theorem dX11_draw_29 : decode cX11_draw 29 = .ok (.bipush 33, 2) := by decide +kernel
theorem dX11_draw_31 : decode cX11_draw 31 = .ok (.lushr, 1) := by decide +kernel
theorem dX11_draw_32 : decode cX11_draw 32 = .ok (.iload_n 1, 1) := by decide +kernel
theorem dX11_draw_33 : decode cX11_draw 33 = .ok (.i2l, 1) := by decide +kernel
theorem dX11_draw_34 : decode cX11_draw 34 = .ok (.lrem, 1) := by decide +kernel
theorem dX11_draw_35 : decode cX11_draw 35 = .ok (.l2i, 1) := by decide +kernel
theorem dX11_draw_36 : decode cX11_draw 36 = .ok (.ireturn, 1) := by decide +kernel
theorem dX11_letTrainCome_0 : decode cX11_letTrainCome 0 = .ok (.aload_n 0, 1) := by decide +kernel
theorem dX11_letTrainCome_1 : decode cX11_letTrainCome 1 = .ok (.bipush 10, 2) := by decide +kernel
theorem dX11_letTrainCome_3 : decode cX11_letTrainCome 3 = .ok (.invokevirtual 281, 3) := by decide +kernel
theorem dX11_letTrainCome_6 : decode cX11_letTrainCome 6 = .ok (.aload_n 0, 1) := by decide +kernel
theorem dX11_letTrainCome_7 : decode cX11_letTrainCome 7 = .ok (.getfield 104, 3) := by decide +kernel
theorem dX11_letTrainCome_10 : decode cX11_letTrainCome 10 = .ok (.if_icmp .lt 4, 3) := by decide +kernel
theorem dX11_letTrainCome_13 : decode cX11_letTrainCome 13 = .ok (.return_, 1) := by decide +kernel
theorem dX11_letTrainCome_14 : decode cX11_letTrainCome 14 = .ok (.aload_n 0, 1) := by decide +kernel
theorem dX11_letTrainCome_15 : decode cX11_letTrainCome 15 = .ok (.bipush 9, 2) := by decide +kernel
theorem dX11_letTrainCome_17 : decode cX11_letTrainCome 17 = .ok (.invokevirtual 281, 3) := by decide +kernel
theorem dX11_letTrainCome_20 : decode cX11_letTrainCome 20 = .ok (.iconst 1, 1) := by decide +kernel
theorem dX11_letTrainCome_21 : decode cX11_letTrainCome 21 = .ok (.iadd, 1) := by decide +kernel
theorem dX11_letTrainCome_22 : decode cX11_letTrainCome 22 = .ok (.istore_n 1, 1) := by decide +kernel
theorem dX11_letTrainCome_23 : decode cX11_letTrainCome 23 = .ok (.aload_n 0, 1) := by decide +kernel
theorem dX11_letTrainCome_24 : decode cX11_letTrainCome 24 = .ok (.bipush 10, 2) := by decide +kernel
theorem dX11_letTrainCome_26 : decode cX11_letTrainCome 26 = .ok (.invokevirtual 281, 3) := by decide +kernel
theorem dX11_letTrainCome_29 : decode cX11_letTrainCome 29 = .ok (.istore_n 2, 1) := by decide +kernel
theorem dX11_letTrainCome_30 : decode cX11_letTrainCome 30 = .ok (.aload_n 0, 1) := by decide +kernel
theorem dX11_letTrainCome_31 : decode cX11_letTrainCome 31 = .ok (.bipush 10, 2) := by decide +kernel
theorem dX11_letTrainCome_33 : decode cX11_letTrainCome 33 = .ok (.invokevirtual 281, 3) := by decide +kernel
theorem dX11_letTrainCome_36 : decode cX11_letTrainCome 36 = .ok (.istore_n 3, 1) := by decide +kernel
theorem dX11_letTrainCome_37 : decode cX11_letTrainCome 37 = .ok (.aload_n 0, 1) := by decide +kernel
theorem dX11_letTrainCome_38 : decode cX11_letTrainCome 38 = .ok (.aload_n 0, 1) := by decide +kernel
theorem dX11_letTrainCome_39 : decode cX11_letTrainCome 39 = .ok (.getfield 42, 3) := by decide +kernel
theorem dX11_letTrainCome_42 : decode cX11_letTrainCome 42 = .ok (.iconst 1, 1) := by decide +kernel
theorem dX11_letTrainCome_43 : decode cX11_letTrainCome 43 = .ok (.invokevirtual 166, 3) := by decide +kernel
theorem dX11_letTrainCome_46 : decode cX11_letTrainCome 46 = .ok (.invokevirtual 281, 3) := by decide +kernel
theorem dX11_letTrainCome_49 : decode cX11_letTrainCome 49 = .ok (.istore 4, 2) := by decide +kernel
theorem dX11_letTrainCome_51 : decode cX11_letTrainCome 51 = .ok (.aload_n 0, 1) := by decide +kernel
theorem dX11_letTrainCome_52 : decode cX11_letTrainCome 52 = .ok (.getfield 49, 3) := by decide +kernel
theorem dX11_letTrainCome_55 : decode cX11_letTrainCome 55 = .ok (.invokevirtual 243, 3) := by decide +kernel
theorem dX11_letTrainCome_58 : decode cX11_letTrainCome 58 = .ok (.istore 5, 2) := by decide +kernel
theorem dX11_letTrainCome_60 : decode cX11_letTrainCome 60 = .ok (.iload 5, 2) := by decide +kernel
theorem dX11_letTrainCome_62 : decode cX11_letTrainCome 62 = .ok (.iconst (-1), 1) := by decide +kernel
theorem dX11_letTrainCome_63 : decode cX11_letTrainCome 63 = .ok (.if_icmp .eq 35, 3) := by decide +kernel
theorem dX11_letTrainCome_66 : decode cX11_letTrainCome 66 = .ok (.aload_n 0, 1) := by decide +kernel
theorem dX11_letTrainCome_67 : decode cX11_letTrainCome 67 = .ok (.getfield 49, 3) := by decide +kernel
theorem dX11_letTrainCome_70 : decode cX11_letTrainCome 70 = .ok (.aload_n 0, 1) := by decide +kernel
theorem dX11_letTrainCome_71 : decode cX11_letTrainCome 71 = .ok (.getfield 42, 3) := by decide +kernel
theorem dX11_letTrainCome_74 : decode cX11_letTrainCome 74 = .ok (.iload 4, 2) := by decide +kernel
theorem dX11_letTrainCome_76 : decode cX11_letTrainCome 76 = .ok (.iload_n 1, 1) := by decide +kernel
theorem dX11_letTrainCome_77 : decode cX11_letTrainCome 77 = .ok (.invokevirtual 246, 3) := by decide +kernel
theorem dX11_letTrainCome_80 : decode cX11_letTrainCome 80 = .ok (.ifCond .eq 18, 3) := by decide +kernel
theorem dX11_letTrainCome_83 : decode cX11_letTrainCome 83 = .ok (.aload_n 0, 1) := by decide +kernel
theorem dX11_letTrainCome_84 : decode cX11_letTrainCome 84 = .ok (.getfield 49, 3) := by decide +kernel
theorem dX11_letTrainCome_87 : decode cX11_letTrainCome 87 = .ok (.iload 5, 2) := by decide +kernel
theorem dX11_letTrainCome_89 : decode cX11_letTrainCome 89 = .ok (.iload_n 1, 1) := by decide +kernel
theorem dX11_letTrainCome_90 : decode cX11_letTrainCome 90 = .ok (.iload_n 2, 1) := by decide +kernel
theorem dX11_letTrainCome_91 : decode cX11_letTrainCome 91 = .ok (.iload_n 3, 1) := by decide +kernel
theorem dX11_letTrainCome_92 : decode cX11_letTrainCome 92 = .ok (.iload 4, 2) := by decide +kernel
theorem dX11_letTrainCome_94 : decode cX11_letTrainCome 94 = .ok (.iconst 0, 1) := by decide +kernel
theorem dX11_letTrainCome_95 : decode cX11_letTrainCome 95 = .ok (.invokevirtual 250, 3) := by decide +kernel
theorem dX11_letTrainCome_98 : decode cX11_letTrainCome 98 = .ok (.return_, 1) := by decide +kernel
theorem dX11_letSomebodyCall_0 : decode cX11_letSomebodyCall 0 = .ok (.aload_n 0, 1) := by decide +kernel
theorem dX11_letSomebodyCall_1 : decode cX11_letSomebodyCall 1 = .ok (.bipush 16, 2) := by decide +kernel
theorem dX11_letSomebodyCall_3 : decode cX11_letSomebodyCall 3 = .ok (.invokevirtual 281, 3) := by decide +kernel
theorem dX11_letSomebodyCall_6 : decode cX11_letSomebodyCall 6 = .ok (.istore_n 1, 1) := by decide +kernel
theorem dX11_letSomebodyCall_7 : decode cX11_letSomebodyCall 7 = .ok (.aload_n 0, 1) := by decide +kernel
theorem dX11_letSomebodyCall_8 : decode cX11_letSomebodyCall 8 = .ok (.getfield 49, 3) := by decide +kernel
theorem dX11_letSomebodyCall_11 : decode cX11_letSomebodyCall 11 = .ok (.iload_n 1, 1) := by decide +kernel
theorem dX11_letSomebodyCall_12 : decode cX11_letSomebodyCall 12 = .ok (.invokevirtual 169, 3) := by decide +kernel
theorem dX11_letSomebodyCall_15 : decode cX11_letSomebodyCall 15 = .ok (.ifCond .eq 16, 3) := by decide +kernel
theorem dX11_letSomebodyCall_18 : decode cX11_letSomebodyCall 18 = .ok (.aload_n 0, 1) := by decide +kernel
theorem dX11_letSomebodyCall_19 : decode cX11_letSomebodyCall 19 = .ok (.getfield 49, 3) := by decide +kernel
theorem dX11_letSomebodyCall_22 : decode cX11_letSomebodyCall 22 = .ok (.iload_n 1, 1) := by decide +kernel
theorem dX11_letSomebodyCall_23 : decode cX11_letSomebodyCall 23 = .ok (.aload_n 0, 1) := by decide +kernel
theorem dX11_letSomebodyCall_24 : decode cX11_letSomebodyCall 24 = .ok (.getfield 42, 3) := by decide +kernel
theorem dX11_letSomebodyCall_27 : decode cX11_letSomebodyCall 27 = .ok (.invokevirtual 253, 3) := by decide +kernel
theorem dX11_letSomebodyCall_30 : decode cX11_letSomebodyCall 30 = .ok (.pop, 1) := by decide +kernel
theorem dX11_letSomebodyCall_31 : decode cX11_letSomebodyCall 31 = .ok (.return_, 1) := by decide +kernel
theorem dX11_image_0 : decode cX11_image 0 = .ok (.aload_n 0, 1) := by decide +kernel
theorem dX11_image_1 : decode cX11_image 1 = .ok (.getfield 42, 3) := by decide +kernel
theorem dX11_image_4 : decode cX11_image 4 = .ok (.invokevirtual 159, 3) := by decide +kernel
theorem dX11_image_7 : decode cX11_image 7 = .ok (.ifCond .ne 5, 3) := by decide +kernel
theorem dX11_image_10 : decode cX11_image 10 = .ok (.iconst (-1), 1) := by decide +kernel
theorem dX11_image_11 : decode cX11_image 11 = .ok (.ireturn, 1) := by decide +kernel
theorem dX11_image_12 : decode cX11_image 12 = .ok (.aload_n 0, 1) := by decide +kernel
theorem dX11_image_13 : decode cX11_image 13 = .ok (.getfield 90, 3) := by decide +kernel
theorem dX11_image_16 : decode cX11_image 16 = .ok (.aload_n 0, 1) := by decide +kernel
theorem dX11_image_17 : decode cX11_image 17 = .ok (.getfield 49, 3) := by decide +kernel
theorem dX11_image_20 : decode cX11_image 20 = .ok (.invokevirtual 284, 3) := by decide +kernel
theorem dX11_image_23 : decode cX11_image 23 = .ok (.aload_n 0, 1) := by decide +kernel
theorem dX11_image_24 : decode cX11_image 24 = .ok (.getfield 93, 3) := by decide +kernel
theorem dX11_image_27 : decode cX11_image 27 = .ok (.aload_n 0, 1) := by decide +kernel
theorem dX11_image_28 : decode cX11_image 28 = .ok (.getfield 56, 3) := by decide +kernel
theorem dX11_image_31 : decode cX11_image 31 = .ok (.invokevirtual 287, 3) := by decide +kernel
theorem dX11_image_34 : decode cX11_image 34 = .ok (.aload_n 0, 1) := by decide +kernel
theorem dX11_image_35 : decode cX11_image 35 = .ok (.iconst 1, 1) := by decide +kernel
theorem dX11_image_36 : decode cX11_image 36 = .ok (.putfield 100, 3) := by decide +kernel
theorem dX11_image_39 : decode cX11_image 39 = .ok (.aload_n 0, 1) := by decide +kernel
theorem dX11_image_40 : decode cX11_image 40 = .ok (.getfield 49, 3) := by decide +kernel
theorem dX11_image_43 : decode cX11_image 43 = .ok (.invokevirtual 200, 3) := by decide +kernel
theorem dX11_image_46 : decode cX11_image 46 = .ok (.ireturn, 1) := by decide +kernel
theorem dX11_back_0 : decode cX11_back 0 = .ok (.aload_n 0, 1) := by decide +kernel
theorem dX11_back_1 : decode cX11_back 1 = .ok (.getfield 100, 3) := by decide +kernel
theorem dX11_back_4 : decode cX11_back 4 = .ok (.ifCond .ne 5, 3) := by decide +kernel
theorem dX11_back_7 : decode cX11_back 7 = .ok (.iconst (-1), 1) := by decide +kernel
theorem dX11_back_8 : decode cX11_back 8 = .ok (.ireturn, 1) := by decide +kernel
theorem dX11_back_9 : decode cX11_back 9 = .ok (.aload_n 0, 1) := by decide +kernel
theorem dX11_back_10 : decode cX11_back 10 = .ok (.getfield 49, 3) := by decide +kernel
theorem dX11_back_13 : decode cX11_back 13 = .ok (.aload_n 0, 1) := by decide +kernel
theorem dX11_back_14 : decode cX11_back 14 = .ok (.getfield 90, 3) := by decide +kernel
theorem dX11_back_17 : decode cX11_back 17 = .ok (.invokevirtual 284, 3) := by decide +kernel
theorem dX11_back_20 : decode cX11_back 20 = .ok (.aload_n 0, 1) := by decide +kernel
theorem dX11_back_21 : decode cX11_back 21 = .ok (.getfield 56, 3) := by decide +kernel
theorem dX11_back_24 : decode cX11_back 24 = .ok (.aload_n 0, 1) := by decide +kernel
theorem dX11_back_25 : decode cX11_back 25 = .ok (.getfield 93, 3) := by decide +kernel
theorem dX11_back_28 : decode cX11_back 28 = .ok (.invokevirtual 287, 3) := by decide +kernel
theorem dX11_back_31 : decode cX11_back 31 = .ok (.aload_n 0, 1) := by decide +kernel
theorem dX11_back_32 : decode cX11_back 32 = .ok (.getfield 63, 3) := by decide +kernel
theorem dX11_back_35 : decode cX11_back 35 = .ok (.invokevirtual 148, 3) := by decide +kernel
theorem dX11_back_38 : decode cX11_back 38 = .ok (.aload_n 0, 1) := by decide +kernel
theorem dX11_back_39 : decode cX11_back 39 = .ok (.getfield 49, 3) := by decide +kernel
theorem dX11_back_42 : decode cX11_back 42 = .ok (.invokevirtual 200, 3) := by decide +kernel
theorem dX11_back_45 : decode cX11_back 45 = .ok (.ireturn, 1) := by decide +kernel
theorem dX11_large_0 : decode cX11_large 0 = .ok (.aload_n 0, 1) := by decide +kernel
theorem dX11_large_1 : decode cX11_large 1 = .ok (.getfield 49, 3) := by decide +kernel
theorem dX11_large_4 : decode cX11_large 4 = .ok (.iload_n 1, 1) := by decide +kernel
theorem dX11_large_5 : decode cX11_large 5 = .ok (.invokevirtual 169, 3) := by decide +kernel
theorem dX11_large_8 : decode cX11_large 8 = .ok (.ifCond .eq 13, 3) := by decide +kernel
theorem dX11_large_11 : decode cX11_large 11 = .ok (.iload_n 2, 1) := by decide +kernel
theorem dX11_large_12 : decode cX11_large 12 = .ok (.iconst 0, 1) := by decide +kernel
theorem dX11_large_13 : decode cX11_large 13 = .ok (.bipush 99, 2) := by decide +kernel
theorem dX11_large_15 : decode cX11_large 15 = .ok (.invokestatic 239, 3) := by decide +kernel
theorem dX11_large_18 : decode cX11_large 18 = .ok (.ifCond .ne 7, 3) := by decide +kernel
theorem dX11_large_21 : decode cX11_large 21 = .ok (.iconst (-1), 1) := by decide +kernel
theorem dX11_large_22 : decode cX11_large 22 = .ok (.goto 16, 3) := by decide +kernel
theorem dX11_large_25 : decode cX11_large 25 = .ok (.aload_n 0, 1) := by decide +kernel
theorem dX11_large_26 : decode cX11_large 26 = .ok (.getfield 72, 3) := by decide +kernel
theorem dX11_large_29 : decode cX11_large 29 = .ok (.aload_n 0, 1) := by decide +kernel
theorem dX11_large_30 : decode cX11_large 30 = .ok (.getfield 49, 3) := by decide +kernel
theorem dX11_large_33 : decode cX11_large 33 = .ok (.iload_n 1, 1) := by decide +kernel
theorem dX11_large_34 : decode cX11_large 34 = .ok (.iload_n 2, 1) := by decide +kernel
theorem dX11_large_35 : decode cX11_large 35 = .ok (.invokevirtual 290, 3) := by decide +kernel
theorem dX11_large_38 : decode cX11_large 38 = .ok (.ireturn, 1) := by decide +kernel
theorem dX11_ends_0 : decode cX11_ends 0 = .ok (.aload_n 0, 1) := by decide +kernel
theorem dX11_ends_1 : decode cX11_ends 1 = .ok (.getfield 49, 3) := by decide +kernel
theorem dX11_ends_4 : decode cX11_ends 4 = .ok (.iload_n 1, 1) := by decide +kernel
theorem dX11_ends_5 : decode cX11_ends 5 = .ok (.invokevirtual 169, 3) := by decide +kernel
theorem dX11_ends_8 : decode cX11_ends 8 = .ok (.ifCond .eq 18, 3) := by decide +kernel
theorem dX11_ends_11 : decode cX11_ends 11 = .ok (.aload_n 0, 1) := by decide +kernel
theorem dX11_ends_12 : decode cX11_ends 12 = .ok (.getfield 72, 3) := by decide +kernel
theorem dX11_ends_15 : decode cX11_ends 15 = .ok (.aload_n 0, 1) := by decide +kernel
theorem dX11_ends_16 : decode cX11_ends 16 = .ok (.getfield 49, 3) := by decide +kernel
theorem dX11_ends_19 : decode cX11_ends 19 = .ok (.iload_n 1, 1) := by decide +kernel
theorem dX11_ends_20 : decode cX11_ends 20 = .ok (.invokevirtual 294, 3) := by decide +kernel
theorem dX11_ends_23 : decode cX11_ends 23 = .ok (.goto 4, 3) := by decide +kernel
theorem dX11_ends_26 : decode cX11_ends 26 = .ok (.iconst (-1), 1) := by decide +kernel
theorem dX11_ends_27 : decode cX11_ends 27 = .ok (.ireturn, 1) := by decide +kernel
theorem dX11_falls_0 : decode cX11_falls 0 = .ok (.aload_n 0, 1) := by decide +kernel
theorem dX11_falls_1 : decode cX11_falls 1 = .ok (.getfield 49, 3) := by decide +kernel
theorem dX11_falls_4 : decode cX11_falls 4 = .ok (.iload_n 1, 1) := by decide +kernel
theorem dX11_falls_5 : decode cX11_falls 5 = .ok (.invokevirtual 169, 3) := by decide +kernel
theorem dX11_falls_8 : decode cX11_falls 8 = .ok (.ifCond .eq 17, 3) := by decide +kernel
theorem dX11_falls_11 : decode cX11_falls 11 = .ok (.aload_n 0, 1) := by decide +kernel
theorem dX11_falls_12 : decode cX11_falls 12 = .ok (.getfield 49, 3) := by decide +kernel
theorem dX11_falls_15 : decode cX11_falls 15 = .ok (.iload_n 1, 1) := by decide +kernel
theorem dX11_falls_16 : decode cX11_falls 16 = .ok (.iconst 3, 1) := by decide +kernel
theorem dX11_falls_17 : decode cX11_falls 17 = .ok (.invokevirtual 179, 3) := by decide +kernel
theorem dX11_falls_20 : decode cX11_falls 20 = .ok (.bipush 9, 2) := by decide +kernel
theorem dX11_falls_22 : decode cX11_falls 22 = .ok (.if_icmp .ne 7, 3) := by decide +kernel
theorem dX11_falls_25 : decode cX11_falls 25 = .ok (.iconst (-1), 1) := by decide +kernel
theorem dX11_falls_26 : decode cX11_falls 26 = .ok (.goto 15, 3) := by decide +kernel
theorem dX11_falls_29 : decode cX11_falls 29 = .ok (.aload_n 0, 1) := by decide +kernel
theorem dX11_falls_30 : decode cX11_falls 30 = .ok (.getfield 72, 3) := by decide +kernel
theorem dX11_falls_33 : decode cX11_falls 33 = .ok (.aload_n 0, 1) := by decide +kernel
theorem dX11_falls_34 : decode cX11_falls 34 = .ok (.getfield 49, 3) := by decide +kernel
theorem dX11_falls_37 : decode cX11_falls 37 = .ok (.iload_n 1, 1) := by decide +kernel
theorem dX11_falls_38 : decode cX11_falls 38 = .ok (.invokevirtual 297, 3) := by decide +kernel
theorem dX11_falls_41 : decode cX11_falls 41 = .ok (.ireturn, 1) := by decide +kernel
theorem dX11_shelved_0 : decode cX11_shelved 0 = .ok (.aload_n 0, 1) := by decide +kernel
theorem dX11_shelved_1 : decode cX11_shelved 1 = .ok (.getfield 42, 3) := by decide +kernel
theorem dX11_shelved_4 : decode cX11_shelved 4 = .ok (.invokevirtual 159, 3) := by decide +kernel
theorem dX11_shelved_7 : decode cX11_shelved 7 = .ok (.ifCond .eq 12, 3) := by decide +kernel
theorem dX11_shelved_10 : decode cX11_shelved 10 = .ok (.iload_n 1, 1) := by decide +kernel
theorem dX11_shelved_11 : decode cX11_shelved 11 = .ok (.iconst 0, 1) := by decide +kernel
theorem dX11_shelved_12 : decode cX11_shelved 12 = .ok (.iconst 1, 1) := by decide +kernel
theorem dX11_shelved_13 : decode cX11_shelved 13 = .ok (.invokestatic 239, 3) := by decide +kernel
theorem dX11_shelved_16 : decode cX11_shelved 16 = .ok (.ifCond .ne 5, 3) := by decide +kernel
theorem dX11_shelved_19 : decode cX11_shelved 19 = .ok (.iconst (-1), 1) := by decide +kernel
theorem dX11_shelved_20 : decode cX11_shelved 20 = .ok (.ireturn, 1) := by decide +kernel
theorem dX11_shelved_21 : decode cX11_shelved 21 = .ok (.aload_n 0, 1) := by decide +kernel
theorem dX11_shelved_22 : decode cX11_shelved 22 = .ok (.getfield 86, 3) := by decide +kernel
theorem dX11_shelved_25 : decode cX11_shelved 25 = .ok (.aload_n 0, 1) := by decide +kernel
theorem dX11_shelved_26 : decode cX11_shelved 26 = .ok (.getfield 49, 3) := by decide +kernel
theorem dX11_shelved_29 : decode cX11_shelved 29 = .ok (.invokevirtual 300, 3) := by decide +kernel
theorem dX11_shelved_32 : decode cX11_shelved 32 = .ok (.aload_n 0, 1) := by decide +kernel
theorem dX11_shelved_33 : decode cX11_shelved 33 = .ok (.getfield 86, 3) := by decide +kernel
theorem dX11_shelved_36 : decode cX11_shelved 36 = .ok (.aload_n 0, 1) := by decide +kernel
theorem dX11_shelved_37 : decode cX11_shelved 37 = .ok (.getfield 42, 3) := by decide +kernel
theorem dX11_shelved_40 : decode cX11_shelved 40 = .ok (.iconst 1, 1) := by decide +kernel
theorem dX11_shelved_41 : decode cX11_shelved 41 = .ok (.invokevirtual 166, 3) := by decide +kernel
theorem dX11_shelved_44 : decode cX11_shelved 44 = .ok (.aload_n 0, 1) := by decide +kernel
theorem dX11_shelved_45 : decode cX11_shelved 45 = .ok (.getfield 42, 3) := by decide +kernel
theorem dX11_shelved_48 : decode cX11_shelved 48 = .ok (.iconst 0, 1) := by decide +kernel
theorem dX11_shelved_49 : decode cX11_shelved 49 = .ok (.invokevirtual 166, 3) := by decide +kernel
theorem dX11_shelved_52 : decode cX11_shelved 52 = .ok (.invokevirtual 303, 3) := by decide +kernel
theorem dX11_shelved_55 : decode cX11_shelved 55 = .ok (.istore_n 2, 1) := by decide +kernel
theorem dX11_shelved_56 : decode cX11_shelved 56 = .ok (.iload_n 1, 1) := by decide +kernel
theorem dX11_shelved_57 : decode cX11_shelved 57 = .ok (.iconst 1, 1) := by decide +kernel
theorem dX11_shelved_58 : decode cX11_shelved 58 = .ok (.if_icmp .eq 8, 3) := by decide +kernel
theorem dX11_shelved_61 : decode cX11_shelved 61 = .ok (.iload_n 2, 1) := by decide +kernel
theorem dX11_shelved_62 : decode cX11_shelved 62 = .ok (.iconst (-1), 1) := by decide +kernel
theorem dX11_shelved_63 : decode cX11_shelved 63 = .ok (.if_icmp .ne 7, 3) := by decide +kernel
theorem dX11_shelved_66 : decode cX11_shelved 66 = .ok (.iload_n 2, 1) := by decide +kernel
theorem dX11_shelved_67 : decode cX11_shelved 67 = .ok (.goto 10, 3) := by decide +kernel
theorem dX11_shelved_70 : decode cX11_shelved 70 = .ok (.aload_n 0, 1) := by decide +kernel
theorem dX11_shelved_71 : decode cX11_shelved 71 = .ok (.getfield 86, 3) := by decide +kernel
theorem dX11_shelved_74 : decode cX11_shelved 74 = .ok (.invokevirtual 306, 3) := by decide +kernel
theorem dX11_shelved_77 : decode cX11_shelved 77 = .ok (.ireturn, 1) := by decide +kernel
theorem dX11_sets_0 : decode cX11_sets 0 = .ok (.aload_n 0, 1) := by decide +kernel
theorem dX11_sets_1 : decode cX11_sets 1 = .ok (.getfield 49, 3) := by decide +kernel
theorem dX11_sets_4 : decode cX11_sets 4 = .ok (.iload_n 1, 1) := by decide +kernel
theorem dX11_sets_5 : decode cX11_sets 5 = .ok (.invokevirtual 169, 3) := by decide +kernel
theorem dX11_sets_8 : decode cX11_sets 8 = .ok (.ifCond .eq 19, 3) := by decide +kernel
theorem dX11_sets_11 : decode cX11_sets 11 = .ok (.aload_n 0, 1) := by decide +kernel
theorem dX11_sets_12 : decode cX11_sets 12 = .ok (.getfield 49, 3) := by decide +kernel
theorem dX11_sets_15 : decode cX11_sets 15 = .ok (.iload_n 2, 1) := by decide +kernel
theorem dX11_sets_16 : decode cX11_sets 16 = .ok (.invokevirtual 169, 3) := by decide +kernel
theorem dX11_sets_19 : decode cX11_sets 19 = .ok (.ifCond .eq 8, 3) := by decide +kernel
theorem dX11_sets_22 : decode cX11_sets 22 = .ok (.iload_n 1, 1) := by decide +kernel
theorem dX11_sets_23 : decode cX11_sets 23 = .ok (.iload_n 2, 1) := by decide +kernel
theorem dX11_sets_24 : decode cX11_sets 24 = .ok (.if_icmp .ne 5, 3) := by decide +kernel
theorem dX11_sets_27 : decode cX11_sets 27 = .ok (.iconst (-1), 1) := by decide +kernel
theorem dX11_sets_28 : decode cX11_sets 28 = .ok (.ireturn, 1) := by decide +kernel
theorem dX11_sets_29 : decode cX11_sets 29 = .ok (.aload_n 0, 1) := by decide +kernel
theorem dX11_sets_30 : decode cX11_sets 30 = .ok (.getfield 49, 3) := by decide +kernel
theorem dX11_sets_33 : decode cX11_sets 33 = .ok (.iload_n 1, 1) := by decide +kernel
theorem dX11_sets_34 : decode cX11_sets 34 = .ok (.iload_n 2, 1) := by decide +kernel
theorem dX11_sets_35 : decode cX11_sets 35 = .ok (.invokevirtual 309, 3) := by decide +kernel
theorem dX11_sets_38 : decode cX11_sets 38 = .ok (.ifCond .eq 7, 3) := by decide +kernel
theorem dX11_sets_41 : decode cX11_sets 41 = .ok (.iconst 1, 1) := by decide +kernel
theorem dX11_sets_42 : decode cX11_sets 42 = .ok (.goto 4, 3) := by decide +kernel
theorem dX11_sets_45 : decode cX11_sets 45 = .ok (.iconst 0, 1) := by decide +kernel
theorem dX11_sets_46 : decode cX11_sets 46 = .ok (.ireturn, 1) := by decide +kernel
theorem dX11_apart_0 : decode cX11_apart 0 = .ok (.aload_n 0, 1) := by decide +kernel
theorem dX11_apart_1 : decode cX11_apart 1 = .ok (.getfield 42, 3) := by decide +kernel
theorem dX11_apart_4 : decode cX11_apart 4 = .ok (.invokevirtual 159, 3) := by decide +kernel
theorem dX11_apart_7 : decode cX11_apart 7 = .ok (.ifCond .eq 12, 3) := by decide +kernel
theorem dX11_apart_10 : decode cX11_apart 10 = .ok (.iload_n 1, 1) := by decide +kernel
theorem dX11_apart_11 : decode cX11_apart 11 = .ok (.iconst 0, 1) := by decide +kernel
theorem dX11_apart_12 : decode cX11_apart 12 = .ok (.iconst 1, 1) := by decide +kernel
theorem dX11_apart_13 : decode cX11_apart 13 = .ok (.invokestatic 239, 3) := by decide +kernel
theorem dX11_apart_16 : decode cX11_apart 16 = .ok (.ifCond .ne 5, 3) := by decide +kernel
theorem dX11_apart_19 : decode cX11_apart 19 = .ok (.iconst (-1), 1) := by decide +kernel
theorem dX11_apart_20 : decode cX11_apart 20 = .ok (.ireturn, 1) := by decide +kernel
theorem dX11_apart_21 : decode cX11_apart 21 = .ok (.aload_n 0, 1) := by decide +kernel
theorem dX11_apart_22 : decode cX11_apart 22 = .ok (.getfield 86, 3) := by decide +kernel
theorem dX11_apart_25 : decode cX11_apart 25 = .ok (.aload_n 0, 1) := by decide +kernel
theorem dX11_apart_26 : decode cX11_apart 26 = .ok (.getfield 49, 3) := by decide +kernel
theorem dX11_apart_29 : decode cX11_apart 29 = .ok (.invokevirtual 300, 3) := by decide +kernel
theorem dX11_apart_32 : decode cX11_apart 32 = .ok (.aload_n 0, 1) := by decide +kernel
theorem dX11_apart_33 : decode cX11_apart 33 = .ok (.getfield 86, 3) := by decide +kernel
theorem dX11_apart_36 : decode cX11_apart 36 = .ok (.invokevirtual 313, 3) := by decide +kernel
theorem dX11_apart_39 : decode cX11_apart 39 = .ok (.istore_n 2, 1) := by decide +kernel
theorem dX11_apart_40 : decode cX11_apart 40 = .ok (.iload_n 1, 1) := by decide +kernel
theorem dX11_apart_41 : decode cX11_apart 41 = .ok (.iconst 1, 1) := by decide +kernel
theorem dX11_apart_42 : decode cX11_apart 42 = .ok (.if_icmp .ne 7, 3) := by decide +kernel
theorem dX11_apart_45 : decode cX11_apart 45 = .ok (.iload_n 2, 1) := by decide +kernel
theorem dX11_apart_46 : decode cX11_apart 46 = .ok (.goto 10, 3) := by decide +kernel
theorem dX11_apart_49 : decode cX11_apart 49 = .ok (.aload_n 0, 1) := by decide +kernel
theorem dX11_apart_50 : decode cX11_apart 50 = .ok (.getfield 86, 3) := by decide +kernel
theorem dX11_apart_53 : decode cX11_apart 53 = .ok (.invokevirtual 306, 3) := by decide +kernel
theorem dX11_apart_56 : decode cX11_apart 56 = .ok (.ireturn, 1) := by decide +kernel
theorem dX11_roar_0 : decode cX11_roar 0 = .ok (.aload_n 0, 1) := by decide +kernel
theorem dX11_roar_1 : decode cX11_roar 1 = .ok (.getfield 42, 3) := by decide +kernel
theorem dX11_roar_4 : decode cX11_roar 4 = .ok (.invokevirtual 159, 3) := by decide +kernel
theorem dX11_roar_7 : decode cX11_roar 7 = .ok (.ifCond .eq 13, 3) := by decide +kernel
theorem dX11_roar_10 : decode cX11_roar 10 = .ok (.aload_n 0, 1) := by decide +kernel
theorem dX11_roar_11 : decode cX11_roar 11 = .ok (.getfield 49, 3) := by decide +kernel
theorem dX11_roar_14 : decode cX11_roar 14 = .ok (.invokevirtual 316, 3) := by decide +kernel
theorem dX11_roar_17 : decode cX11_roar 17 = .ok (.goto 4, 3) := by decide +kernel
theorem dX11_roar_20 : decode cX11_roar 20 = .ok (.iconst (-1), 1) := by decide +kernel
theorem dX11_roar_21 : decode cX11_roar 21 = .ok (.ireturn, 1) := by decide +kernel
theorem dX11_seen_0 : decode cX11_seen 0 = .ok (.aload_n 0, 1) := by decide +kernel
theorem dX11_seen_1 : decode cX11_seen 1 = .ok (.getfield 42, 3) := by decide +kernel
theorem dX11_seen_4 : decode cX11_seen 4 = .ok (.iload_n 1, 1) := by decide +kernel
theorem dX11_seen_5 : decode cX11_seen 5 = .ok (.invokevirtual 319, 3) := by decide +kernel
theorem dX11_seen_8 : decode cX11_seen 8 = .ok (.ifCond .eq 23, 3) := by decide +kernel
theorem dX11_seen_11 : decode cX11_seen 11 = .ok (.iload_n 2, 1) := by decide +kernel
theorem dX11_seen_12 : decode cX11_seen 12 = .ok (.iconst 1, 1) := by decide +kernel
theorem dX11_seen_13 : decode cX11_seen 13 = .ok (.bipush 9, 2) := by decide +kernel
theorem dX11_seen_15 : decode cX11_seen 15 = .ok (.invokestatic 239, 3) := by decide +kernel
theorem dX11_seen_18 : decode cX11_seen 18 = .ok (.ifCond .eq 13, 3) := by decide +kernel
theorem dX11_seen_21 : decode cX11_seen 21 = .ok (.iload_n 3, 1) := by decide +kernel
theorem dX11_seen_22 : decode cX11_seen 22 = .ok (.iconst 0, 1) := by decide +kernel
theorem dX11_seen_23 : decode cX11_seen 23 = .ok (.bipush 99, 2) := by decide +kernel
theorem dX11_seen_25 : decode cX11_seen 25 = .ok (.invokestatic 239, 3) := by decide +kernel
theorem dX11_seen_28 : decode cX11_seen 28 = .ok (.ifCond .ne 5, 3) := by decide +kernel
theorem dX11_seen_31 : decode cX11_seen 31 = .ok (.iconst (-1), 1) := by decide +kernel
theorem dX11_seen_32 : decode cX11_seen 32 = .ok (.ireturn, 1) := by decide +kernel
theorem dX11_seen_33 : decode cX11_seen 33 = .ok (.aload_n 0, 1) := by decide +kernel
theorem dX11_seen_34 : decode cX11_seen 34 = .ok (.getfield 79, 3) := by decide +kernel
theorem dX11_seen_37 : decode cX11_seen 37 = .ok (.iload_n 1, 1) := by decide +kernel
theorem dX11_seen_38 : decode cX11_seen 38 = .ok (.iload_n 2, 1) := by decide +kernel
theorem dX11_seen_39 : decode cX11_seen 39 = .ok (.iload_n 3, 1) := by decide +kernel
theorem dX11_seen_40 : decode cX11_seen 40 = .ok (.iload 4, 2) := by decide +kernel
theorem dX11_seen_42 : decode cX11_seen 42 = .ok (.invokevirtual 322, 3) := by decide +kernel
theorem dX11_seen_45 : decode cX11_seen 45 = .ok (.ireturn, 1) := by decide +kernel
theorem dX11_sizes_0 : decode cX11_sizes 0 = .ok (.aload_n 0, 1) := by decide +kernel
theorem dX11_sizes_1 : decode cX11_sizes 1 = .ok (.getfield 42, 3) := by decide +kernel
theorem dX11_sizes_4 : decode cX11_sizes 4 = .ok (.iload_n 1, 1) := by decide +kernel
theorem dX11_sizes_5 : decode cX11_sizes 5 = .ok (.invokevirtual 319, 3) := by decide +kernel
theorem dX11_sizes_8 : decode cX11_sizes 8 = .ok (.ifCond .eq 8, 3) := by decide +kernel
theorem dX11_sizes_11 : decode cX11_sizes 11 = .ok (.iload_n 2, 1) := by decide +kernel
theorem dX11_sizes_12 : decode cX11_sizes 12 = .ok (.iconst (-1), 1) := by decide +kernel
theorem dX11_sizes_13 : decode cX11_sizes 13 = .ok (.if_icmp .ge 5, 3) := by decide +kernel
theorem dX11_sizes_16 : decode cX11_sizes 16 = .ok (.iconst (-1), 1) := by decide +kernel
theorem dX11_sizes_17 : decode cX11_sizes 17 = .ok (.ireturn, 1) := by decide +kernel
theorem dX11_sizes_18 : decode cX11_sizes 18 = .ok (.aload_n 0, 1) := by decide +kernel
theorem dX11_sizes_19 : decode cX11_sizes 19 = .ok (.getfield 79, 3) := by decide +kernel
theorem dX11_sizes_22 : decode cX11_sizes 22 = .ok (.iload_n 1, 1) := by decide +kernel
theorem dX11_sizes_23 : decode cX11_sizes 23 = .ok (.iload_n 2, 1) := by decide +kernel
theorem dX11_sizes_24 : decode cX11_sizes 24 = .ok (.invokevirtual 325, 3) := by decide +kernel
theorem dX11_sizes_27 : decode cX11_sizes 27 = .ok (.ireturn, 1) := by decide +kernel
theorem dX11_ask_0 : decode cX11_ask 0 = .ok (.aload_n 0, 1) := by decide +kernel
theorem dX11_ask_1 : decode cX11_ask 1 = .ok (.getfield 42, 3) := by decide +kernel
theorem dX11_ask_4 : decode cX11_ask 4 = .ok (.iload_n 1, 1) := by decide +kernel
theorem dX11_ask_5 : decode cX11_ask 5 = .ok (.invokevirtual 319, 3) := by decide +kernel
theorem dX11_ask_8 : decode cX11_ask 8 = .ok (.ifCond .eq 13, 3) := by decide +kernel
theorem dX11_ask_11 : decode cX11_ask 11 = .ok (.iload_n 2, 1) := by decide +kernel
theorem dX11_ask_12 : decode cX11_ask 12 = .ok (.iconst 1, 1) := by decide +kernel
theorem dX11_ask_13 : decode cX11_ask 13 = .ok (.bipush 9, 2) := by decide +kernel
theorem dX11_ask_15 : decode cX11_ask 15 = .ok (.invokestatic 239, 3) := by decide +kernel
theorem dX11_ask_18 : decode cX11_ask 18 = .ok (.ifCond .ne 5, 3) := by decide +kernel
theorem dX11_ask_21 : decode cX11_ask 21 = .ok (.iconst (-1), 1) := by decide +kernel
theorem dX11_ask_22 : decode cX11_ask 22 = .ok (.ireturn, 1) := by decide +kernel
theorem dX11_ask_23 : decode cX11_ask 23 = .ok (.aload_n 0, 1) := by decide +kernel
theorem dX11_ask_24 : decode cX11_ask 24 = .ok (.getfield 79, 3) := by decide +kernel
theorem dX11_ask_27 : decode cX11_ask 27 = .ok (.iload_n 1, 1) := by decide +kernel
theorem dX11_ask_28 : decode cX11_ask 28 = .ok (.iload_n 2, 1) := by decide +kernel
theorem dX11_ask_29 : decode cX11_ask 29 = .ok (.invokevirtual 328, 3) := by decide +kernel
theorem dX11_ask_32 : decode cX11_ask 32 = .ok (.ireturn, 1) := by decide +kernel
theorem dX11_sale_0 : decode cX11_sale 0 = .ok (.aload_n 0, 1) := by decide +kernel
theorem dX11_sale_1 : decode cX11_sale 1 = .ok (.getfield 42, 3) := by decide +kernel
theorem dX11_sale_4 : decode cX11_sale 4 = .ok (.invokevirtual 159, 3) := by decide +kernel
theorem dX11_sale_7 : decode cX11_sale 7 = .ok (.ifCond .eq 25, 3) := by decide +kernel
theorem dX11_sale_10 : decode cX11_sale 10 = .ok (.iload_n 1, 1) := by decide +kernel
theorem dX11_sale_11 : decode cX11_sale 11 = .ok (.iconst 1, 1) := by decide +kernel
theorem dX11_sale_12 : decode cX11_sale 12 = .ok (.sipush 400, 3) := by decide +kernel
theorem dX11_sale_15 : decode cX11_sale 15 = .ok (.invokestatic 239, 3) := by decide +kernel
theorem dX11_sale_18 : decode cX11_sale 18 = .ok (.ifCond .eq 14, 3) := by decide +kernel
theorem dX11_sale_21 : decode cX11_sale 21 = .ok (.aload_n 0, 1) := by decide +kernel
theorem dX11_sale_22 : decode cX11_sale 22 = .ok (.getfield 49, 3) := by decide +kernel
theorem dX11_sale_25 : decode cX11_sale 25 = .ok (.iload_n 1, 1) := by decide +kernel
theorem dX11_sale_26 : decode cX11_sale 26 = .ok (.invokevirtual 331, 3) := by decide +kernel
theorem dX11_sale_29 : decode cX11_sale 29 = .ok (.goto 4, 3) := by decide +kernel
theorem dX11_sale_32 : decode cX11_sale 32 = .ok (.iconst (-1), 1) := by decide +kernel
theorem dX11_sale_33 : decode cX11_sale 33 = .ok (.ireturn, 1) := by decide +kernel
theorem dX11_game_0 : decode cX11_game 0 = .ok (.aload_n 0, 1) := by decide +kernel
theorem dX11_game_1 : decode cX11_game 1 = .ok (.getfield 49, 3) := by decide +kernel
theorem dX11_game_4 : decode cX11_game 4 = .ok (.iload_n 1, 1) := by decide +kernel
theorem dX11_game_5 : decode cX11_game 5 = .ok (.invokevirtual 169, 3) := by decide +kernel
theorem dX11_game_8 : decode cX11_game 8 = .ok (.ifCond .eq 31, 3) := by decide +kernel
theorem dX11_game_11 : decode cX11_game 11 = .ok (.iload_n 2, 1) := by decide +kernel
theorem dX11_game_12 : decode cX11_game 12 = .ok (.iconst 0, 1) := by decide +kernel
theorem dX11_game_13 : decode cX11_game 13 = .ok (.iconst 3, 1) := by decide +kernel
theorem dX11_game_14 : decode cX11_game 14 = .ok (.invokestatic 239, 3) := by decide +kernel
theorem dX11_game_17 : decode cX11_game 17 = .ok (.ifCond .eq 22, 3) := by decide +kernel
theorem dX11_game_20 : decode cX11_game 20 = .ok (.iload_n 3, 1) := by decide +kernel
theorem dX11_game_21 : decode cX11_game 21 = .ok (.iconst 0, 1) := by decide +kernel
theorem dX11_game_22 : decode cX11_game 22 = .ok (.iconst 3, 1) := by decide +kernel
theorem dX11_game_23 : decode cX11_game 23 = .ok (.invokestatic 239, 3) := by decide +kernel
theorem dX11_game_26 : decode cX11_game 26 = .ok (.ifCond .eq 13, 3) := by decide +kernel
theorem dX11_game_29 : decode cX11_game 29 = .ok (.iload 4, 2) := by decide +kernel
theorem dX11_game_31 : decode cX11_game 31 = .ok (.iconst 0, 1) := by decide +kernel
theorem dX11_game_32 : decode cX11_game 32 = .ok (.iconst 1, 1) := by decide +kernel
theorem dX11_game_33 : decode cX11_game 33 = .ok (.invokestatic 239, 3) := by decide +kernel
theorem dX11_game_36 : decode cX11_game 36 = .ok (.ifCond .ne 6, 3) := by decide +kernel
theorem dX11_game_39 : decode cX11_game 39 = .ok (.ldc 208, 2) := by decide +kernel
theorem dX11_game_41 : decode cX11_game 41 = .ok (.ireturn, 1) := by decide +kernel
theorem dX11_game_42 : decode cX11_game 42 = .ok (.aload_n 0, 1) := by decide +kernel
theorem dX11_game_43 : decode cX11_game 43 = .ok (.getfield 72, 3) := by decide +kernel
theorem dX11_game_46 : decode cX11_game 46 = .ok (.aload_n 0, 1) := by decide +kernel
theorem dX11_game_47 : decode cX11_game 47 = .ok (.getfield 49, 3) := by decide +kernel
theorem dX11_game_50 : decode cX11_game 50 = .ok (.iload_n 1, 1) := by decide +kernel
theorem dX11_game_51 : decode cX11_game 51 = .ok (.iload_n 2, 1) := by decide +kernel
theorem dX11_game_52 : decode cX11_game 52 = .ok (.iload_n 3, 1) := by decide +kernel
theorem dX11_game_53 : decode cX11_game 53 = .ok (.invokevirtual 334, 3) := by decide +kernel
theorem dX11_game_56 : decode cX11_game 56 = .ok (.aload_n 0, 1) := by decide +kernel
theorem dX11_game_57 : decode cX11_game 57 = .ok (.getfield 72, 3) := by decide +kernel
theorem dX11_game_60 : decode cX11_game 60 = .ok (.iload_n 2, 1) := by decide +kernel
theorem dX11_game_61 : decode cX11_game 61 = .ok (.iload_n 3, 1) := by decide +kernel
theorem dX11_game_62 : decode cX11_game 62 = .ok (.iload 4, 2) := by decide +kernel
theorem dX11_game_64 : decode cX11_game 64 = .ok (.invokevirtual 338, 3) := by decide +kernel
theorem dX11_game_67 : decode cX11_game 67 = .ok (.ireturn, 1) := by decide +kernel
theorem dX11_rests_0 : decode cX11_rests 0 = .ok (.aload_n 0, 1) := by decide +kernel
theorem dX11_rests_1 : decode cX11_rests 1 = .ok (.getfield 49, 3) := by decide +kernel
theorem dX11_rests_4 : decode cX11_rests 4 = .ok (.iload_n 1, 1) := by decide +kernel
theorem dX11_rests_5 : decode cX11_rests 5 = .ok (.invokevirtual 169, 3) := by decide +kernel
theorem dX11_rests_8 : decode cX11_rests 8 = .ok (.ifCond .eq 8, 3) := by decide +kernel
theorem dX11_rests_11 : decode cX11_rests 11 = .ok (.iload_n 2, 1) := by decide +kernel
theorem dX11_rests_12 : decode cX11_rests 12 = .ok (.iconst (-1), 1) := by decide +kernel
theorem dX11_rests_13 : decode cX11_rests 13 = .ok (.if_icmp .ge 7, 3) := by decide +kernel
theorem dX11_rests_16 : decode cX11_rests 16 = .ok (.iconst (-1), 1) := by decide +kernel
theorem dX11_rests_17 : decode cX11_rests 17 = .ok (.goto 16, 3) := by decide +kernel
theorem dX11_rests_20 : decode cX11_rests 20 = .ok (.aload_n 0, 1) := by decide +kernel
theorem dX11_rests_21 : decode cX11_rests 21 = .ok (.getfield 72, 3) := by decide +kernel
theorem dX11_rests_24 : decode cX11_rests 24 = .ok (.aload_n 0, 1) := by decide +kernel
theorem dX11_rests_25 : decode cX11_rests 25 = .ok (.getfield 49, 3) := by decide +kernel
theorem dX11_rests_28 : decode cX11_rests 28 = .ok (.iload_n 1, 1) := by decide +kernel
theorem dX11_rests_29 : decode cX11_rests 29 = .ok (.iload_n 2, 1) := by decide +kernel
theorem dX11_rests_30 : decode cX11_rests 30 = .ok (.invokevirtual 341, 3) := by decide +kernel
theorem dX11_rests_33 : decode cX11_rests 33 = .ok (.ireturn, 1) := by decide +kernel
theorem dX11_odds_0 : decode cX11_odds 0 = .ok (.aload_n 0, 1) := by decide +kernel
theorem dX11_odds_1 : decode cX11_odds 1 = .ok (.getfield 49, 3) := by decide +kernel
theorem dX11_odds_4 : decode cX11_odds 4 = .ok (.iload_n 1, 1) := by decide +kernel
theorem dX11_odds_5 : decode cX11_odds 5 = .ok (.invokevirtual 169, 3) := by decide +kernel
theorem dX11_odds_8 : decode cX11_odds 8 = .ok (.ifCond .eq 34, 3) := by decide +kernel
theorem dX11_odds_11 : decode cX11_odds 11 = .ok (.iload_n 2, 1) := by decide +kernel
theorem dX11_odds_12 : decode cX11_odds 12 = .ok (.iconst 0, 1) := by decide +kernel
theorem dX11_odds_13 : decode cX11_odds 13 = .ok (.bipush 6, 2) := by decide +kernel
theorem dX11_odds_15 : decode cX11_odds 15 = .ok (.invokestatic 239, 3) := by decide +kernel
theorem dX11_odds_18 : decode cX11_odds 18 = .ok (.ifCond .eq 24, 3) := by decide +kernel
theorem dX11_odds_21 : decode cX11_odds 21 = .ok (.iload_n 3, 1) := by decide +kernel
theorem dX11_odds_22 : decode cX11_odds 22 = .ok (.iconst 0, 1) := by decide +kernel
theorem dX11_odds_23 : decode cX11_odds 23 = .ok (.bipush 99, 2) := by decide +kernel
theorem dX11_odds_25 : decode cX11_odds 25 = .ok (.invokestatic 239, 3) := by decide +kernel
theorem dX11_odds_28 : decode cX11_odds 28 = .ok (.ifCond .eq 14, 3) := by decide +kernel
theorem dX11_odds_31 : decode cX11_odds 31 = .ok (.iload 4, 2) := by decide +kernel
theorem dX11_odds_33 : decode cX11_odds 33 = .ok (.iconst 0, 1) := by decide +kernel
theorem dX11_odds_34 : decode cX11_odds 34 = .ok (.bipush 100, 2) := by decide +kernel
theorem dX11_odds_36 : decode cX11_odds 36 = .ok (.invokestatic 239, 3) := by decide +kernel
theorem dX11_odds_39 : decode cX11_odds 39 = .ok (.ifCond .ne 5, 3) := by decide +kernel
theorem dX11_odds_42 : decode cX11_odds 42 = .ok (.iconst (-1), 1) := by decide +kernel
theorem dX11_odds_43 : decode cX11_odds 43 = .ok (.ireturn, 1) := by decide +kernel
theorem dX11_odds_44 : decode cX11_odds 44 = .ok (.aload_n 0, 1) := by decide +kernel
theorem dX11_odds_45 : decode cX11_odds 45 = .ok (.getfield 72, 3) := by decide +kernel
theorem dX11_odds_48 : decode cX11_odds 48 = .ok (.aload_n 0, 1) := by decide +kernel
theorem dX11_odds_49 : decode cX11_odds 49 = .ok (.getfield 49, 3) := by decide +kernel
theorem dX11_odds_52 : decode cX11_odds 52 = .ok (.iload_n 1, 1) := by decide +kernel
theorem dX11_odds_53 : decode cX11_odds 53 = .ok (.iload_n 2, 1) := by decide +kernel
theorem dX11_odds_54 : decode cX11_odds 54 = .ok (.iload_n 3, 1) := by decide +kernel
theorem dX11_odds_55 : decode cX11_odds 55 = .ok (.iload 4, 2) := by decide +kernel
theorem dX11_odds_57 : decode cX11_odds 57 = .ok (.invokevirtual 344, 3) := by decide +kernel
theorem dX11_odds_60 : decode cX11_odds 60 = .ok (.ireturn, 1) := by decide +kernel
theorem dX11_shares_0 : decode cX11_shares 0 = .ok (.aload_n 0, 1) := by decide +kernel
theorem dX11_shares_1 : decode cX11_shares 1 = .ok (.getfield 49, 3) := by decide +kernel
theorem dX11_shares_4 : decode cX11_shares 4 = .ok (.iload_n 1, 1) := by decide +kernel
theorem dX11_shares_5 : decode cX11_shares 5 = .ok (.invokevirtual 169, 3) := by decide +kernel
theorem dX11_shares_8 : decode cX11_shares 8 = .ok (.ifCond .eq 14, 3) := by decide +kernel
theorem dX11_shares_11 : decode cX11_shares 11 = .ok (.iload_n 2, 1) := by decide +kernel
theorem dX11_shares_12 : decode cX11_shares 12 = .ok (.iconst 0, 1) := by decide +kernel
theorem dX11_shares_13 : decode cX11_shares 13 = .ok (.sipush 999, 3) := by decide +kernel
theorem dX11_shares_16 : decode cX11_shares 16 = .ok (.invokestatic 239, 3) := by decide +kernel
theorem dX11_shares_19 : decode cX11_shares 19 = .ok (.ifCond .ne 5, 3) := by decide +kernel
theorem dX11_shares_22 : decode cX11_shares 22 = .ok (.iconst (-1), 1) := by decide +kernel
theorem dX11_shares_23 : decode cX11_shares 23 = .ok (.ireturn, 1) := by decide +kernel
theorem dX11_shares_24 : decode cX11_shares 24 = .ok (.aload_n 0, 1) := by decide +kernel
theorem dX11_shares_25 : decode cX11_shares 25 = .ok (.getfield 49, 3) := by decide +kernel
theorem dX11_shares_28 : decode cX11_shares 28 = .ok (.invokevirtual 222, 3) := by decide +kernel
theorem dX11_shares_31 : decode cX11_shares 31 = .ok (.istore_n 3, 1) := by decide +kernel
theorem dX11_shares_32 : decode cX11_shares 32 = .ok (.iload_n 3, 1) := by decide +kernel
theorem dX11_shares_33 : decode cX11_shares 33 = .ok (.iconst 1, 1) := by decide +kernel
theorem dX11_shares_34 : decode cX11_shares 34 = .ok (.if_icmp .ge 7, 3) := by decide +kernel
theorem dX11_shares_37 : decode cX11_shares 37 = .ok (.iconst (-1), 1) := by decide +kernel
theorem dX11_shares_38 : decode cX11_shares 38 = .ok (.goto 16, 3) := by decide +kernel
theorem dX11_shares_41 : decode cX11_shares 41 = .ok (.iload_n 2, 1) := by decide +kernel
theorem dX11_shares_42 : decode cX11_shares 42 = .ok (.aload_n 0, 1) := by decide +kernel
theorem dX11_shares_43 : decode cX11_shares 43 = .ok (.getfield 49, 3) := by decide +kernel
theorem dX11_shares_46 : decode cX11_shares 46 = .ok (.iload_n 1, 1) := by decide +kernel
theorem dX11_shares_47 : decode cX11_shares 47 = .ok (.iconst 0, 1) := by decide +kernel
theorem dX11_shares_48 : decode cX11_shares 48 = .ok (.invokevirtual 179, 3) := by decide +kernel
theorem dX11_shares_51 : decode cX11_shares 51 = .ok (.imul, 1) := by decide +kernel
theorem dX11_shares_52 : decode cX11_shares 52 = .ok (.iload_n 3, 1) := by decide +kernel
theorem dX11_shares_53 : decode cX11_shares 53 = .ok (.idiv, 1) := by decide +kernel
theorem dX11_shares_54 : decode cX11_shares 54 = .ok (.ireturn, 1) := by decide +kernel
theorem dX11_most_0 : decode cX11_most 0 = .ok (.aload_n 0, 1) := by decide +kernel
theorem dX11_most_1 : decode cX11_most 1 = .ok (.getfield 42, 3) := by decide +kernel
theorem dX11_most_4 : decode cX11_most 4 = .ok (.invokevirtual 159, 3) := by decide +kernel
theorem dX11_most_7 : decode cX11_most 7 = .ok (.ifCond .ne 5, 3) := by decide +kernel
theorem dX11_most_10 : decode cX11_most 10 = .ok (.iconst (-1), 1) := by decide +kernel
theorem dX11_most_11 : decode cX11_most 11 = .ok (.ireturn, 1) := by decide +kernel
theorem dX11_most_12 : decode cX11_most 12 = .ok (.iload_n 1, 1) := by decide +kernel
theorem dX11_most_13 : decode cX11_most 13 = .ok (.tableswitch 145 0 12 #[67, 67, 67, 67, 73, 78, 86, 97, 108, 116, 121, 126, 137], 67) := by decide +kernel
theorem dX11_most_80 : decode cX11_most 80 = .ok (.aload_n 0, 1) := by decide +kernel
theorem dX11_most_81 : decode cX11_most 81 = .ok (.iload_n 1, 1) := by decide +kernel
theorem dX11_most_82 : decode cX11_most 82 = .ok (.invokevirtual 348, 3) := by decide +kernel
theorem dX11_most_85 : decode cX11_most 85 = .ok (.ireturn, 1) := by decide +kernel
theorem dX11_most_86 : decode cX11_most 86 = .ok (.aload_n 0, 1) := by decide +kernel
theorem dX11_most_87 : decode cX11_most 87 = .ok (.invokevirtual 351, 3) := by decide +kernel
theorem dX11_most_90 : decode cX11_most 90 = .ok (.ireturn, 1) := by decide +kernel
theorem dX11_most_91 : decode cX11_most 91 = .ok (.aload_n 0, 1) := by decide +kernel
theorem dX11_most_92 : decode cX11_most 92 = .ok (.getfield 49, 3) := by decide +kernel
theorem dX11_most_95 : decode cX11_most 95 = .ok (.invokevirtual 189, 3) := by decide +kernel
theorem dX11_most_98 : decode cX11_most 98 = .ok (.ireturn, 1) := by decide +kernel
theorem dX11_most_99 : decode cX11_most 99 = .ok (.aload_n 0, 1) := by decide +kernel
theorem dX11_most_100 : decode cX11_most 100 = .ok (.getfield 49, 3) := by decide +kernel
theorem dX11_most_103 : decode cX11_most 103 = .ok (.iconst 3, 1) := by decide +kernel
theorem dX11_most_104 : decode cX11_most 104 = .ok (.bipush 9, 2) := by decide +kernel
theorem dX11_most_106 : decode cX11_most 106 = .ok (.invokevirtual 354, 3) := by decide +kernel
theorem dX11_most_109 : decode cX11_most 109 = .ok (.ireturn, 1) := by decide +kernel
theorem dX11_most_110 : decode cX11_most 110 = .ok (.aload_n 0, 1) := by decide +kernel
theorem dX11_most_111 : decode cX11_most 111 = .ok (.getfield 49, 3) := by decide +kernel
theorem dX11_most_114 : decode cX11_most 114 = .ok (.bipush 6, 2) := by decide +kernel
theorem dX11_most_116 : decode cX11_most 116 = .ok (.iconst 1, 1) := by decide +kernel
theorem dX11_most_117 : decode cX11_most 117 = .ok (.invokevirtual 354, 3) := by decide +kernel
theorem dX11_most_120 : decode cX11_most 120 = .ok (.ireturn, 1) := by decide +kernel
theorem dX11_most_121 : decode cX11_most 121 = .ok (.aload_n 0, 1) := by decide +kernel
theorem dX11_most_122 : decode cX11_most 122 = .ok (.getfield 49, 3) := by decide +kernel
theorem dX11_most_125 : decode cX11_most 125 = .ok (.invokevirtual 222, 3) := by decide +kernel
theorem dX11_most_128 : decode cX11_most 128 = .ok (.ireturn, 1) := by decide +kernel
theorem dX11_most_129 : decode cX11_most 129 = .ok (.aload_n 0, 1) := by decide +kernel
theorem dX11_most_130 : decode cX11_most 130 = .ok (.invokevirtual 357, 3) := by decide +kernel
theorem dX11_most_133 : decode cX11_most 133 = .ok (.ireturn, 1) := by decide +kernel
theorem dX11_most_134 : decode cX11_most 134 = .ok (.aload_n 0, 1) := by decide +kernel
theorem dX11_most_135 : decode cX11_most 135 = .ok (.invokevirtual 360, 3) := by decide +kernel
theorem dX11_most_138 : decode cX11_most 138 = .ok (.ireturn, 1) := by decide +kernel
theorem dX11_most_139 : decode cX11_most 139 = .ok (.aload_n 0, 1) := by decide +kernel
theorem dX11_most_140 : decode cX11_most 140 = .ok (.getfield 49, 3) := by decide +kernel
theorem dX11_most_143 : decode cX11_most 143 = .ok (.iconst 5, 1) := by decide +kernel
theorem dX11_most_144 : decode cX11_most 144 = .ok (.bipush 7, 2) := by decide +kernel
theorem dX11_most_146 : decode cX11_most 146 = .ok (.invokevirtual 354, 3) := by decide +kernel
theorem dX11_most_149 : decode cX11_most 149 = .ok (.ireturn, 1) := by decide +kernel
theorem dX11_most_150 : decode cX11_most 150 = .ok (.aload_n 0, 1) := by decide +kernel
theorem dX11_most_151 : decode cX11_most 151 = .ok (.getfield 49, 3) := by decide +kernel
theorem dX11_most_154 : decode cX11_most 154 = .ok (.invokevirtual 363, 3) := by decide +kernel
theorem dX11_most_157 : decode cX11_most 157 = .ok (.ireturn, 1) := by decide +kernel
theorem dX11_most_158 : decode cX11_most 158 = .ok (.iconst (-1), 1) := by decide +kernel
theorem dX11_most_159 : decode cX11_most 159 = .ok (.ireturn, 1) := by decide +kernel
theorem dX11_leader_0 : decode cX11_leader 0 = .ok (.iconst (-1), 1) := by decide +kernel
theorem dX11_leader_1 : decode cX11_leader 1 = .ok (.istore_n 2, 1) := by decide +kernel
theorem dX11_leader_2 : decode cX11_leader 2 = .ok (.iconst 0, 1) := by decide +kernel
theorem dX11_leader_3 : decode cX11_leader 3 = .ok (.istore_n 3, 1) := by decide +kernel
theorem dX11_leader_4 : decode cX11_leader 4 = .ok (.iconst 0, 1) := by decide +kernel
theorem dX11_leader_5 : decode cX11_leader 5 = .ok (.istore 4, 2) := by decide +kernel
theorem dX11_leader_7 : decode cX11_leader 7 = .ok (.iload 4, 2) := by decide +kernel
theorem dX11_leader_9 : decode cX11_leader 9 = .ok (.bipush 8, 2) := by decide +kernel
theorem dX11_leader_11 : decode cX11_leader 11 = .ok (.if_icmp .ge 47, 3) := by decide +kernel
theorem dX11_leader_14 : decode cX11_leader 14 = .ok (.aload_n 0, 1) := by decide +kernel
theorem dX11_leader_15 : decode cX11_leader 15 = .ok (.getfield 49, 3) := by decide +kernel
theorem dX11_leader_18 : decode cX11_leader 18 = .ok (.iload 4, 2) := by decide +kernel
theorem dX11_leader_20 : decode cX11_leader 20 = .ok (.invokevirtual 169, 3) := by decide +kernel
theorem dX11_leader_23 : decode cX11_leader 23 = .ok (.ifCond .eq 29, 3) := by decide +kernel
theorem dX11_leader_26 : decode cX11_leader 26 = .ok (.aload_n 0, 1) := by decide +kernel
theorem dX11_leader_27 : decode cX11_leader 27 = .ok (.iload 4, 2) := by decide +kernel
theorem dX11_leader_29 : decode cX11_leader 29 = .ok (.iload_n 1, 1) := by decide +kernel
theorem dX11_leader_30 : decode cX11_leader 30 = .ok (.invokevirtual 366, 3) := by decide +kernel
theorem dX11_leader_33 : decode cX11_leader 33 = .ok (.istore 5, 2) := by decide +kernel
theorem dX11_leader_35 : decode cX11_leader 35 = .ok (.iload_n 2, 1) := by decide +kernel
theorem dX11_leader_36 : decode cX11_leader 36 = .ok (.iconst (-1), 1) := by decide +kernel
theorem dX11_leader_37 : decode cX11_leader 37 = .ok (.if_icmp .eq 9, 3) := by decide +kernel
theorem dX11_leader_40 : decode cX11_leader 40 = .ok (.iload 5, 2) := by decide +kernel
theorem dX11_leader_42 : decode cX11_leader 42 = .ok (.iload_n 3, 1) := by decide +kernel
theorem dX11_leader_43 : decode cX11_leader 43 = .ok (.if_icmp .le 9, 3) := by decide +kernel
theorem dX11_leader_46 : decode cX11_leader 46 = .ok (.iload 4, 2) := by decide +kernel
theorem dX11_leader_48 : decode cX11_leader 48 = .ok (.istore_n 2, 1) := by decide +kernel
theorem dX11_leader_49 : decode cX11_leader 49 = .ok (.iload 5, 2) := by decide +kernel
theorem dX11_leader_51 : decode cX11_leader 51 = .ok (.istore_n 3, 1) := by decide +kernel
theorem dX11_leader_52 : decode cX11_leader 52 = .ok (.iinc 4 1, 3) := by decide +kernel
theorem dX11_leader_55 : decode cX11_leader 55 = .ok (.goto (-48), 3) := by decide +kernel
theorem dX11_leader_58 : decode cX11_leader 58 = .ok (.iload_n 2, 1) := by decide +kernel
theorem dX11_leader_59 : decode cX11_leader 59 = .ok (.ireturn, 1) := by decide +kernel
theorem dX11_standing_0 : decode cX11_standing 0 = .ok (.iload_n 2, 1) := by decide +kernel
theorem dX11_standing_1 : decode cX11_standing 1 = .ok (.tableswitch 67 0 2 #[27, 37, 47], 27) := by decide +kernel
theorem dX11_standing_28 : decode cX11_standing 28 = .ok (.aload_n 0, 1) := by decide +kernel
theorem dX11_standing_29 : decode cX11_standing 29 = .ok (.getfield 49, 3) := by decide +kernel
theorem dX11_standing_32 : decode cX11_standing 32 = .ok (.iload_n 1, 1) := by decide +kernel
theorem dX11_standing_33 : decode cX11_standing 33 = .ok (.iconst 0, 1) := by decide +kernel
theorem dX11_standing_34 : decode cX11_standing 34 = .ok (.invokevirtual 179, 3) := by decide +kernel
theorem dX11_standing_37 : decode cX11_standing 37 = .ok (.ireturn, 1) := by decide +kernel
theorem dX11_standing_38 : decode cX11_standing 38 = .ok (.aload_n 0, 1) := by decide +kernel
theorem dX11_standing_39 : decode cX11_standing 39 = .ok (.getfield 49, 3) := by decide +kernel
theorem dX11_standing_42 : decode cX11_standing 42 = .ok (.iload_n 1, 1) := by decide +kernel
theorem dX11_standing_43 : decode cX11_standing 43 = .ok (.iconst 5, 1) := by decide +kernel
theorem dX11_standing_44 : decode cX11_standing 44 = .ok (.invokevirtual 179, 3) := by decide +kernel
theorem dX11_standing_47 : decode cX11_standing 47 = .ok (.ireturn, 1) := by decide +kernel
theorem dX11_standing_48 : decode cX11_standing 48 = .ok (.aload_n 0, 1) := by decide +kernel
theorem dX11_standing_49 : decode cX11_standing 49 = .ok (.getfield 49, 3) := by decide +kernel
theorem dX11_standing_52 : decode cX11_standing 52 = .ok (.iload_n 1, 1) := by decide +kernel
theorem dX11_standing_53 : decode cX11_standing 53 = .ok (.iconst 1, 1) := by decide +kernel
theorem dX11_standing_54 : decode cX11_standing 54 = .ok (.invokevirtual 179, 3) := by decide +kernel
theorem dX11_standing_57 : decode cX11_standing 57 = .ok (.aload_n 0, 1) := by decide +kernel
theorem dX11_standing_58 : decode cX11_standing 58 = .ok (.getfield 49, 3) := by decide +kernel
theorem dX11_standing_61 : decode cX11_standing 61 = .ok (.iload_n 1, 1) := by decide +kernel
theorem dX11_standing_62 : decode cX11_standing 62 = .ok (.iconst 2, 1) := by decide +kernel
theorem dX11_standing_63 : decode cX11_standing 63 = .ok (.invokevirtual 179, 3) := by decide +kernel
theorem dX11_standing_66 : decode cX11_standing 66 = .ok (.iadd, 1) := by decide +kernel
theorem dX11_standing_67 : decode cX11_standing 67 = .ok (.ireturn, 1) := by decide +kernel
theorem dX11_standing_68 : decode cX11_standing 68 = .ok (.aload_n 0, 1) := by decide +kernel
theorem dX11_standing_69 : decode cX11_standing 69 = .ok (.getfield 35, 3) := by decide +kernel
theorem dX11_standing_72 : decode cX11_standing 72 = .ok (.aload_n 0, 1) := by decide +kernel
theorem dX11_standing_73 : decode cX11_standing 73 = .ok (.getfield 49, 3) := by decide +kernel
theorem dX11_standing_76 : decode cX11_standing 76 = .ok (.iload_n 1, 1) := by decide +kernel
theorem dX11_standing_77 : decode cX11_standing 77 = .ok (.invokevirtual 175, 3) := by decide +kernel
theorem dX11_standing_80 : decode cX11_standing 80 = .ok (.ireturn, 1) := by decide +kernel
theorem dX11_fullest_0 : decode cX11_fullest 0 = .ok (.iconst 0, 1) := by decide +kernel
theorem dX11_fullest_1 : decode cX11_fullest 1 = .ok (.istore_n 1, 1) := by decide +kernel
theorem dX11_fullest_2 : decode cX11_fullest 2 = .ok (.iconst 1, 1) := by decide +kernel
theorem dX11_fullest_3 : decode cX11_fullest 3 = .ok (.istore_n 2, 1) := by decide +kernel
theorem dX11_fullest_4 : decode cX11_fullest 4 = .ok (.iload_n 2, 1) := by decide +kernel
theorem dX11_fullest_5 : decode cX11_fullest 5 = .ok (.aload_n 0, 1) := by decide +kernel
theorem dX11_fullest_6 : decode cX11_fullest 6 = .ok (.getfield 42, 3) := by decide +kernel
theorem dX11_fullest_9 : decode cX11_fullest 9 = .ok (.iconst 1, 1) := by decide +kernel
theorem dX11_fullest_10 : decode cX11_fullest 10 = .ok (.invokevirtual 166, 3) := by decide +kernel
theorem dX11_fullest_13 : decode cX11_fullest 13 = .ok (.if_icmp .ge 30, 3) := by decide +kernel
theorem dX11_fullest_16 : decode cX11_fullest 16 = .ok (.aload_n 0, 1) := by decide +kernel
theorem dX11_fullest_17 : decode cX11_fullest 17 = .ok (.getfield 49, 3) := by decide +kernel
theorem dX11_fullest_20 : decode cX11_fullest 20 = .ok (.iload_n 2, 1) := by decide +kernel
theorem dX11_fullest_21 : decode cX11_fullest 21 = .ok (.invokevirtual 186, 3) := by decide +kernel
theorem dX11_fullest_24 : decode cX11_fullest 24 = .ok (.aload_n 0, 1) := by decide +kernel
theorem dX11_fullest_25 : decode cX11_fullest 25 = .ok (.getfield 49, 3) := by decide +kernel
theorem dX11_fullest_28 : decode cX11_fullest 28 = .ok (.iload_n 1, 1) := by decide +kernel
theorem dX11_fullest_29 : decode cX11_fullest 29 = .ok (.invokevirtual 186, 3) := by decide +kernel
theorem dX11_fullest_32 : decode cX11_fullest 32 = .ok (.if_icmp .le 5, 3) := by decide +kernel
theorem dX11_fullest_35 : decode cX11_fullest 35 = .ok (.iload_n 2, 1) := by decide +kernel
theorem dX11_fullest_36 : decode cX11_fullest 36 = .ok (.istore_n 1, 1) := by decide +kernel
theorem dX11_fullest_37 : decode cX11_fullest 37 = .ok (.iinc 2 1, 3) := by decide +kernel
theorem dX11_fullest_40 : decode cX11_fullest 40 = .ok (.goto (-36), 3) := by decide +kernel
theorem dX11_fullest_43 : decode cX11_fullest 43 = .ok (.iload_n 1, 1) := by decide +kernel
theorem dX11_fullest_44 : decode cX11_fullest 44 = .ok (.ireturn, 1) := by decide +kernel
theorem dX11_roomLeft_0 : decode cX11_roomLeft 0 = .ok (.iconst 0, 1) := by decide +kernel
theorem dX11_roomLeft_1 : decode cX11_roomLeft 1 = .ok (.istore_n 1, 1) := by decide +kernel
theorem dX11_roomLeft_2 : decode cX11_roomLeft 2 = .ok (.iconst 0, 1) := by decide +kernel
theorem dX11_roomLeft_3 : decode cX11_roomLeft 3 = .ok (.istore_n 2, 1) := by decide +kernel
theorem dX11_roomLeft_4 : decode cX11_roomLeft 4 = .ok (.iload_n 2, 1) := by decide +kernel
theorem dX11_roomLeft_5 : decode cX11_roomLeft 5 = .ok (.aload_n 0, 1) := by decide +kernel
theorem dX11_roomLeft_6 : decode cX11_roomLeft 6 = .ok (.getfield 42, 3) := by decide +kernel
theorem dX11_roomLeft_9 : decode cX11_roomLeft 9 = .ok (.iconst 1, 1) := by decide +kernel
theorem dX11_roomLeft_10 : decode cX11_roomLeft 10 = .ok (.invokevirtual 166, 3) := by decide +kernel
theorem dX11_roomLeft_13 : decode cX11_roomLeft 13 = .ok (.if_icmp .ge 33, 3) := by decide +kernel
theorem dX11_roomLeft_16 : decode cX11_roomLeft 16 = .ok (.iload_n 1, 1) := by decide +kernel
theorem dX11_roomLeft_17 : decode cX11_roomLeft 17 = .ok (.iconst 0, 1) := by decide +kernel
theorem dX11_roomLeft_18 : decode cX11_roomLeft 18 = .ok (.aload_n 0, 1) := by decide +kernel
theorem dX11_roomLeft_19 : decode cX11_roomLeft 19 = .ok (.getfield 42, 3) := by decide +kernel
theorem dX11_roomLeft_22 : decode cX11_roomLeft 22 = .ok (.iconst 0, 1) := by decide +kernel
theorem dX11_roomLeft_23 : decode cX11_roomLeft 23 = .ok (.invokevirtual 166, 3) := by decide +kernel
theorem dX11_roomLeft_26 : decode cX11_roomLeft 26 = .ok (.aload_n 0, 1) := by decide +kernel
theorem dX11_roomLeft_27 : decode cX11_roomLeft 27 = .ok (.getfield 49, 3) := by decide +kernel
theorem dX11_roomLeft_30 : decode cX11_roomLeft 30 = .ok (.iload_n 2, 1) := by decide +kernel
theorem dX11_roomLeft_31 : decode cX11_roomLeft 31 = .ok (.invokevirtual 186, 3) := by decide +kernel
theorem dX11_roomLeft_34 : decode cX11_roomLeft 34 = .ok (.isub, 1) := by decide +kernel
theorem dX11_roomLeft_35 : decode cX11_roomLeft 35 = .ok (.invokestatic 369, 3) := by decide +kernel
theorem dX11_roomLeft_38 : decode cX11_roomLeft 38 = .ok (.iadd, 1) := by decide +kernel
theorem dX11_roomLeft_39 : decode cX11_roomLeft 39 = .ok (.istore_n 1, 1) := by decide +kernel
theorem dX11_roomLeft_40 : decode cX11_roomLeft 40 = .ok (.iinc 2 1, 3) := by decide +kernel
theorem dX11_roomLeft_43 : decode cX11_roomLeft 43 = .ok (.goto (-39), 3) := by decide +kernel
theorem dX11_roomLeft_46 : decode cX11_roomLeft 46 = .ok (.iload_n 1, 1) := by decide +kernel
theorem dX11_roomLeft_47 : decode cX11_roomLeft 47 = .ok (.ireturn, 1) := by decide +kernel
theorem dX11_allDue_0 : decode cX11_allDue 0 = .ok (.iconst 0, 1) := by decide +kernel
theorem dX11_allDue_1 : decode cX11_allDue 1 = .ok (.istore_n 1, 1) := by decide +kernel
theorem dX11_allDue_2 : decode cX11_allDue 2 = .ok (.iconst 0, 1) := by decide +kernel
theorem dX11_allDue_3 : decode cX11_allDue 3 = .ok (.istore_n 2, 1) := by decide +kernel
theorem dX11_allDue_4 : decode cX11_allDue 4 = .ok (.iload_n 2, 1) := by decide +kernel
theorem dX11_allDue_5 : decode cX11_allDue 5 = .ok (.bipush 8, 2) := by decide +kernel
theorem dX11_allDue_7 : decode cX11_allDue 7 = .ok (.if_icmp .ge 24, 3) := by decide +kernel
theorem dX11_allDue_10 : decode cX11_allDue 10 = .ok (.iload_n 1, 1) := by decide +kernel
theorem dX11_allDue_11 : decode cX11_allDue 11 = .ok (.aload_n 0, 1) := by decide +kernel
theorem dX11_allDue_12 : decode cX11_allDue 12 = .ok (.getfield 49, 3) := by decide +kernel
theorem dX11_allDue_15 : decode cX11_allDue 15 = .ok (.iload_n 2, 1) := by decide +kernel
theorem dX11_allDue_16 : decode cX11_allDue 16 = .ok (.aload_n 0, 1) := by decide +kernel
theorem dX11_allDue_17 : decode cX11_allDue 17 = .ok (.getfield 42, 3) := by decide +kernel
theorem dX11_allDue_20 : decode cX11_allDue 20 = .ok (.invokevirtual 374, 3) := by decide +kernel
theorem dX11_allDue_23 : decode cX11_allDue 23 = .ok (.iadd, 1) := by decide +kernel
theorem dX11_allDue_24 : decode cX11_allDue 24 = .ok (.istore_n 1, 1) := by decide +kernel
theorem dX11_allDue_25 : decode cX11_allDue 25 = .ok (.iinc 2 1, 3) := by decide +kernel
theorem dX11_allDue_28 : decode cX11_allDue 28 = .ok (.goto (-24), 3) := by decide +kernel
theorem dX11_allDue_31 : decode cX11_allDue 31 = .ok (.iload_n 1, 1) := by decide +kernel
theorem dX11_allDue_32 : decode cX11_allDue 32 = .ok (.ireturn, 1) := by decide +kernel
theorem dX11_within_0 : decode cX11_within 0 = .ok (.iload_n 0, 1) := by decide +kernel
theorem dX11_within_1 : decode cX11_within 1 = .ok (.iload_n 1, 1) := by decide +kernel
theorem dX11_within_2 : decode cX11_within 2 = .ok (.if_icmp .lt 12, 3) := by decide +kernel
theorem dX11_within_5 : decode cX11_within 5 = .ok (.iload_n 0, 1) := by decide +kernel
theorem dX11_within_6 : decode cX11_within 6 = .ok (.iload_n 2, 1) := by decide +kernel
theorem dX11_within_7 : decode cX11_within 7 = .ok (.if_icmp .gt 7, 3) := by decide +kernel
theorem dX11_within_10 : decode cX11_within 10 = .ok (.iconst 1, 1) := by decide +kernel
theorem dX11_within_11 : decode cX11_within 11 = .ok (.goto 4, 3) := by decide +kernel
theorem dX11_within_14 : decode cX11_within 14 = .ok (.iconst 0, 1) := by decide +kernel
theorem dX11_within_15 : decode cX11_within 15 = .ok (.ireturn, 1) := by decide +kernel
theorem dJ6_bitCount_0f7a4_0 : decode cJ6_bitCount_0f7a4 0 = .ok (.iload_n 0, 1) := by decide +kernel
theorem dJ6_bitCount_0f7a4_1 : decode cJ6_bitCount_0f7a4 1 = .ok (.iload_n 0, 1) := by decide +kernel
theorem dJ6_bitCount_0f7a4_2 : decode cJ6_bitCount_0f7a4 2 = .ok (.iconst 1, 1) := by decide +kernel
theorem dJ6_bitCount_0f7a4_3 : decode cJ6_bitCount_0f7a4 3 = .ok (.iushr, 1) := by decide +kernel
theorem dJ6_bitCount_0f7a4_4 : decode cJ6_bitCount_0f7a4 4 = .ok (.ldc_w 265, 3) := by decide +kernel
theorem dJ6_bitCount_0f7a4_7 : decode cJ6_bitCount_0f7a4 7 = .ok (.iand, 1) := by decide +kernel
theorem dJ6_bitCount_0f7a4_8 : decode cJ6_bitCount_0f7a4 8 = .ok (.isub, 1) := by decide +kernel
theorem dJ6_bitCount_0f7a4_9 : decode cJ6_bitCount_0f7a4 9 = .ok (.istore_n 0, 1) := by decide +kernel
theorem dJ6_bitCount_0f7a4_10 : decode cJ6_bitCount_0f7a4 10 = .ok (.iload_n 0, 1) := by decide +kernel
theorem dJ6_bitCount_0f7a4_11 : decode cJ6_bitCount_0f7a4 11 = .ok (.ldc_w 266, 3) := by decide +kernel
theorem dJ6_bitCount_0f7a4_14 : decode cJ6_bitCount_0f7a4 14 = .ok (.iand, 1) := by decide +kernel
theorem dJ6_bitCount_0f7a4_15 : decode cJ6_bitCount_0f7a4 15 = .ok (.iload_n 0, 1) := by decide +kernel
theorem dJ6_bitCount_0f7a4_16 : decode cJ6_bitCount_0f7a4 16 = .ok (.iconst 2, 1) := by decide +kernel
theorem dJ6_bitCount_0f7a4_17 : decode cJ6_bitCount_0f7a4 17 = .ok (.iushr, 1) := by decide +kernel
theorem dJ6_bitCount_0f7a4_18 : decode cJ6_bitCount_0f7a4 18 = .ok (.ldc_w 266, 3) := by decide +kernel
theorem dJ6_bitCount_0f7a4_21 : decode cJ6_bitCount_0f7a4 21 = .ok (.iand, 1) := by decide +kernel
theorem dJ6_bitCount_0f7a4_22 : decode cJ6_bitCount_0f7a4 22 = .ok (.iadd, 1) := by decide +kernel
theorem dJ6_bitCount_0f7a4_23 : decode cJ6_bitCount_0f7a4 23 = .ok (.istore_n 0, 1) := by decide +kernel
theorem dJ6_bitCount_0f7a4_24 : decode cJ6_bitCount_0f7a4 24 = .ok (.iload_n 0, 1) := by decide +kernel
theorem dJ6_bitCount_0f7a4_25 : decode cJ6_bitCount_0f7a4 25 = .ok (.iload_n 0, 1) := by decide +kernel
theorem dJ6_bitCount_0f7a4_26 : decode cJ6_bitCount_0f7a4 26 = .ok (.iconst 4, 1) := by decide +kernel
theorem dJ6_bitCount_0f7a4_27 : decode cJ6_bitCount_0f7a4 27 = .ok (.iushr, 1) := by decide +kernel
theorem dJ6_bitCount_0f7a4_28 : decode cJ6_bitCount_0f7a4 28 = .ok (.iadd, 1) := by decide +kernel
theorem dJ6_bitCount_0f7a4_29 : decode cJ6_bitCount_0f7a4 29 = .ok (.ldc_w 267, 3) := by decide +kernel
theorem dJ6_bitCount_0f7a4_32 : decode cJ6_bitCount_0f7a4 32 = .ok (.iand, 1) := by decide +kernel
theorem dJ6_bitCount_0f7a4_33 : decode cJ6_bitCount_0f7a4 33 = .ok (.istore_n 0, 1) := by decide +kernel
theorem dJ6_bitCount_0f7a4_34 : decode cJ6_bitCount_0f7a4 34 = .ok (.iload_n 0, 1) := by decide +kernel
theorem dJ6_bitCount_0f7a4_35 : decode cJ6_bitCount_0f7a4 35 = .ok (.iload_n 0, 1) := by decide +kernel
theorem dJ6_bitCount_0f7a4_36 : decode cJ6_bitCount_0f7a4 36 = .ok (.bipush 8, 2) := by decide +kernel
theorem dJ6_bitCount_0f7a4_38 : decode cJ6_bitCount_0f7a4 38 = .ok (.iushr, 1) := by decide +kernel
theorem dJ6_bitCount_0f7a4_39 : decode cJ6_bitCount_0f7a4 39 = .ok (.iadd, 1) := by decide +kernel
theorem dJ6_bitCount_0f7a4_40 : decode cJ6_bitCount_0f7a4 40 = .ok (.istore_n 0, 1) := by decide +kernel
theorem dJ6_bitCount_0f7a4_41 : decode cJ6_bitCount_0f7a4 41 = .ok (.iload_n 0, 1) := by decide +kernel
theorem dJ6_bitCount_0f7a4_42 : decode cJ6_bitCount_0f7a4 42 = .ok (.iload_n 0, 1) := by decide +kernel
theorem dJ6_bitCount_0f7a4_43 : decode cJ6_bitCount_0f7a4 43 = .ok (.bipush 16, 2) := by decide +kernel
theorem dJ6_bitCount_0f7a4_45 : decode cJ6_bitCount_0f7a4 45 = .ok (.iushr, 1) := by decide +kernel
theorem dJ6_bitCount_0f7a4_46 : decode cJ6_bitCount_0f7a4 46 = .ok (.iadd, 1) := by decide +kernel
theorem dJ6_bitCount_0f7a4_47 : decode cJ6_bitCount_0f7a4 47 = .ok (.istore_n 0, 1) := by decide +kernel
theorem dJ6_bitCount_0f7a4_48 : decode cJ6_bitCount_0f7a4 48 = .ok (.iload_n 0, 1) := by decide +kernel
theorem dJ6_bitCount_0f7a4_49 : decode cJ6_bitCount_0f7a4 49 = .ok (.bipush 63, 2) := by decide +kernel
theorem dJ6_bitCount_0f7a4_51 : decode cJ6_bitCount_0f7a4 51 = .ok (.iand, 1) := by decide +kernel
theorem dJ6_bitCount_0f7a4_52 : decode cJ6_bitCount_0f7a4 52 = .ok (.ireturn, 1) := by decide +kernel
theorem dJ9_floorMod_7cf53_0 : decode cJ9_floorMod_7cf53 0 = .ok (.iload_n 0, 1) := by decide +kernel
theorem dJ9_floorMod_7cf53_1 : decode cJ9_floorMod_7cf53 1 = .ok (.iload_n 1, 1) := by decide +kernel
theorem dJ9_floorMod_7cf53_2 : decode cJ9_floorMod_7cf53 2 = .ok (.irem, 1) := by decide +kernel
theorem dJ9_floorMod_7cf53_3 : decode cJ9_floorMod_7cf53 3 = .ok (.istore_n 2, 1) := by decide +kernel
theorem dJ9_floorMod_7cf53_4 : decode cJ9_floorMod_7cf53 4 = .ok (.iload_n 0, 1) := by decide +kernel
theorem dJ9_floorMod_7cf53_5 : decode cJ9_floorMod_7cf53 5 = .ok (.iload_n 1, 1) := by decide +kernel
theorem dJ9_floorMod_7cf53_6 : decode cJ9_floorMod_7cf53 6 = .ok (.ixor, 1) := by decide +kernel
theorem dJ9_floorMod_7cf53_7 : decode cJ9_floorMod_7cf53 7 = .ok (.ifCond .ge 11, 3) := by decide +kernel
theorem dJ9_floorMod_7cf53_10 : decode cJ9_floorMod_7cf53 10 = .ok (.iload_n 2, 1) := by decide +kernel
theorem dJ9_floorMod_7cf53_11 : decode cJ9_floorMod_7cf53 11 = .ok (.ifCond .eq 7, 3) := by decide +kernel
theorem dJ9_floorMod_7cf53_14 : decode cJ9_floorMod_7cf53 14 = .ok (.iload_n 2, 1) := by decide +kernel
theorem dJ9_floorMod_7cf53_15 : decode cJ9_floorMod_7cf53 15 = .ok (.iload_n 1, 1) := by decide +kernel
theorem dJ9_floorMod_7cf53_16 : decode cJ9_floorMod_7cf53 16 = .ok (.iadd, 1) := by decide +kernel
theorem dJ9_floorMod_7cf53_17 : decode cJ9_floorMod_7cf53 17 = .ok (.ireturn, 1) := by decide +kernel
theorem dJ9_floorMod_7cf53_18 : decode cJ9_floorMod_7cf53 18 = .ok (.iload_n 2, 1) := by decide +kernel
theorem dJ9_floorMod_7cf53_19 : decode cJ9_floorMod_7cf53 19 = .ok (.ireturn, 1) := by decide +kernel
theorem dJ0_length_8abf5_0 : decode cJ0_length_8abf5 0 = .ok (.aload_n 0, 1) := by decide +kernel
theorem dJ0_length_8abf5_1 : decode cJ0_length_8abf5 1 = .ok (.getfield 9, 3) := by decide +kernel
theorem dJ0_length_8abf5_4 : decode cJ0_length_8abf5 4 = .ok (.arraylength, 1) := by decide +kernel
theorem dJ0_length_8abf5_5 : decode cJ0_length_8abf5 5 = .ok (.aload_n 0, 1) := by decide +kernel
theorem dJ0_length_8abf5_6 : decode cJ0_length_8abf5 6 = .ok (.invokevirtual 335, 3) := by decide +kernel
theorem dJ0_length_8abf5_9 : decode cJ0_length_8abf5 9 = .ok (.ishr, 1) := by decide +kernel
theorem dJ0_length_8abf5_10 : decode cJ0_length_8abf5 10 = .ok (.ireturn, 1) := by decide +kernel
theorem dJ0_indexOf_0f7a4_0 : decode cJ0_indexOf_0f7a4 0 = .ok (.aload_n 0, 1) := by decide +kernel
theorem dJ0_indexOf_0f7a4_1 : decode cJ0_indexOf_0f7a4 1 = .ok (.iload_n 1, 1) := by decide +kernel
theorem dJ0_indexOf_0f7a4_2 : decode cJ0_indexOf_0f7a4 2 = .ok (.iconst 0, 1) := by decide +kernel
theorem dJ0_indexOf_0f7a4_3 : decode cJ0_indexOf_0f7a4 3 = .ok (.invokevirtual 633, 3) := by decide +kernel
theorem dJ0_indexOf_0f7a4_6 : decode cJ0_indexOf_0f7a4 6 = .ok (.ireturn, 1) := by decide +kernel
theorem dJ0_indexOf_7cf53_0 : decode cJ0_indexOf_7cf53 0 = .ok (.aload_n 0, 1) := by decide +kernel
theorem dJ0_indexOf_7cf53_1 : decode cJ0_indexOf_7cf53 1 = .ok (.invokevirtual 492, 3) := by decide +kernel
theorem dJ0_indexOf_7cf53_4 : decode cJ0_indexOf_7cf53 4 = .ok (.ifCond .eq 19, 3) := by decide +kernel
theorem dJ0_indexOf_7cf53_7 : decode cJ0_indexOf_7cf53 7 = .ok (.aload_n 0, 1) := by decide +kernel
theorem dJ0_indexOf_7cf53_8 : decode cJ0_indexOf_7cf53 8 = .ok (.getfield 9, 3) := by decide +kernel
theorem dJ0_indexOf_7cf53_11 : decode cJ0_indexOf_7cf53 11 = .ok (.iload_n 1, 1) := by decide +kernel
theorem dJ0_indexOf_7cf53_12 : decode cJ0_indexOf_7cf53 12 = .ok (.iload_n 2, 1) := by decide +kernel
theorem dJ0_indexOf_7cf53_13 : decode cJ0_indexOf_7cf53 13 = .ok (.aload_n 0, 1) := by decide +kernel
theorem dJ0_indexOf_7cf53_14 : decode cJ0_indexOf_7cf53 14 = .ok (.invokevirtual 505, 3) := by decide +kernel
theorem dJ0_indexOf_7cf53_17 : decode cJ0_indexOf_7cf53 17 = .ok (.invokestatic 637, 3) := by decide +kernel
theorem dJ0_indexOf_7cf53_20 : decode cJ0_indexOf_7cf53 20 = .ok (.goto 16, 3) := by decide +kernel
theorem dJ0_indexOf_7cf53_23 : decode cJ0_indexOf_7cf53 23 = .ok (.aload_n 0, 1) := by decide +kernel
theorem dJ0_indexOf_7cf53_24 : decode cJ0_indexOf_7cf53 24 = .ok (.getfield 9, 3) := by decide +kernel
theorem dJ0_indexOf_7cf53_27 : decode cJ0_indexOf_7cf53 27 = .ok (.iload_n 1, 1) := by decide +kernel
theorem dJ0_indexOf_7cf53_28 : decode cJ0_indexOf_7cf53 28 = .ok (.iload_n 2, 1) := by decide +kernel
theorem dJ0_indexOf_7cf53_29 : decode cJ0_indexOf_7cf53 29 = .ok (.aload_n 0, 1) := by decide +kernel
theorem dJ0_indexOf_7cf53_30 : decode cJ0_indexOf_7cf53 30 = .ok (.invokevirtual 505, 3) := by decide +kernel
theorem dJ0_indexOf_7cf53_33 : decode cJ0_indexOf_7cf53 33 = .ok (.invokestatic 640, 3) := by decide +kernel
theorem dJ0_indexOf_7cf53_36 : decode cJ0_indexOf_7cf53 36 = .ok (.ireturn, 1) := by decide +kernel
theorem dJ0_coder_7d493_0 : decode cJ0_coder_7d493 0 = .ok (.getstatic 38, 3) := by decide +kernel
theorem dJ0_coder_7d493_3 : decode cJ0_coder_7d493 3 = .ok (.ifCond .eq 10, 3) := by decide +kernel
theorem dJ0_coder_7d493_6 : decode cJ0_coder_7d493 6 = .ok (.aload_n 0, 1) := by decide +kernel
theorem dJ0_coder_7d493_7 : decode cJ0_coder_7d493 7 = .ok (.getfield 15, 3) := by decide +kernel
theorem dJ0_coder_7d493_10 : decode cJ0_coder_7d493 10 = .ok (.goto 4, 3) := by decide +kernel
theorem dJ0_coder_7d493_13 : decode cJ0_coder_7d493 13 = .ok (.iconst 1, 1) := by decide +kernel
theorem dJ0_coder_7d493_14 : decode cJ0_coder_7d493 14 = .ok (.ireturn, 1) := by decide +kernel
theorem dJ0_isLatin1_aae02_0 : decode cJ0_isLatin1_aae02 0 = .ok (.getstatic 38, 3) := by decide +kernel
theorem dJ0_isLatin1_aae02_3 : decode cJ0_isLatin1_aae02 3 = .ok (.ifCond .eq 14, 3) := by decide +kernel
theorem dJ0_isLatin1_aae02_6 : decode cJ0_isLatin1_aae02 6 = .ok (.aload_n 0, 1) := by decide +kernel
theorem dJ0_isLatin1_aae02_7 : decode cJ0_isLatin1_aae02 7 = .ok (.getfield 15, 3) := by decide +kernel
theorem dJ0_isLatin1_aae02_10 : decode cJ0_isLatin1_aae02 10 = .ok (.ifCond .ne 7, 3) := by decide +kernel
theorem dJ0_isLatin1_aae02_13 : decode cJ0_isLatin1_aae02 13 = .ok (.iconst 1, 1) := by decide +kernel
theorem dJ0_isLatin1_aae02_14 : decode cJ0_isLatin1_aae02 14 = .ok (.goto 4, 3) := by decide +kernel
theorem dJ0_isLatin1_aae02_17 : decode cJ0_isLatin1_aae02 17 = .ok (.iconst 0, 1) := by decide +kernel
theorem dJ0_isLatin1_aae02_18 : decode cJ0_isLatin1_aae02 18 = .ok (.ireturn, 1) := by decide +kernel
theorem dJ1_canEncode_9a6ad_0 : decode cJ1_canEncode_9a6ad 0 = .ok (.iload_n 0, 1) := by decide +kernel
theorem dJ1_canEncode_9a6ad_1 : decode cJ1_canEncode_9a6ad 1 = .ok (.ifCond .lt 14, 3) := by decide +kernel
theorem dJ1_canEncode_9a6ad_4 : decode cJ1_canEncode_9a6ad 4 = .ok (.iload_n 0, 1) := by decide +kernel
theorem dJ1_canEncode_9a6ad_5 : decode cJ1_canEncode_9a6ad 5 = .ok (.sipush 255, 3) := by decide +kernel
theorem dJ1_canEncode_9a6ad_8 : decode cJ1_canEncode_9a6ad 8 = .ok (.if_icmp .gt 7, 3) := by decide +kernel
theorem dJ1_canEncode_9a6ad_11 : decode cJ1_canEncode_9a6ad 11 = .ok (.iconst 1, 1) := by decide +kernel
theorem dJ1_canEncode_9a6ad_12 : decode cJ1_canEncode_9a6ad 12 = .ok (.goto 4, 3) := by decide +kernel
theorem dJ1_canEncode_9a6ad_15 : decode cJ1_canEncode_9a6ad 15 = .ok (.iconst 0, 1) := by decide +kernel
theorem dJ1_canEncode_9a6ad_16 : decode cJ1_canEncode_9a6ad 16 = .ok (.ireturn, 1) := by decide +kernel
theorem dJ1_indexOf_4cfef_0 : decode cJ1_indexOf_4cfef 0 = .ok (.iload_n 1, 1) := by decide +kernel
theorem dJ1_indexOf_4cfef_1 : decode cJ1_indexOf_4cfef 1 = .ok (.invokestatic 88, 3) := by decide +kernel
theorem dJ1_indexOf_4cfef_4 : decode cJ1_indexOf_4cfef 4 = .ok (.ifCond .ne 5, 3) := by decide +kernel
theorem dJ1_indexOf_4cfef_7 : decode cJ1_indexOf_4cfef 7 = .ok (.iconst (-1), 1) := by decide +kernel
theorem dJ1_indexOf_4cfef_8 : decode cJ1_indexOf_4cfef 8 = .ok (.ireturn, 1) := by decide +kernel
theorem dJ1_indexOf_4cfef_9 : decode cJ1_indexOf_4cfef 9 = .ok (.iload_n 2, 1) := by decide +kernel
theorem dJ1_indexOf_4cfef_10 : decode cJ1_indexOf_4cfef 10 = .ok (.iconst 0, 1) := by decide +kernel
theorem dJ1_indexOf_4cfef_11 : decode cJ1_indexOf_4cfef 11 = .ok (.invokestatic 92, 3) := by decide +kernel
theorem dJ1_indexOf_4cfef_14 : decode cJ1_indexOf_4cfef 14 = .ok (.istore_n 2, 1) := by decide +kernel
theorem dJ1_indexOf_4cfef_15 : decode cJ1_indexOf_4cfef 15 = .ok (.iload_n 3, 1) := by decide +kernel
theorem dJ1_indexOf_4cfef_16 : decode cJ1_indexOf_4cfef 16 = .ok (.aload_n 0, 1) := by decide +kernel
theorem dJ1_indexOf_4cfef_17 : decode cJ1_indexOf_4cfef 17 = .ok (.arraylength, 1) := by decide +kernel
theorem dJ1_indexOf_4cfef_18 : decode cJ1_indexOf_4cfef 18 = .ok (.invokestatic 38, 3) := by decide +kernel
theorem dJ1_indexOf_4cfef_21 : decode cJ1_indexOf_4cfef 21 = .ok (.istore_n 3, 1) := by decide +kernel
theorem dJ1_indexOf_4cfef_22 : decode cJ1_indexOf_4cfef 22 = .ok (.iload_n 2, 1) := by decide +kernel
theorem dJ1_indexOf_4cfef_23 : decode cJ1_indexOf_4cfef 23 = .ok (.iload_n 3, 1) := by decide +kernel
theorem dJ1_indexOf_4cfef_24 : decode cJ1_indexOf_4cfef 24 = .ok (.if_icmp .lt 5, 3) := by decide +kernel
theorem dJ1_indexOf_4cfef_27 : decode cJ1_indexOf_4cfef 27 = .ok (.iconst (-1), 1) := by decide +kernel
theorem dJ1_indexOf_4cfef_28 : decode cJ1_indexOf_4cfef 28 = .ok (.ireturn, 1) := by decide +kernel
theorem dJ1_indexOf_4cfef_29 : decode cJ1_indexOf_4cfef 29 = .ok (.aload_n 0, 1) := by decide +kernel
theorem dJ1_indexOf_4cfef_30 : decode cJ1_indexOf_4cfef 30 = .ok (.iload_n 1, 1) := by decide +kernel
theorem dJ1_indexOf_4cfef_31 : decode cJ1_indexOf_4cfef 31 = .ok (.iload_n 2, 1) := by decide +kernel
theorem dJ1_indexOf_4cfef_32 : decode cJ1_indexOf_4cfef 32 = .ok (.iload_n 3, 1) := by decide +kernel
theorem dJ1_indexOf_4cfef_33 : decode cJ1_indexOf_4cfef 33 = .ok (.invokestatic 95, 3) := by decide +kernel
theorem dJ1_indexOf_4cfef_36 : decode cJ1_indexOf_4cfef 36 = .ok (.ireturn, 1) := by decide +kernel
theorem dJ1_indexOfChar_4cfef_0 : decode cJ1_indexOfChar_4cfef 0 = .ok (.iload_n 1, 1) := by decide +kernel
theorem dJ1_indexOfChar_4cfef_1 : decode cJ1_indexOfChar_4cfef 1 = .ok (.i2b, 1) := by decide +kernel
theorem dJ1_indexOfChar_4cfef_2 : decode cJ1_indexOfChar_4cfef 2 = .ok (.istore 4, 2) := by decide +kernel
theorem dJ1_indexOfChar_4cfef_4 : decode cJ1_indexOfChar_4cfef 4 = .ok (.iload_n 2, 1) := by decide +kernel
theorem dJ1_indexOfChar_4cfef_5 : decode cJ1_indexOfChar_4cfef 5 = .ok (.istore 5, 2) := by decide +kernel
theorem dJ1_indexOfChar_4cfef_7 : decode cJ1_indexOfChar_4cfef 7 = .ok (.iload 5, 2) := by decide +kernel
theorem dJ1_indexOfChar_4cfef_9 : decode cJ1_indexOfChar_4cfef 9 = .ok (.iload_n 3, 1) := by decide +kernel
theorem dJ1_indexOfChar_4cfef_10 : decode cJ1_indexOfChar_4cfef 10 = .ok (.if_icmp .ge 21, 3) := by decide +kernel
theorem dJ1_indexOfChar_4cfef_13 : decode cJ1_indexOfChar_4cfef 13 = .ok (.aload_n 0, 1) := by decide +kernel
theorem dJ1_indexOfChar_4cfef_14 : decode cJ1_indexOfChar_4cfef 14 = .ok (.iload 5, 2) := by decide +kernel
theorem dJ1_indexOfChar_4cfef_16 : decode cJ1_indexOfChar_4cfef 16 = .ok (.baload, 1) := by decide +kernel
theorem dJ1_indexOfChar_4cfef_17 : decode cJ1_indexOfChar_4cfef 17 = .ok (.iload 4, 2) := by decide +kernel
theorem dJ1_indexOfChar_4cfef_19 : decode cJ1_indexOfChar_4cfef 19 = .ok (.if_icmp .ne 6, 3) := by decide +kernel
theorem dJ1_indexOfChar_4cfef_22 : decode cJ1_indexOfChar_4cfef 22 = .ok (.iload 5, 2) := by decide +kernel
theorem dJ1_indexOfChar_4cfef_24 : decode cJ1_indexOfChar_4cfef 24 = .ok (.ireturn, 1) := by decide +kernel
theorem dJ1_indexOfChar_4cfef_25 : decode cJ1_indexOfChar_4cfef 25 = .ok (.iinc 5 1, 3) := by decide +kernel
theorem dJ1_indexOfChar_4cfef_28 : decode cJ1_indexOfChar_4cfef 28 = .ok (.goto (-21), 3) := by decide +kernel
theorem dJ1_indexOfChar_4cfef_31 : decode cJ1_indexOfChar_4cfef 31 = .ok (.iconst (-1), 1) := by decide +kernel
theorem dJ1_indexOfChar_4cfef_32 : decode cJ1_indexOfChar_4cfef 32 = .ok (.ireturn, 1) := by decide +kernel
theorem dJ7_fill_53178_0 : decode cJ7_fill_53178 0 = .ok (.iconst 0, 1) := by decide +kernel
theorem dJ7_fill_53178_1 : decode cJ7_fill_53178 1 = .ok (.istore_n 2, 1) := by decide +kernel
theorem dJ7_fill_53178_2 : decode cJ7_fill_53178 2 = .ok (.aload_n 0, 1) := by decide +kernel
theorem dJ7_fill_53178_3 : decode cJ7_fill_53178 3 = .ok (.arraylength, 1) := by decide +kernel
theorem dJ7_fill_53178_4 : decode cJ7_fill_53178 4 = .ok (.istore_n 3, 1) := by decide +kernel
theorem dJ7_fill_53178_5 : decode cJ7_fill_53178 5 = .ok (.iload_n 2, 1) := by decide +kernel
theorem dJ7_fill_53178_6 : decode cJ7_fill_53178 6 = .ok (.iload_n 3, 1) := by decide +kernel
theorem dJ7_fill_53178_7 : decode cJ7_fill_53178 7 = .ok (.if_icmp .ge 13, 3) := by decide +kernel
theorem dJ7_fill_53178_10 : decode cJ7_fill_53178 10 = .ok (.aload_n 0, 1) := by decide +kernel
theorem dJ7_fill_53178_11 : decode cJ7_fill_53178 11 = .ok (.iload_n 2, 1) := by decide +kernel
theorem dJ7_fill_53178_12 : decode cJ7_fill_53178 12 = .ok (.iload_n 1, 1) := by decide +kernel
theorem dJ7_fill_53178_13 : decode cJ7_fill_53178 13 = .ok (.iastore, 1) := by decide +kernel
theorem dJ7_fill_53178_14 : decode cJ7_fill_53178 14 = .ok (.iinc 2 1, 3) := by decide +kernel
theorem dJ7_fill_53178_17 : decode cJ7_fill_53178 17 = .ok (.goto (-12), 3) := by decide +kernel
theorem dJ7_fill_53178_20 : decode cJ7_fill_53178 20 = .ok (.return_, 1) := by decide +kernel
