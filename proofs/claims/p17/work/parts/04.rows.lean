theorem dX7_has_0 : decode cX7_has 0 = .ok (.iload_n 1, 1) := by decide +kernel
theorem dX7_has_1 : decode cX7_has 1 = .ok (.ifCond .lt 22, 3) := by decide +kernel
theorem dX7_has_4 : decode cX7_has 4 = .ok (.iload_n 1, 1) := by decide +kernel
theorem dX7_has_5 : decode cX7_has 5 = .ok (.bipush 8, 2) := by decide +kernel
theorem dX7_has_7 : decode cX7_has 7 = .ok (.if_icmp .ge 16, 3) := by decide +kernel
theorem dX7_has_10 : decode cX7_has 10 = .ok (.aload_n 0, 1) := by decide +kernel
theorem dX7_has_11 : decode cX7_has 11 = .ok (.getfield 11, 3) := by decide +kernel
theorem dX7_has_14 : decode cX7_has 14 = .ok (.iload_n 1, 1) := by decide +kernel
theorem dX7_has_15 : decode cX7_has 15 = .ok (.iaload, 1) := by decide +kernel
theorem dX7_has_16 : decode cX7_has 16 = .ok (.ifCond .le 7, 3) := by decide +kernel
theorem dX7_has_19 : decode cX7_has 19 = .ok (.iconst 1, 1) := by decide +kernel
theorem dX7_has_20 : decode cX7_has 20 = .ok (.goto 4, 3) := by decide +kernel
theorem dX7_has_23 : decode cX7_has 23 = .ok (.iconst 0, 1) := by decide +kernel
theorem dX7_has_24 : decode cX7_has 24 = .ok (.ireturn, 1) := by decide +kernel
theorem dX7_of_0 : decode cX7_of 0 = .ok (.iload_n 1, 1) := by decide +kernel
theorem dX7_of_1 : decode cX7_of 1 = .ok (.ifCond .lt 33, 3) := by decide +kernel
theorem dX7_of_4 : decode cX7_of 4 = .ok (.iload_n 1, 1) := by decide +kernel
theorem dX7_of_5 : decode cX7_of 5 = .ok (.bipush 8, 2) := by decide +kernel
theorem dX7_of_7 : decode cX7_of 7 = .ok (.if_icmp .ge 27, 3) := by decide +kernel
theorem dX7_of_10 : decode cX7_of 10 = .ok (.iload_n 2, 1) := by decide +kernel
theorem dX7_of_11 : decode cX7_of 11 = .ok (.ifCond .lt 23, 3) := by decide +kernel
theorem dX7_of_14 : decode cX7_of 14 = .ok (.iload_n 2, 1) := by decide +kernel
theorem dX7_of_15 : decode cX7_of 15 = .ok (.bipush 7, 2) := by decide +kernel
theorem dX7_of_17 : decode cX7_of 17 = .ok (.if_icmp .ge 17, 3) := by decide +kernel
theorem dX7_of_20 : decode cX7_of 20 = .ok (.aload_n 0, 1) := by decide +kernel
theorem dX7_of_21 : decode cX7_of 21 = .ok (.getfield 11, 3) := by decide +kernel
theorem dX7_of_24 : decode cX7_of 24 = .ok (.iload_n 2, 1) := by decide +kernel
theorem dX7_of_25 : decode cX7_of 25 = .ok (.bipush 8, 2) := by decide +kernel
theorem dX7_of_27 : decode cX7_of 27 = .ok (.imul, 1) := by decide +kernel
theorem dX7_of_28 : decode cX7_of 28 = .ok (.iload_n 1, 1) := by decide +kernel
theorem dX7_of_29 : decode cX7_of 29 = .ok (.iadd, 1) := by decide +kernel
theorem dX7_of_30 : decode cX7_of 30 = .ok (.iaload, 1) := by decide +kernel
theorem dX7_of_31 : decode cX7_of 31 = .ok (.goto 4, 3) := by decide +kernel
theorem dX7_of_34 : decode cX7_of 34 = .ok (.iconst 0, 1) := by decide +kernel
theorem dX7_of_35 : decode cX7_of 35 = .ok (.ireturn, 1) := by decide +kernel
theorem dX7_set_0 : decode cX7_set 0 = .ok (.iload_n 1, 1) := by decide +kernel
theorem dX7_set_1 : decode cX7_set 1 = .ok (.ifCond .lt 31, 3) := by decide +kernel
theorem dX7_set_4 : decode cX7_set 4 = .ok (.iload_n 1, 1) := by decide +kernel
theorem dX7_set_5 : decode cX7_set 5 = .ok (.bipush 8, 2) := by decide +kernel
theorem dX7_set_7 : decode cX7_set 7 = .ok (.if_icmp .ge 25, 3) := by decide +kernel
theorem dX7_set_10 : decode cX7_set 10 = .ok (.iload_n 2, 1) := by decide +kernel
theorem dX7_set_11 : decode cX7_set 11 = .ok (.ifCond .lt 21, 3) := by decide +kernel
theorem dX7_set_14 : decode cX7_set 14 = .ok (.iload_n 2, 1) := by decide +kernel
theorem dX7_set_15 : decode cX7_set 15 = .ok (.bipush 7, 2) := by decide +kernel
theorem dX7_set_17 : decode cX7_set 17 = .ok (.if_icmp .ge 15, 3) := by decide +kernel
theorem dX7_set_20 : decode cX7_set 20 = .ok (.aload_n 0, 1) := by decide +kernel
theorem dX7_set_21 : decode cX7_set 21 = .ok (.getfield 11, 3) := by decide +kernel
theorem dX7_set_24 : decode cX7_set 24 = .ok (.iload_n 2, 1) := by decide +kernel
theorem dX7_set_25 : decode cX7_set 25 = .ok (.bipush 8, 2) := by decide +kernel
theorem dX7_set_27 : decode cX7_set 27 = .ok (.imul, 1) := by decide +kernel
theorem dX7_set_28 : decode cX7_set 28 = .ok (.iload_n 1, 1) := by decide +kernel
theorem dX7_set_29 : decode cX7_set 29 = .ok (.iadd, 1) := by decide +kernel
theorem dX7_set_30 : decode cX7_set 30 = .ok (.iload_n 3, 1) := by decide +kernel
theorem dX7_set_31 : decode cX7_set 31 = .ok (.iastore, 1) := by decide +kernel
theorem dX7_set_32 : decode cX7_set 32 = .ok (.return_, 1) := by decide +kernel
theorem dX7_day_0 : decode cX7_day 0 = .ok (.aload_n 0, 1) := by decide +kernel
theorem dX7_day_1 : decode cX7_day 1 = .ok (.getfield 11, 3) := by decide +kernel
theorem dX7_day_4 : decode cX7_day 4 = .ok (.bipush 57, 2) := by decide +kernel
theorem dX7_day_6 : decode cX7_day 6 = .ok (.iaload, 1) := by decide +kernel
theorem dX7_day_7 : decode cX7_day 7 = .ok (.ireturn, 1) := by decide +kernel
theorem dX7_loadOn_0 : decode cX7_loadOn 0 = .ok (.iconst 0, 1) := by decide +kernel
theorem dX7_loadOn_1 : decode cX7_loadOn 1 = .ok (.istore_n 2, 1) := by decide +kernel
theorem dX7_loadOn_2 : decode cX7_loadOn 2 = .ok (.iconst 0, 1) := by decide +kernel
theorem dX7_loadOn_3 : decode cX7_loadOn 3 = .ok (.istore_n 3, 1) := by decide +kernel
theorem dX7_loadOn_4 : decode cX7_loadOn 4 = .ok (.iload_n 3, 1) := by decide +kernel
theorem dX7_loadOn_5 : decode cX7_loadOn 5 = .ok (.bipush 8, 2) := by decide +kernel
theorem dX7_loadOn_7 : decode cX7_loadOn 7 = .ok (.if_icmp .ge 31, 3) := by decide +kernel
theorem dX7_loadOn_10 : decode cX7_loadOn 10 = .ok (.aload_n 0, 1) := by decide +kernel
theorem dX7_loadOn_11 : decode cX7_loadOn 11 = .ok (.getfield 11, 3) := by decide +kernel
theorem dX7_loadOn_14 : decode cX7_loadOn 14 = .ok (.bipush 24, 2) := by decide +kernel
theorem dX7_loadOn_16 : decode cX7_loadOn 16 = .ok (.iload_n 3, 1) := by decide +kernel
theorem dX7_loadOn_17 : decode cX7_loadOn 17 = .ok (.iadd, 1) := by decide +kernel
theorem dX7_loadOn_18 : decode cX7_loadOn 18 = .ok (.iaload, 1) := by decide +kernel
theorem dX7_loadOn_19 : decode cX7_loadOn 19 = .ok (.iload_n 1, 1) := by decide +kernel
theorem dX7_loadOn_20 : decode cX7_loadOn 20 = .ok (.if_icmp .ne 12, 3) := by decide +kernel
theorem dX7_loadOn_23 : decode cX7_loadOn 23 = .ok (.iload_n 2, 1) := by decide +kernel
theorem dX7_loadOn_24 : decode cX7_loadOn 24 = .ok (.aload_n 0, 1) := by decide +kernel
theorem dX7_loadOn_25 : decode cX7_loadOn 25 = .ok (.getfield 11, 3) := by decide +kernel
theorem dX7_loadOn_28 : decode cX7_loadOn 28 = .ok (.iload_n 3, 1) := by decide +kernel
theorem dX7_loadOn_29 : decode cX7_loadOn 29 = .ok (.iaload, 1) := by decide +kernel
theorem dX7_loadOn_30 : decode cX7_loadOn 30 = .ok (.iadd, 1) := by decide +kernel
theorem dX7_loadOn_31 : decode cX7_loadOn 31 = .ok (.istore_n 2, 1) := by decide +kernel
theorem dX7_loadOn_32 : decode cX7_loadOn 32 = .ok (.iinc 3 1, 3) := by decide +kernel
theorem dX7_loadOn_35 : decode cX7_loadOn 35 = .ok (.goto (-31), 3) := by decide +kernel
theorem dX7_loadOn_38 : decode cX7_loadOn 38 = .ok (.iload_n 2, 1) := by decide +kernel
theorem dX7_loadOn_39 : decode cX7_loadOn 39 = .ok (.ireturn, 1) := by decide +kernel
theorem dX7_freePlace_0 : decode cX7_freePlace 0 = .ok (.iconst 0, 1) := by decide +kernel
theorem dX7_freePlace_1 : decode cX7_freePlace 1 = .ok (.istore_n 1, 1) := by decide +kernel
theorem dX7_freePlace_2 : decode cX7_freePlace 2 = .ok (.iload_n 1, 1) := by decide +kernel
theorem dX7_freePlace_3 : decode cX7_freePlace 3 = .ok (.bipush 8, 2) := by decide +kernel
theorem dX7_freePlace_5 : decode cX7_freePlace 5 = .ok (.if_icmp .ge 19, 3) := by decide +kernel
theorem dX7_freePlace_8 : decode cX7_freePlace 8 = .ok (.aload_n 0, 1) := by decide +kernel
theorem dX7_freePlace_9 : decode cX7_freePlace 9 = .ok (.iload_n 1, 1) := by decide +kernel
theorem dX7_freePlace_10 : decode cX7_freePlace 10 = .ok (.invokevirtual 70, 3) := by decide +kernel
theorem dX7_freePlace_13 : decode cX7_freePlace 13 = .ok (.ifCond .ne 5, 3) := by decide +kernel
theorem dX7_freePlace_16 : decode cX7_freePlace 16 = .ok (.iload_n 1, 1) := by decide +kernel
theorem dX7_freePlace_17 : decode cX7_freePlace 17 = .ok (.ireturn, 1) := by decide +kernel
theorem dX7_freePlace_18 : decode cX7_freePlace 18 = .ok (.iinc 1 1, 3) := by decide +kernel
theorem dX7_freePlace_21 : decode cX7_freePlace 21 = .ok (.goto (-19), 3) := by decide +kernel
theorem dX7_freePlace_24 : decode cX7_freePlace 24 = .ok (.iconst (-1), 1) := by decide +kernel
theorem dX7_freePlace_25 : decode cX7_freePlace 25 = .ok (.ireturn, 1) := by decide +kernel
theorem dX7_othersWith_0 : decode cX7_othersWith 0 = .ok (.aload_n 0, 1) := by decide +kernel
theorem dX7_othersWith_1 : decode cX7_othersWith 1 = .ok (.iload_n 1, 1) := by decide +kernel
theorem dX7_othersWith_2 : decode cX7_othersWith 2 = .ok (.iconst 3, 1) := by decide +kernel
theorem dX7_othersWith_3 : decode cX7_othersWith 3 = .ok (.invokevirtual 74, 3) := by decide +kernel
theorem dX7_othersWith_6 : decode cX7_othersWith 6 = .ok (.istore_n 2, 1) := by decide +kernel
theorem dX7_othersWith_7 : decode cX7_othersWith 7 = .ok (.iconst 0, 1) := by decide +kernel
theorem dX7_othersWith_8 : decode cX7_othersWith 8 = .ok (.istore_n 3, 1) := by decide +kernel
theorem dX7_othersWith_9 : decode cX7_othersWith 9 = .ok (.iconst 0, 1) := by decide +kernel
theorem dX7_othersWith_10 : decode cX7_othersWith 10 = .ok (.istore 4, 2) := by decide +kernel
theorem dX7_othersWith_12 : decode cX7_othersWith 12 = .ok (.iload 4, 2) := by decide +kernel
theorem dX7_othersWith_14 : decode cX7_othersWith 14 = .ok (.bipush 8, 2) := by decide +kernel
theorem dX7_othersWith_16 : decode cX7_othersWith 16 = .ok (.if_icmp .ge 42, 3) := by decide +kernel
theorem dX7_othersWith_19 : decode cX7_othersWith 19 = .ok (.aload_n 0, 1) := by decide +kernel
theorem dX7_othersWith_20 : decode cX7_othersWith 20 = .ok (.getfield 11, 3) := by decide +kernel
theorem dX7_othersWith_23 : decode cX7_othersWith 23 = .ok (.iload 4, 2) := by decide +kernel
theorem dX7_othersWith_25 : decode cX7_othersWith 25 = .ok (.iaload, 1) := by decide +kernel
theorem dX7_othersWith_26 : decode cX7_othersWith 26 = .ok (.ifCond .le 26, 3) := by decide +kernel
theorem dX7_othersWith_29 : decode cX7_othersWith 29 = .ok (.aload_n 0, 1) := by decide +kernel
theorem dX7_othersWith_30 : decode cX7_othersWith 30 = .ok (.getfield 11, 3) := by decide +kernel
theorem dX7_othersWith_33 : decode cX7_othersWith 33 = .ok (.bipush 24, 2) := by decide +kernel
theorem dX7_othersWith_35 : decode cX7_othersWith 35 = .ok (.iload 4, 2) := by decide +kernel
theorem dX7_othersWith_37 : decode cX7_othersWith 37 = .ok (.iadd, 1) := by decide +kernel
theorem dX7_othersWith_38 : decode cX7_othersWith 38 = .ok (.iaload, 1) := by decide +kernel
theorem dX7_othersWith_39 : decode cX7_othersWith 39 = .ok (.iload_n 2, 1) := by decide +kernel
theorem dX7_othersWith_40 : decode cX7_othersWith 40 = .ok (.if_icmp .ne 12, 3) := by decide +kernel
theorem dX7_othersWith_43 : decode cX7_othersWith 43 = .ok (.iload 4, 2) := by decide +kernel
theorem dX7_othersWith_45 : decode cX7_othersWith 45 = .ok (.iload_n 1, 1) := by decide +kernel
theorem dX7_othersWith_46 : decode cX7_othersWith 46 = .ok (.if_icmp .eq 6, 3) := by decide +kernel
theorem dX7_othersWith_49 : decode cX7_othersWith 49 = .ok (.iinc 3 1, 3) := by decide +kernel
theorem dX7_othersWith_52 : decode cX7_othersWith 52 = .ok (.iinc 4 1, 3) := by decide +kernel
theorem dX7_othersWith_55 : decode cX7_othersWith 55 = .ok (.goto (-43), 3) := by decide +kernel
theorem dX7_othersWith_58 : decode cX7_othersWith 58 = .ok (.iload_n 3, 1) := by decide +kernel
theorem dX7_othersWith_59 : decode cX7_othersWith 59 = .ok (.ireturn, 1) := by decide +kernel
theorem dX7_allSizes_0 : decode cX7_allSizes 0 = .ok (.iconst 0, 1) := by decide +kernel
theorem dX7_allSizes_1 : decode cX7_allSizes 1 = .ok (.istore_n 1, 1) := by decide +kernel
theorem dX7_allSizes_2 : decode cX7_allSizes 2 = .ok (.iconst 0, 1) := by decide +kernel
theorem dX7_allSizes_3 : decode cX7_allSizes 3 = .ok (.istore_n 2, 1) := by decide +kernel
theorem dX7_allSizes_4 : decode cX7_allSizes 4 = .ok (.iload_n 2, 1) := by decide +kernel
theorem dX7_allSizes_5 : decode cX7_allSizes 5 = .ok (.bipush 8, 2) := by decide +kernel
theorem dX7_allSizes_7 : decode cX7_allSizes 7 = .ok (.if_icmp .ge 18, 3) := by decide +kernel
theorem dX7_allSizes_10 : decode cX7_allSizes 10 = .ok (.iload_n 1, 1) := by decide +kernel
theorem dX7_allSizes_11 : decode cX7_allSizes 11 = .ok (.aload_n 0, 1) := by decide +kernel
theorem dX7_allSizes_12 : decode cX7_allSizes 12 = .ok (.iload_n 2, 1) := by decide +kernel
theorem dX7_allSizes_13 : decode cX7_allSizes 13 = .ok (.iconst 0, 1) := by decide +kernel
theorem dX7_allSizes_14 : decode cX7_allSizes 14 = .ok (.invokevirtual 74, 3) := by decide +kernel
theorem dX7_allSizes_17 : decode cX7_allSizes 17 = .ok (.iadd, 1) := by decide +kernel
theorem dX7_allSizes_18 : decode cX7_allSizes 18 = .ok (.istore_n 1, 1) := by decide +kernel
theorem dX7_allSizes_19 : decode cX7_allSizes 19 = .ok (.iinc 2 1, 3) := by decide +kernel
theorem dX7_allSizes_22 : decode cX7_allSizes 22 = .ok (.goto (-18), 3) := by decide +kernel
theorem dX7_allSizes_25 : decode cX7_allSizes 25 = .ok (.iload_n 1, 1) := by decide +kernel
theorem dX7_allSizes_26 : decode cX7_allSizes 26 = .ok (.ireturn, 1) := by decide +kernel
theorem dX7_bagsWith_0 : decode cX7_bagsWith 0 = .ok (.iconst 0, 1) := by decide +kernel
theorem dX7_bagsWith_1 : decode cX7_bagsWith 1 = .ok (.istore_n 3, 1) := by decide +kernel
theorem dX7_bagsWith_2 : decode cX7_bagsWith 2 = .ok (.iconst 0, 1) := by decide +kernel
theorem dX7_bagsWith_3 : decode cX7_bagsWith 3 = .ok (.istore 4, 2) := by decide +kernel
theorem dX7_bagsWith_5 : decode cX7_bagsWith 5 = .ok (.iload 4, 2) := by decide +kernel
theorem dX7_bagsWith_7 : decode cX7_bagsWith 7 = .ok (.bipush 8, 2) := by decide +kernel
theorem dX7_bagsWith_9 : decode cX7_bagsWith 9 = .ok (.if_icmp .ge 36, 3) := by decide +kernel
theorem dX7_bagsWith_12 : decode cX7_bagsWith 12 = .ok (.aload_n 0, 1) := by decide +kernel
theorem dX7_bagsWith_13 : decode cX7_bagsWith 13 = .ok (.iload 4, 2) := by decide +kernel
theorem dX7_bagsWith_15 : decode cX7_bagsWith 15 = .ok (.invokevirtual 70, 3) := by decide +kernel
theorem dX7_bagsWith_18 : decode cX7_bagsWith 18 = .ok (.ifCond .eq 21, 3) := by decide +kernel
theorem dX7_bagsWith_21 : decode cX7_bagsWith 21 = .ok (.aload_n 0, 1) := by decide +kernel
theorem dX7_bagsWith_22 : decode cX7_bagsWith 22 = .ok (.iload 4, 2) := by decide +kernel
theorem dX7_bagsWith_24 : decode cX7_bagsWith 24 = .ok (.iload_n 1, 1) := by decide +kernel
theorem dX7_bagsWith_25 : decode cX7_bagsWith 25 = .ok (.invokevirtual 74, 3) := by decide +kernel
theorem dX7_bagsWith_28 : decode cX7_bagsWith 28 = .ok (.iload_n 2, 1) := by decide +kernel
theorem dX7_bagsWith_29 : decode cX7_bagsWith 29 = .ok (.if_icmp .lt 10, 3) := by decide +kernel
theorem dX7_bagsWith_32 : decode cX7_bagsWith 32 = .ok (.iload_n 3, 1) := by decide +kernel
theorem dX7_bagsWith_33 : decode cX7_bagsWith 33 = .ok (.iconst 1, 1) := by decide +kernel
theorem dX7_bagsWith_34 : decode cX7_bagsWith 34 = .ok (.iload 4, 2) := by decide +kernel
theorem dX7_bagsWith_36 : decode cX7_bagsWith 36 = .ok (.ishl, 1) := by decide +kernel
theorem dX7_bagsWith_37 : decode cX7_bagsWith 37 = .ok (.ior, 1) := by decide +kernel
theorem dX7_bagsWith_38 : decode cX7_bagsWith 38 = .ok (.istore_n 3, 1) := by decide +kernel
theorem dX7_bagsWith_39 : decode cX7_bagsWith 39 = .ok (.iinc 4 1, 3) := by decide +kernel
theorem dX7_bagsWith_42 : decode cX7_bagsWith 42 = .ok (.goto (-37), 3) := by decide +kernel
theorem dX7_bagsWith_45 : decode cX7_bagsWith 45 = .ok (.iload_n 3, 1) := by decide +kernel
theorem dX7_bagsWith_46 : decode cX7_bagsWith 46 = .ok (.ireturn, 1) := by decide +kernel
theorem dX7_setOff_0 : decode cX7_setOff 0 = .ok (.aload_n 0, 1) := by decide +kernel
theorem dX7_setOff_1 : decode cX7_setOff 1 = .ok (.iload_n 1, 1) := by decide +kernel
theorem dX7_setOff_2 : decode cX7_setOff 2 = .ok (.iconst 0, 1) := by decide +kernel
theorem dX7_setOff_3 : decode cX7_setOff 3 = .ok (.invokevirtual 74, 3) := by decide +kernel
theorem dX7_setOff_6 : decode cX7_setOff 6 = .ok (.aload_n 0, 1) := by decide +kernel
theorem dX7_setOff_7 : decode cX7_setOff 7 = .ok (.iload_n 2, 1) := by decide +kernel
theorem dX7_setOff_8 : decode cX7_setOff 8 = .ok (.iconst 0, 1) := by decide +kernel
theorem dX7_setOff_9 : decode cX7_setOff 9 = .ok (.invokevirtual 74, 3) := by decide +kernel
theorem dX7_setOff_12 : decode cX7_setOff 12 = .ok (.isub, 1) := by decide +kernel
theorem dX7_setOff_13 : decode cX7_setOff 13 = .ok (.invokestatic 110, 3) := by decide +kernel
theorem dX7_setOff_16 : decode cX7_setOff 16 = .ok (.iconst 2, 1) := by decide +kernel
theorem dX7_setOff_17 : decode cX7_setOff 17 = .ok (.if_icmp .le 32, 3) := by decide +kernel
theorem dX7_setOff_20 : decode cX7_setOff 20 = .ok (.aload_n 0, 1) := by decide +kernel
theorem dX7_setOff_21 : decode cX7_setOff 21 = .ok (.iload_n 1, 1) := by decide +kernel
theorem dX7_setOff_22 : decode cX7_setOff 22 = .ok (.iconst 1, 1) := by decide +kernel
theorem dX7_setOff_23 : decode cX7_setOff 23 = .ok (.invokevirtual 74, 3) := by decide +kernel
theorem dX7_setOff_26 : decode cX7_setOff 26 = .ok (.aload_n 0, 1) := by decide +kernel
theorem dX7_setOff_27 : decode cX7_setOff 27 = .ok (.iload_n 1, 1) := by decide +kernel
theorem dX7_setOff_28 : decode cX7_setOff 28 = .ok (.iconst 2, 1) := by decide +kernel
theorem dX7_setOff_29 : decode cX7_setOff 29 = .ok (.invokevirtual 74, 3) := by decide +kernel
theorem dX7_setOff_32 : decode cX7_setOff 32 = .ok (.iadd, 1) := by decide +kernel
theorem dX7_setOff_33 : decode cX7_setOff 33 = .ok (.aload_n 0, 1) := by decide +kernel
theorem dX7_setOff_34 : decode cX7_setOff 34 = .ok (.iload_n 2, 1) := by decide +kernel
theorem dX7_setOff_35 : decode cX7_setOff 35 = .ok (.iconst 1, 1) := by decide +kernel
theorem dX7_setOff_36 : decode cX7_setOff 36 = .ok (.invokevirtual 74, 3) := by decide +kernel
theorem dX7_setOff_39 : decode cX7_setOff 39 = .ok (.aload_n 0, 1) := by decide +kernel
theorem dX7_setOff_40 : decode cX7_setOff 40 = .ok (.iload_n 2, 1) := by decide +kernel
theorem dX7_setOff_41 : decode cX7_setOff 41 = .ok (.iconst 2, 1) := by decide +kernel
theorem dX7_setOff_42 : decode cX7_setOff 42 = .ok (.invokevirtual 74, 3) := by decide +kernel
theorem dX7_setOff_45 : decode cX7_setOff 45 = .ok (.iadd, 1) := by decide +kernel
theorem dX7_setOff_46 : decode cX7_setOff 46 = .ok (.if_icmp .ne 7, 3) := by decide +kernel
theorem dX7_setOff_49 : decode cX7_setOff 49 = .ok (.iconst 1, 1) := by decide +kernel
theorem dX7_setOff_50 : decode cX7_setOff 50 = .ok (.goto 4, 3) := by decide +kernel
theorem dX7_setOff_53 : decode cX7_setOff 53 = .ok (.iconst 0, 1) := by decide +kernel
theorem dX7_setOff_54 : decode cX7_setOff 54 = .ok (.ireturn, 1) := by decide +kernel
theorem dX7_circleOf_0 : decode cX7_circleOf 0 = .ok (.iconst 0, 1) := by decide +kernel
theorem dX7_circleOf_1 : decode cX7_circleOf 1 = .ok (.istore_n 2, 1) := by decide +kernel
theorem dX7_circleOf_2 : decode cX7_circleOf 2 = .ok (.iconst 0, 1) := by decide +kernel
theorem dX7_circleOf_3 : decode cX7_circleOf 3 = .ok (.istore_n 3, 1) := by decide +kernel
theorem dX7_circleOf_4 : decode cX7_circleOf 4 = .ok (.iload_n 3, 1) := by decide +kernel
theorem dX7_circleOf_5 : decode cX7_circleOf 5 = .ok (.bipush 8, 2) := by decide +kernel
theorem dX7_circleOf_7 : decode cX7_circleOf 7 = .ok (.if_icmp .ge 32, 3) := by decide +kernel
theorem dX7_circleOf_10 : decode cX7_circleOf 10 = .ok (.aload_n 0, 1) := by decide +kernel
theorem dX7_circleOf_11 : decode cX7_circleOf 11 = .ok (.iload_n 3, 1) := by decide +kernel
theorem dX7_circleOf_12 : decode cX7_circleOf 12 = .ok (.invokevirtual 70, 3) := by decide +kernel
theorem dX7_circleOf_15 : decode cX7_circleOf 15 = .ok (.ifCond .eq 18, 3) := by decide +kernel
theorem dX7_circleOf_18 : decode cX7_circleOf 18 = .ok (.aload_n 0, 1) := by decide +kernel
theorem dX7_circleOf_19 : decode cX7_circleOf 19 = .ok (.iload_n 1, 1) := by decide +kernel
theorem dX7_circleOf_20 : decode cX7_circleOf 20 = .ok (.iload_n 3, 1) := by decide +kernel
theorem dX7_circleOf_21 : decode cX7_circleOf 21 = .ok (.invokevirtual 113, 3) := by decide +kernel
theorem dX7_circleOf_24 : decode cX7_circleOf 24 = .ok (.ifCond .eq 9, 3) := by decide +kernel
theorem dX7_circleOf_27 : decode cX7_circleOf 27 = .ok (.iload_n 2, 1) := by decide +kernel
theorem dX7_circleOf_28 : decode cX7_circleOf 28 = .ok (.iconst 1, 1) := by decide +kernel
theorem dX7_circleOf_29 : decode cX7_circleOf 29 = .ok (.iload_n 3, 1) := by decide +kernel
theorem dX7_circleOf_30 : decode cX7_circleOf 30 = .ok (.ishl, 1) := by decide +kernel
theorem dX7_circleOf_31 : decode cX7_circleOf 31 = .ok (.ior, 1) := by decide +kernel
theorem dX7_circleOf_32 : decode cX7_circleOf 32 = .ok (.istore_n 2, 1) := by decide +kernel
theorem dX7_circleOf_33 : decode cX7_circleOf 33 = .ok (.iinc 3 1, 3) := by decide +kernel
theorem dX7_circleOf_36 : decode cX7_circleOf 36 = .ok (.goto (-32), 3) := by decide +kernel
theorem dX7_circleOf_39 : decode cX7_circleOf 39 = .ok (.iload_n 2, 1) := by decide +kernel
theorem dX7_circleOf_40 : decode cX7_circleOf 40 = .ok (.ireturn, 1) := by decide +kernel
theorem dX7_quarrels_0 : decode cX7_quarrels 0 = .ok (.iconst 0, 1) := by decide +kernel
theorem dX7_quarrels_1 : decode cX7_quarrels 1 = .ok (.istore_n 1, 1) := by decide +kernel
theorem dX7_quarrels_2 : decode cX7_quarrels 2 = .ok (.iconst 0, 1) := by decide +kernel
theorem dX7_quarrels_3 : decode cX7_quarrels 3 = .ok (.istore_n 2, 1) := by decide +kernel
theorem dX7_quarrels_4 : decode cX7_quarrels 4 = .ok (.iload_n 2, 1) := by decide +kernel
theorem dX7_quarrels_5 : decode cX7_quarrels 5 = .ok (.bipush 8, 2) := by decide +kernel
theorem dX7_quarrels_7 : decode cX7_quarrels 7 = .ok (.if_icmp .ge 30, 3) := by decide +kernel
theorem dX7_quarrels_10 : decode cX7_quarrels 10 = .ok (.aload_n 0, 1) := by decide +kernel
theorem dX7_quarrels_11 : decode cX7_quarrels 11 = .ok (.iload_n 2, 1) := by decide +kernel
theorem dX7_quarrels_12 : decode cX7_quarrels 12 = .ok (.invokevirtual 70, 3) := by decide +kernel
theorem dX7_quarrels_15 : decode cX7_quarrels 15 = .ok (.ifCond .eq 16, 3) := by decide +kernel
theorem dX7_quarrels_18 : decode cX7_quarrels 18 = .ok (.iload_n 1, 1) := by decide +kernel
theorem dX7_quarrels_19 : decode cX7_quarrels 19 = .ok (.aload_n 0, 1) := by decide +kernel
theorem dX7_quarrels_20 : decode cX7_quarrels 20 = .ok (.iload_n 2, 1) := by decide +kernel
theorem dX7_quarrels_21 : decode cX7_quarrels 21 = .ok (.invokevirtual 117, 3) := by decide +kernel
theorem dX7_quarrels_24 : decode cX7_quarrels 24 = .ok (.invokestatic 120, 3) := by decide +kernel
theorem dX7_quarrels_27 : decode cX7_quarrels 27 = .ok (.iconst 1, 1) := by decide +kernel
theorem dX7_quarrels_28 : decode cX7_quarrels 28 = .ok (.isub, 1) := by decide +kernel
theorem dX7_quarrels_29 : decode cX7_quarrels 29 = .ok (.iadd, 1) := by decide +kernel
theorem dX7_quarrels_30 : decode cX7_quarrels 30 = .ok (.istore_n 1, 1) := by decide +kernel
theorem dX7_quarrels_31 : decode cX7_quarrels 31 = .ok (.iinc 2 1, 3) := by decide +kernel
theorem dX7_quarrels_34 : decode cX7_quarrels 34 = .ok (.goto (-30), 3) := by decide +kernel
theorem dX7_quarrels_37 : decode cX7_quarrels 37 = .ok (.iload_n 1, 1) := by decide +kernel
theorem dX7_quarrels_38 : decode cX7_quarrels 38 = .ok (.iconst 2, 1) := by decide +kernel
theorem dX7_quarrels_39 : decode cX7_quarrels 39 = .ok (.idiv, 1) := by decide +kernel
theorem dX7_quarrels_40 : decode cX7_quarrels 40 = .ok (.ireturn, 1) := by decide +kernel
theorem dJ6_bitCount_0f7a4_0 : decode cJ6_bitCount_0f7a4 0 = .ok (.iload_n 0, 1) := by decide +kernel
theorem dJ6_bitCount_0f7a4_1 : decode cJ6_bitCount_0f7a4 1 = .ok (.iload_n 0, 1) := by decide +kernel
theorem dJ6_bitCount_0f7a4_2 : decode cJ6_bitCount_0f7a4 2 = .ok (.iconst 1, 1) := by decide +kernel
theorem dJ6_bitCount_0f7a4_3 : decode cJ6_bitCount_0f7a4 3 = .ok (.iushr, 1) := by decide +kernel
theorem dJ6_bitCount_0f7a4_4 : decode cJ6_bitCount_0f7a4 4 = .ok (.ldc_w 265, 3) := by decide +kernel
theorem dJ6_bitCount_0f7a4_7 : decode cJ6_bitCount_0f7a4 7 = .ok (.iand, 1) := by decide +kernel
theorem dJ6_bitCount_0f7a4_8 : decode cJ6_bitCount_0f7a4 8 = .ok (.isub, 1) := by decide +kernel
theorem dJ6_bitCount_0f7a4_9 : decode cJ6_bitCount_0f7a4 9 = .ok (.istore_n 0, 1) := by decide +kernel
theorem dJ6_bitCount_0f7a4_10 : decode cJ6_bitCount_0f7a4 10 = .ok (.iload_n 0, 1) := by decide +kernel
theorem dJ6_bitCount_0f7a4_11 : decode cJ6_bitCount_0f7a4 11 = .ok (.ldc_w 266, 3) := by decide +kernel
theorem dJ6_bitCount_0f7a4_14 : decode cJ6_bitCount_0f7a4 14 = .ok (.iand, 1) := by decide +kernel
theorem dJ6_bitCount_0f7a4_15 : decode cJ6_bitCount_0f7a4 15 = .ok (.iload_n 0, 1) := by decide +kernel
theorem dJ6_bitCount_0f7a4_16 : decode cJ6_bitCount_0f7a4 16 = .ok (.iconst 2, 1) := by decide +kernel
theorem dJ6_bitCount_0f7a4_17 : decode cJ6_bitCount_0f7a4 17 = .ok (.iushr, 1) := by decide +kernel
theorem dJ6_bitCount_0f7a4_18 : decode cJ6_bitCount_0f7a4 18 = .ok (.ldc_w 266, 3) := by decide +kernel
theorem dJ6_bitCount_0f7a4_21 : decode cJ6_bitCount_0f7a4 21 = .ok (.iand, 1) := by decide +kernel
theorem dJ6_bitCount_0f7a4_22 : decode cJ6_bitCount_0f7a4 22 = .ok (.iadd, 1) := by decide +kernel
theorem dJ6_bitCount_0f7a4_23 : decode cJ6_bitCount_0f7a4 23 = .ok (.istore_n 0, 1) := by decide +kernel
theorem dJ6_bitCount_0f7a4_24 : decode cJ6_bitCount_0f7a4 24 = .ok (.iload_n 0, 1) := by decide +kernel
theorem dJ6_bitCount_0f7a4_25 : decode cJ6_bitCount_0f7a4 25 = .ok (.iload_n 0, 1) := by decide +kernel
theorem dJ6_bitCount_0f7a4_26 : decode cJ6_bitCount_0f7a4 26 = .ok (.iconst 4, 1) := by decide +kernel
theorem dJ6_bitCount_0f7a4_27 : decode cJ6_bitCount_0f7a4 27 = .ok (.iushr, 1) := by decide +kernel
theorem dJ6_bitCount_0f7a4_28 : decode cJ6_bitCount_0f7a4 28 = .ok (.iadd, 1) := by decide +kernel
theorem dJ6_bitCount_0f7a4_29 : decode cJ6_bitCount_0f7a4 29 = .ok (.ldc_w 267, 3) := by decide +kernel
theorem dJ6_bitCount_0f7a4_32 : decode cJ6_bitCount_0f7a4 32 = .ok (.iand, 1) := by decide +kernel
theorem dJ6_bitCount_0f7a4_33 : decode cJ6_bitCount_0f7a4 33 = .ok (.istore_n 0, 1) := by decide +kernel
theorem dJ6_bitCount_0f7a4_34 : decode cJ6_bitCount_0f7a4 34 = .ok (.iload_n 0, 1) := by decide +kernel
theorem dJ6_bitCount_0f7a4_35 : decode cJ6_bitCount_0f7a4 35 = .ok (.iload_n 0, 1) := by decide +kernel
theorem dJ6_bitCount_0f7a4_36 : decode cJ6_bitCount_0f7a4 36 = .ok (.bipush 8, 2) := by decide +kernel
theorem dJ6_bitCount_0f7a4_38 : decode cJ6_bitCount_0f7a4 38 = .ok (.iushr, 1) := by decide +kernel
theorem dJ6_bitCount_0f7a4_39 : decode cJ6_bitCount_0f7a4 39 = .ok (.iadd, 1) := by decide +kernel
theorem dJ6_bitCount_0f7a4_40 : decode cJ6_bitCount_0f7a4 40 = .ok (.istore_n 0, 1) := by decide +kernel
theorem dJ6_bitCount_0f7a4_41 : decode cJ6_bitCount_0f7a4 41 = .ok (.iload_n 0, 1) := by decide +kernel
theorem dJ6_bitCount_0f7a4_42 : decode cJ6_bitCount_0f7a4 42 = .ok (.iload_n 0, 1) := by decide +kernel
theorem dJ6_bitCount_0f7a4_43 : decode cJ6_bitCount_0f7a4 43 = .ok (.bipush 16, 2) := by decide +kernel
theorem dJ6_bitCount_0f7a4_45 : decode cJ6_bitCount_0f7a4 45 = .ok (.iushr, 1) := by decide +kernel
theorem dJ6_bitCount_0f7a4_46 : decode cJ6_bitCount_0f7a4 46 = .ok (.iadd, 1) := by decide +kernel
theorem dJ6_bitCount_0f7a4_47 : decode cJ6_bitCount_0f7a4 47 = .ok (.istore_n 0, 1) := by decide +kernel
theorem dJ6_bitCount_0f7a4_48 : decode cJ6_bitCount_0f7a4 48 = .ok (.iload_n 0, 1) := by decide +kernel
theorem dJ6_bitCount_0f7a4_49 : decode cJ6_bitCount_0f7a4 49 = .ok (.bipush 63, 2) := by decide +kernel
theorem dJ6_bitCount_0f7a4_51 : decode cJ6_bitCount_0f7a4 51 = .ok (.iand, 1) := by decide +kernel
theorem dJ6_bitCount_0f7a4_52 : decode cJ6_bitCount_0f7a4 52 = .ok (.ireturn, 1) := by decide +kernel
