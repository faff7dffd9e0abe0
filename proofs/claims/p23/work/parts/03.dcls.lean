theorem dX0_init_0 : decode cX0_init 0 = .ok (.aload_n 0, 1) := by decide +kernel
theorem dX0_init_1 : decode cX0_init 1 = .ok (.invokespecial 3, 3) := by decide +kernel
theorem dX0_init_4 : decode cX0_init 4 = .ok (.aload_n 0, 1) := by decide +kernel
theorem dX0_init_5 : decode cX0_init 5 = .ok (.bipush 6, 2) := by decide +kernel
theorem dX0_init_7 : decode cX0_init 7 = .ok (.anewarray 9, 3) := by decide +kernel
theorem dX0_init_10 : decode cX0_init 10 = .ok (.putfield 11, 3) := by decide +kernel
theorem dX0_init_13 : decode cX0_init 13 = .ok (.iconst 0, 1) := by decide +kernel
theorem dX0_init_14 : decode cX0_init 14 = .ok (.istore_n 1, 1) := by decide +kernel
theorem dX0_init_15 : decode cX0_init 15 = .ok (.iload_n 1, 1) := by decide +kernel
theorem dX0_init_16 : decode cX0_init 16 = .ok (.aload_n 0, 1) := by decide +kernel
theorem dX0_init_17 : decode cX0_init 17 = .ok (.getfield 11, 3) := by decide +kernel
theorem dX0_init_20 : decode cX0_init 20 = .ok (.arraylength, 1) := by decide +kernel
theorem dX0_init_21 : decode cX0_init 21 = .ok (.if_icmp .ge 22, 3) := by decide +kernel
theorem dX0_init_24 : decode cX0_init 24 = .ok (.aload_n 0, 1) := by decide +kernel
theorem dX0_init_25 : decode cX0_init 25 = .ok (.getfield 11, 3) := by decide +kernel
theorem dX0_init_28 : decode cX0_init 28 = .ok (.iload_n 1, 1) := by decide +kernel
theorem dX0_init_29 : decode cX0_init 29 = .ok (.new 9, 3) := by decide +kernel
theorem dX0_init_32 : decode cX0_init 32 = .ok (.dup, 1) := by decide +kernel
theorem dX0_init_33 : decode cX0_init 33 = .ok (.invokespecial 17, 3) := by decide +kernel
theorem dX0_init_36 : decode cX0_init 36 = .ok (.aastore, 1) := by decide +kernel
theorem dX0_init_37 : decode cX0_init 37 = .ok (.iinc 1 1, 3) := by decide +kernel
theorem dX0_init_40 : decode cX0_init 40 = .ok (.goto (-25), 3) := by decide +kernel
theorem dX0_init_43 : decode cX0_init 43 = .ok (.return_, 1) := by decide +kernel
theorem dX0_kept_0 : decode cX0_kept 0 = .ok (.aload_n 0, 1) := by decide +kernel
theorem dX0_kept_1 : decode cX0_kept 1 = .ok (.getfield 18, 3) := by decide +kernel
theorem dX0_kept_4 : decode cX0_kept 4 = .ok (.ireturn, 1) := by decide +kernel
theorem dX0_remember_0 : decode cX0_remember 0 = .ok (.aload_n 0, 1) := by decide +kernel
theorem dX0_remember_1 : decode cX0_remember 1 = .ok (.getfield 22, 3) := by decide +kernel
theorem dX0_remember_4 : decode cX0_remember 4 = .ok (.aload_n 0, 1) := by decide +kernel
theorem dX0_remember_5 : decode cX0_remember 5 = .ok (.getfield 11, 3) := by decide +kernel
theorem dX0_remember_8 : decode cX0_remember 8 = .ok (.arraylength, 1) := by decide +kernel
theorem dX0_remember_9 : decode cX0_remember 9 = .ok (.if_icmp .lt 8, 3) := by decide +kernel
theorem dX0_remember_12 : decode cX0_remember 12 = .ok (.aload_n 0, 1) := by decide +kernel
theorem dX0_remember_13 : decode cX0_remember 13 = .ok (.iconst 0, 1) := by decide +kernel
theorem dX0_remember_14 : decode cX0_remember 14 = .ok (.putfield 22, 3) := by decide +kernel
theorem dX0_remember_17 : decode cX0_remember 17 = .ok (.aload_n 0, 1) := by decide +kernel
theorem dX0_remember_18 : decode cX0_remember 18 = .ok (.getfield 11, 3) := by decide +kernel
theorem dX0_remember_21 : decode cX0_remember 21 = .ok (.aload_n 0, 1) := by decide +kernel
theorem dX0_remember_22 : decode cX0_remember 22 = .ok (.getfield 22, 3) := by decide +kernel
theorem dX0_remember_25 : decode cX0_remember 25 = .ok (.aaload, 1) := by decide +kernel
theorem dX0_remember_26 : decode cX0_remember 26 = .ok (.aload_n 1, 1) := by decide +kernel
theorem dX0_remember_27 : decode cX0_remember 27 = .ok (.invokevirtual 25, 3) := by decide +kernel
theorem dX0_remember_30 : decode cX0_remember 30 = .ok (.aload_n 0, 1) := by decide +kernel
theorem dX0_remember_31 : decode cX0_remember 31 = .ok (.dup, 1) := by decide +kernel
theorem dX0_remember_32 : decode cX0_remember 32 = .ok (.getfield 22, 3) := by decide +kernel
theorem dX0_remember_35 : decode cX0_remember 35 = .ok (.iconst 1, 1) := by decide +kernel
theorem dX0_remember_36 : decode cX0_remember 36 = .ok (.iadd, 1) := by decide +kernel
theorem dX0_remember_37 : decode cX0_remember 37 = .ok (.putfield 22, 3) := by decide +kernel
theorem dX0_remember_40 : decode cX0_remember 40 = .ok (.aload_n 0, 1) := by decide +kernel
theorem dX0_remember_41 : decode cX0_remember 41 = .ok (.aload_n 0, 1) := by decide +kernel
theorem dX0_remember_42 : decode cX0_remember 42 = .ok (.getfield 18, 3) := by decide +kernel
theorem dX0_remember_45 : decode cX0_remember 45 = .ok (.iconst 1, 1) := by decide +kernel
theorem dX0_remember_46 : decode cX0_remember 46 = .ok (.iadd, 1) := by decide +kernel
theorem dX0_remember_47 : decode cX0_remember 47 = .ok (.aload_n 0, 1) := by decide +kernel
theorem dX0_remember_48 : decode cX0_remember 48 = .ok (.getfield 11, 3) := by decide +kernel
theorem dX0_remember_51 : decode cX0_remember 51 = .ok (.arraylength, 1) := by decide +kernel
theorem dX0_remember_52 : decode cX0_remember 52 = .ok (.invokestatic 29, 3) := by decide +kernel
theorem dX0_remember_55 : decode cX0_remember 55 = .ok (.putfield 18, 3) := by decide +kernel
theorem dX0_remember_58 : decode cX0_remember 58 = .ok (.return_, 1) := by decide +kernel
theorem dX1_init_0 : decode cX1_init 0 = .ok (.aload_n 0, 1) := by decide +kernel
theorem dX1_init_1 : decode cX1_init 1 = .ok (.invokespecial 3, 3) := by decide +kernel
theorem dX1_init_4 : decode cX1_init 4 = .ok (.aload_n 0, 1) := by decide +kernel
theorem dX1_init_5 : decode cX1_init 5 = .ok (.bipush 24, 2) := by decide +kernel
theorem dX1_init_7 : decode cX1_init 7 = .ok (.newarray .int, 2) := by decide +kernel
theorem dX1_init_9 : decode cX1_init 9 = .ok (.putfield 9, 3) := by decide +kernel
theorem dX1_init_12 : decode cX1_init 12 = .ok (.return_, 1) := by decide +kernel
theorem dX1_length_0 : decode cX1_length 0 = .ok (.aload_n 0, 1) := by decide +kernel
theorem dX1_length_1 : decode cX1_length 1 = .ok (.getfield 15, 3) := by decide +kernel
theorem dX1_length_4 : decode cX1_length 4 = .ok (.ireturn, 1) := by decide +kernel
theorem dX1_numberAt_0 : decode cX1_numberAt 0 = .ok (.iload_n 1, 1) := by decide +kernel
theorem dX1_numberAt_1 : decode cX1_numberAt 1 = .ok (.ifCond .lt 20, 3) := by decide +kernel
theorem dX1_numberAt_4 : decode cX1_numberAt 4 = .ok (.iload_n 1, 1) := by decide +kernel
theorem dX1_numberAt_5 : decode cX1_numberAt 5 = .ok (.aload_n 0, 1) := by decide +kernel
theorem dX1_numberAt_6 : decode cX1_numberAt 6 = .ok (.getfield 15, 3) := by decide +kernel
theorem dX1_numberAt_9 : decode cX1_numberAt 9 = .ok (.if_icmp .ge 12, 3) := by decide +kernel
theorem dX1_numberAt_12 : decode cX1_numberAt 12 = .ok (.aload_n 0, 1) := by decide +kernel
theorem dX1_numberAt_13 : decode cX1_numberAt 13 = .ok (.getfield 9, 3) := by decide +kernel
theorem dX1_numberAt_16 : decode cX1_numberAt 16 = .ok (.iload_n 1, 1) := by decide +kernel
theorem dX1_numberAt_17 : decode cX1_numberAt 17 = .ok (.iaload, 1) := by decide +kernel
theorem dX1_numberAt_18 : decode cX1_numberAt 18 = .ok (.goto 5, 3) := by decide +kernel
theorem dX1_numberAt_21 : decode cX1_numberAt 21 = .ok (.bipush (-6), 2) := by decide +kernel
theorem dX1_numberAt_23 : decode cX1_numberAt 23 = .ok (.ireturn, 1) := by decide +kernel
theorem dX1_placeOf_0 : decode cX1_placeOf 0 = .ok (.iconst 0, 1) := by decide +kernel
theorem dX1_placeOf_1 : decode cX1_placeOf 1 = .ok (.istore_n 2, 1) := by decide +kernel
theorem dX1_placeOf_2 : decode cX1_placeOf 2 = .ok (.iload_n 2, 1) := by decide +kernel
theorem dX1_placeOf_3 : decode cX1_placeOf 3 = .ok (.aload_n 0, 1) := by decide +kernel
theorem dX1_placeOf_4 : decode cX1_placeOf 4 = .ok (.getfield 15, 3) := by decide +kernel
theorem dX1_placeOf_7 : decode cX1_placeOf 7 = .ok (.if_icmp .ge 21, 3) := by decide +kernel
theorem dX1_placeOf_10 : decode cX1_placeOf 10 = .ok (.aload_n 0, 1) := by decide +kernel
theorem dX1_placeOf_11 : decode cX1_placeOf 11 = .ok (.getfield 9, 3) := by decide +kernel
theorem dX1_placeOf_14 : decode cX1_placeOf 14 = .ok (.iload_n 2, 1) := by decide +kernel
theorem dX1_placeOf_15 : decode cX1_placeOf 15 = .ok (.iaload, 1) := by decide +kernel
theorem dX1_placeOf_16 : decode cX1_placeOf 16 = .ok (.iload_n 1, 1) := by decide +kernel
theorem dX1_placeOf_17 : decode cX1_placeOf 17 = .ok (.if_icmp .ne 5, 3) := by decide +kernel
theorem dX1_placeOf_20 : decode cX1_placeOf 20 = .ok (.iload_n 2, 1) := by decide +kernel
theorem dX1_placeOf_21 : decode cX1_placeOf 21 = .ok (.ireturn, 1) := by decide +kernel
theorem dX1_placeOf_22 : decode cX1_placeOf 22 = .ok (.iinc 2 1, 3) := by decide +kernel
theorem dX1_placeOf_25 : decode cX1_placeOf 25 = .ok (.goto (-23), 3) := by decide +kernel
theorem dX1_placeOf_28 : decode cX1_placeOf 28 = .ok (.bipush (-6), 2) := by decide +kernel
theorem dX1_placeOf_30 : decode cX1_placeOf 30 = .ok (.ireturn, 1) := by decide +kernel
theorem dX1_append_0 : decode cX1_append 0 = .ok (.aload_n 0, 1) := by decide +kernel
theorem dX1_append_1 : decode cX1_append 1 = .ok (.getfield 15, 3) := by decide +kernel
theorem dX1_append_4 : decode cX1_append 4 = .ok (.aload_n 0, 1) := by decide +kernel
theorem dX1_append_5 : decode cX1_append 5 = .ok (.getfield 9, 3) := by decide +kernel
theorem dX1_append_8 : decode cX1_append 8 = .ok (.arraylength, 1) := by decide +kernel
theorem dX1_append_9 : decode cX1_append 9 = .ok (.if_icmp .ge 23, 3) := by decide +kernel
theorem dX1_append_12 : decode cX1_append 12 = .ok (.aload_n 0, 1) := by decide +kernel
theorem dX1_append_13 : decode cX1_append 13 = .ok (.getfield 9, 3) := by decide +kernel
theorem dX1_append_16 : decode cX1_append 16 = .ok (.aload_n 0, 1) := by decide +kernel
theorem dX1_append_17 : decode cX1_append 17 = .ok (.getfield 15, 3) := by decide +kernel
theorem dX1_append_20 : decode cX1_append 20 = .ok (.iload_n 1, 1) := by decide +kernel
theorem dX1_append_21 : decode cX1_append 21 = .ok (.iastore, 1) := by decide +kernel
theorem dX1_append_22 : decode cX1_append 22 = .ok (.aload_n 0, 1) := by decide +kernel
theorem dX1_append_23 : decode cX1_append 23 = .ok (.dup, 1) := by decide +kernel
theorem dX1_append_24 : decode cX1_append 24 = .ok (.getfield 15, 3) := by decide +kernel
theorem dX1_append_27 : decode cX1_append 27 = .ok (.iconst 1, 1) := by decide +kernel
theorem dX1_append_28 : decode cX1_append 28 = .ok (.iadd, 1) := by decide +kernel
theorem dX1_append_29 : decode cX1_append 29 = .ok (.putfield 15, 3) := by decide +kernel
theorem dX1_append_32 : decode cX1_append 32 = .ok (.return_, 1) := by decide +kernel
theorem dX1_remove_0 : decode cX1_remove 0 = .ok (.aload_n 0, 1) := by decide +kernel
theorem dX1_remove_1 : decode cX1_remove 1 = .ok (.iload_n 1, 1) := by decide +kernel
theorem dX1_remove_2 : decode cX1_remove 2 = .ok (.invokevirtual 19, 3) := by decide +kernel
theorem dX1_remove_5 : decode cX1_remove 5 = .ok (.istore_n 2, 1) := by decide +kernel
theorem dX1_remove_6 : decode cX1_remove 6 = .ok (.iload_n 2, 1) := by decide +kernel
theorem dX1_remove_7 : decode cX1_remove 7 = .ok (.bipush (-6), 2) := by decide +kernel
theorem dX1_remove_9 : decode cX1_remove 9 = .ok (.if_icmp .ne 4, 3) := by decide +kernel
theorem dX1_remove_12 : decode cX1_remove 12 = .ok (.return_, 1) := by decide +kernel
theorem dX1_remove_13 : decode cX1_remove 13 = .ok (.aload_n 0, 1) := by decide +kernel
theorem dX1_remove_14 : decode cX1_remove 14 = .ok (.dup, 1) := by decide +kernel
theorem dX1_remove_15 : decode cX1_remove 15 = .ok (.getfield 15, 3) := by decide +kernel
theorem dX1_remove_18 : decode cX1_remove 18 = .ok (.iconst 1, 1) := by decide +kernel
theorem dX1_remove_19 : decode cX1_remove 19 = .ok (.isub, 1) := by decide +kernel
theorem dX1_remove_20 : decode cX1_remove 20 = .ok (.putfield 15, 3) := by decide +kernel
theorem dX1_remove_23 : decode cX1_remove 23 = .ok (.iload_n 2, 1) := by decide +kernel
theorem dX1_remove_24 : decode cX1_remove 24 = .ok (.istore_n 3, 1) := by decide +kernel
theorem dX1_remove_25 : decode cX1_remove 25 = .ok (.iload_n 3, 1) := by decide +kernel
theorem dX1_remove_26 : decode cX1_remove 26 = .ok (.aload_n 0, 1) := by decide +kernel
theorem dX1_remove_27 : decode cX1_remove 27 = .ok (.getfield 15, 3) := by decide +kernel
theorem dX1_remove_30 : decode cX1_remove 30 = .ok (.if_icmp .ge 23, 3) := by decide +kernel
theorem dX1_remove_33 : decode cX1_remove 33 = .ok (.aload_n 0, 1) := by decide +kernel
theorem dX1_remove_34 : decode cX1_remove 34 = .ok (.getfield 9, 3) := by decide +kernel
theorem dX1_remove_37 : decode cX1_remove 37 = .ok (.iload_n 3, 1) := by decide +kernel
theorem dX1_remove_38 : decode cX1_remove 38 = .ok (.aload_n 0, 1) := by decide +kernel
theorem dX1_remove_39 : decode cX1_remove 39 = .ok (.getfield 9, 3) := by decide +kernel
theorem dX1_remove_42 : decode cX1_remove 42 = .ok (.iload_n 3, 1) := by decide +kernel
theorem dX1_remove_43 : decode cX1_remove 43 = .ok (.iconst 1, 1) := by decide +kernel
theorem dX1_remove_44 : decode cX1_remove 44 = .ok (.iadd, 1) := by decide +kernel
theorem dX1_remove_45 : decode cX1_remove 45 = .ok (.iaload, 1) := by decide +kernel
theorem dX1_remove_46 : decode cX1_remove 46 = .ok (.iastore, 1) := by decide +kernel
theorem dX1_remove_47 : decode cX1_remove 47 = .ok (.iinc 3 1, 3) := by decide +kernel
theorem dX1_remove_50 : decode cX1_remove 50 = .ok (.goto (-25), 3) := by decide +kernel
theorem dX1_remove_53 : decode cX1_remove 53 = .ok (.return_, 1) := by decide +kernel
theorem dX1_become_0 : decode cX1_become 0 = .ok (.aload_n 1, 1) := by decide +kernel
theorem dX1_become_1 : decode cX1_become 1 = .ok (.getfield 9, 3) := by decide +kernel
theorem dX1_become_4 : decode cX1_become 4 = .ok (.iconst 0, 1) := by decide +kernel
theorem dX1_become_5 : decode cX1_become 5 = .ok (.aload_n 0, 1) := by decide +kernel
theorem dX1_become_6 : decode cX1_become 6 = .ok (.getfield 9, 3) := by decide +kernel
theorem dX1_become_9 : decode cX1_become 9 = .ok (.iconst 0, 1) := by decide +kernel
theorem dX1_become_10 : decode cX1_become 10 = .ok (.bipush 24, 2) := by decide +kernel
theorem dX1_become_12 : decode cX1_become 12 = .ok (.invokestatic 23, 3) := by decide +kernel
theorem dX1_become_15 : decode cX1_become 15 = .ok (.aload_n 0, 1) := by decide +kernel
theorem dX1_become_16 : decode cX1_become 16 = .ok (.aload_n 1, 1) := by decide +kernel
theorem dX1_become_17 : decode cX1_become 17 = .ok (.getfield 15, 3) := by decide +kernel
theorem dX1_become_20 : decode cX1_become 20 = .ok (.putfield 15, 3) := by decide +kernel
theorem dX1_become_23 : decode cX1_become 23 = .ok (.return_, 1) := by decide +kernel
theorem dX2_init_0 : decode cX2_init 0 = .ok (.aload_n 0, 1) := by decide +kernel
theorem dX2_init_1 : decode cX2_init 1 = .ok (.invokespecial 3, 3) := by decide +kernel
theorem dX2_init_4 : decode cX2_init 4 = .ok (.aload_n 0, 1) := by decide +kernel
theorem dX2_init_5 : decode cX2_init 5 = .ok (.getstatic 9, 3) := by decide +kernel
theorem dX2_init_8 : decode cX2_init 8 = .ok (.invokevirtual 13, 3) := by decide +kernel
theorem dX2_init_11 : decode cX2_init 11 = .ok (.checkcast 14, 3) := by decide +kernel
theorem dX2_init_14 : decode cX2_init 14 = .ok (.putfield 18, 3) := by decide +kernel
theorem dX2_init_17 : decode cX2_init 17 = .ok (.aload_n 0, 1) := by decide +kernel
theorem dX2_init_18 : decode cX2_init 18 = .ok (.bipush 6, 2) := by decide +kernel
theorem dX2_init_20 : decode cX2_init 20 = .ok (.anewarray 23, 3) := by decide +kernel
theorem dX2_init_23 : decode cX2_init 23 = .ok (.putfield 25, 3) := by decide +kernel
theorem dX2_init_26 : decode cX2_init 26 = .ok (.aload_n 0, 1) := by decide +kernel
theorem dX2_init_27 : decode cX2_init 27 = .ok (.bipush 24, 2) := by decide +kernel
theorem dX2_init_29 : decode cX2_init 29 = .ok (.anewarray 29, 3) := by decide +kernel
theorem dX2_init_32 : decode cX2_init 32 = .ok (.putfield 31, 3) := by decide +kernel
theorem dX2_init_35 : decode cX2_init 35 = .ok (.iconst 0, 1) := by decide +kernel
theorem dX2_init_36 : decode cX2_init 36 = .ok (.istore_n 1, 1) := by decide +kernel
theorem dX2_init_37 : decode cX2_init 37 = .ok (.iload_n 1, 1) := by decide +kernel
theorem dX2_init_38 : decode cX2_init 38 = .ok (.aload_n 0, 1) := by decide +kernel
theorem dX2_init_39 : decode cX2_init 39 = .ok (.getfield 25, 3) := by decide +kernel
theorem dX2_init_42 : decode cX2_init 42 = .ok (.arraylength, 1) := by decide +kernel
theorem dX2_init_43 : decode cX2_init 43 = .ok (.if_icmp .ge 28, 3) := by decide +kernel
theorem dX2_init_46 : decode cX2_init 46 = .ok (.aload_n 0, 1) := by decide +kernel
theorem dX2_init_47 : decode cX2_init 47 = .ok (.getfield 25, 3) := by decide +kernel
theorem dX2_init_50 : decode cX2_init 50 = .ok (.iload_n 1, 1) := by decide +kernel
theorem dX2_init_51 : decode cX2_init 51 = .ok (.new 23, 3) := by decide +kernel
theorem dX2_init_54 : decode cX2_init 54 = .ok (.dup, 1) := by decide +kernel
theorem dX2_init_55 : decode cX2_init 55 = .ok (.aload_n 0, 1) := by decide +kernel
theorem dX2_init_56 : decode cX2_init 56 = .ok (.getfield 18, 3) := by decide +kernel
theorem dX2_init_59 : decode cX2_init 59 = .ok (.iconst 1, 1) := by decide +kernel
theorem dX2_init_60 : decode cX2_init 60 = .ok (.iaload, 1) := by decide +kernel
theorem dX2_init_61 : decode cX2_init 61 = .ok (.invokespecial 35, 3) := by decide +kernel
theorem dX2_init_64 : decode cX2_init 64 = .ok (.aastore, 1) := by decide +kernel
theorem dX2_init_65 : decode cX2_init 65 = .ok (.iinc 1 1, 3) := by decide +kernel
theorem dX2_init_68 : decode cX2_init 68 = .ok (.goto (-31), 3) := by decide +kernel
theorem dX2_init_71 : decode cX2_init 71 = .ok (.iconst 0, 1) := by decide +kernel
theorem dX2_init_72 : decode cX2_init 72 = .ok (.istore_n 1, 1) := by decide +kernel
theorem dX2_init_73 : decode cX2_init 73 = .ok (.iload_n 1, 1) := by decide +kernel
theorem dX2_init_74 : decode cX2_init 74 = .ok (.aload_n 0, 1) := by decide +kernel
theorem dX2_init_75 : decode cX2_init 75 = .ok (.getfield 31, 3) := by decide +kernel
theorem dX2_init_78 : decode cX2_init 78 = .ok (.arraylength, 1) := by decide +kernel
theorem dX2_init_79 : decode cX2_init 79 = .ok (.if_icmp .ge 23, 3) := by decide +kernel
theorem dX2_init_82 : decode cX2_init 82 = .ok (.aload_n 0, 1) := by decide +kernel
theorem dX2_init_83 : decode cX2_init 83 = .ok (.getfield 31, 3) := by decide +kernel
theorem dX2_init_86 : decode cX2_init 86 = .ok (.iload_n 1, 1) := by decide +kernel
theorem dX2_init_87 : decode cX2_init 87 = .ok (.new 29, 3) := by decide +kernel
theorem dX2_init_90 : decode cX2_init 90 = .ok (.dup, 1) := by decide +kernel
theorem dX2_init_91 : decode cX2_init 91 = .ok (.iload_n 1, 1) := by decide +kernel
theorem dX2_init_92 : decode cX2_init 92 = .ok (.invokespecial 38, 3) := by decide +kernel
theorem dX2_init_95 : decode cX2_init 95 = .ok (.aastore, 1) := by decide +kernel
theorem dX2_init_96 : decode cX2_init 96 = .ok (.iinc 1 1, 3) := by decide +kernel
theorem dX2_init_99 : decode cX2_init 99 = .ok (.goto (-26), 3) := by decide +kernel
theorem dX2_init_102 : decode cX2_init 102 = .ok (.return_, 1) := by decide +kernel
theorem dX2_become_0 : decode cX2_become 0 = .ok (.aload_n 1, 1) := by decide +kernel
theorem dX2_become_1 : decode cX2_become 1 = .ok (.getfield 18, 3) := by decide +kernel
theorem dX2_become_4 : decode cX2_become 4 = .ok (.iconst 0, 1) := by decide +kernel
theorem dX2_become_5 : decode cX2_become 5 = .ok (.aload_n 0, 1) := by decide +kernel
theorem dX2_become_6 : decode cX2_become 6 = .ok (.getfield 18, 3) := by decide +kernel
theorem dX2_become_9 : decode cX2_become 9 = .ok (.iconst 0, 1) := by decide +kernel
theorem dX2_become_10 : decode cX2_become 10 = .ok (.getstatic 9, 3) := by decide +kernel
theorem dX2_become_13 : decode cX2_become 13 = .ok (.arraylength, 1) := by decide +kernel
theorem dX2_become_14 : decode cX2_become 14 = .ok (.invokestatic 39, 3) := by decide +kernel
theorem dX2_become_17 : decode cX2_become 17 = .ok (.iconst 0, 1) := by decide +kernel
theorem dX2_become_18 : decode cX2_become 18 = .ok (.istore_n 2, 1) := by decide +kernel
theorem dX2_become_19 : decode cX2_become 19 = .ok (.iload_n 2, 1) := by decide +kernel
theorem dX2_become_20 : decode cX2_become 20 = .ok (.bipush 6, 2) := by decide +kernel
theorem dX2_become_22 : decode cX2_become 22 = .ok (.if_icmp .ge 24, 3) := by decide +kernel
theorem dX2_become_25 : decode cX2_become 25 = .ok (.aload_n 0, 1) := by decide +kernel
theorem dX2_become_26 : decode cX2_become 26 = .ok (.getfield 25, 3) := by decide +kernel
theorem dX2_become_29 : decode cX2_become 29 = .ok (.iload_n 2, 1) := by decide +kernel
theorem dX2_become_30 : decode cX2_become 30 = .ok (.aaload, 1) := by decide +kernel
theorem dX2_become_31 : decode cX2_become 31 = .ok (.aload_n 1, 1) := by decide +kernel
theorem dX2_become_32 : decode cX2_become 32 = .ok (.getfield 25, 3) := by decide +kernel
theorem dX2_become_35 : decode cX2_become 35 = .ok (.iload_n 2, 1) := by decide +kernel
theorem dX2_become_36 : decode cX2_become 36 = .ok (.aaload, 1) := by decide +kernel
theorem dX2_become_37 : decode cX2_become 37 = .ok (.invokevirtual 45, 3) := by decide +kernel
theorem dX2_become_40 : decode cX2_become 40 = .ok (.iinc 2 1, 3) := by decide +kernel
theorem dX2_become_43 : decode cX2_become 43 = .ok (.goto (-24), 3) := by decide +kernel
theorem dX2_become_46 : decode cX2_become 46 = .ok (.iconst 0, 1) := by decide +kernel
theorem dX2_become_47 : decode cX2_become 47 = .ok (.istore_n 2, 1) := by decide +kernel
theorem dX2_become_48 : decode cX2_become 48 = .ok (.iload_n 2, 1) := by decide +kernel
theorem dX2_become_49 : decode cX2_become 49 = .ok (.bipush 24, 2) := by decide +kernel
theorem dX2_become_51 : decode cX2_become 51 = .ok (.if_icmp .ge 24, 3) := by decide +kernel
theorem dX2_become_54 : decode cX2_become 54 = .ok (.aload_n 0, 1) := by decide +kernel
theorem dX2_become_55 : decode cX2_become 55 = .ok (.getfield 31, 3) := by decide +kernel
theorem dX2_become_58 : decode cX2_become 58 = .ok (.iload_n 2, 1) := by decide +kernel
theorem dX2_become_59 : decode cX2_become 59 = .ok (.aaload, 1) := by decide +kernel
theorem dX2_become_60 : decode cX2_become 60 = .ok (.aload_n 1, 1) := by decide +kernel
theorem dX2_become_61 : decode cX2_become 61 = .ok (.getfield 31, 3) := by decide +kernel
theorem dX2_become_64 : decode cX2_become 64 = .ok (.iload_n 2, 1) := by decide +kernel
theorem dX2_become_65 : decode cX2_become 65 = .ok (.aaload, 1) := by decide +kernel
theorem dX2_become_66 : decode cX2_become 66 = .ok (.invokevirtual 49, 3) := by decide +kernel
theorem dX2_become_69 : decode cX2_become 69 = .ok (.iinc 2 1, 3) := by decide +kernel
theorem dX2_become_72 : decode cX2_become 72 = .ok (.goto (-24), 3) := by decide +kernel
theorem dX2_become_75 : decode cX2_become 75 = .ok (.aload_n 0, 1) := by decide +kernel
theorem dX2_become_76 : decode cX2_become 76 = .ok (.aload_n 1, 1) := by decide +kernel
theorem dX2_become_77 : decode cX2_become 77 = .ok (.getfield 52, 3) := by decide +kernel
theorem dX2_become_80 : decode cX2_become 80 = .ok (.putfield 52, 3) := by decide +kernel
theorem dX2_become_83 : decode cX2_become 83 = .ok (.aload_n 0, 1) := by decide +kernel
theorem dX2_become_84 : decode cX2_become 84 = .ok (.aload_n 1, 1) := by decide +kernel
theorem dX2_become_85 : decode cX2_become 85 = .ok (.getfield 56, 3) := by decide +kernel
theorem dX2_become_88 : decode cX2_become 88 = .ok (.putfield 56, 3) := by decide +kernel
theorem dX2_become_91 : decode cX2_become 91 = .ok (.aload_n 0, 1) := by decide +kernel
theorem dX2_become_92 : decode cX2_become 92 = .ok (.aload_n 1, 1) := by decide +kernel
theorem dX2_become_93 : decode cX2_become 93 = .ok (.getfield 59, 3) := by decide +kernel
theorem dX2_become_96 : decode cX2_become 96 = .ok (.putfield 59, 3) := by decide +kernel
theorem dX2_become_99 : decode cX2_become 99 = .ok (.aload_n 0, 1) := by decide +kernel
theorem dX2_become_100 : decode cX2_become 100 = .ok (.aload_n 1, 1) := by decide +kernel
theorem dX2_become_101 : decode cX2_become 101 = .ok (.getfield 62, 3) := by decide +kernel
theorem dX2_become_104 : decode cX2_become 104 = .ok (.putfield 62, 3) := by decide +kernel
theorem dX2_become_107 : decode cX2_become 107 = .ok (.return_, 1) := by decide +kernel
theorem dX2_windowAt_0 : decode cX2_windowAt 0 = .ok (.iload_n 1, 1) := by decide +kernel
theorem dX2_windowAt_1 : decode cX2_windowAt 1 = .ok (.ifCond .lt 21, 3) := by decide +kernel
theorem dX2_windowAt_4 : decode cX2_windowAt 4 = .ok (.iload_n 1, 1) := by decide +kernel
theorem dX2_windowAt_5 : decode cX2_windowAt 5 = .ok (.aload_n 0, 1) := by decide +kernel
theorem dX2_windowAt_6 : decode cX2_windowAt 6 = .ok (.getfield 25, 3) := by decide +kernel
theorem dX2_windowAt_9 : decode cX2_windowAt 9 = .ok (.arraylength, 1) := by decide +kernel
theorem dX2_windowAt_10 : decode cX2_windowAt 10 = .ok (.if_icmp .ge 12, 3) := by decide +kernel
theorem dX2_windowAt_13 : decode cX2_windowAt 13 = .ok (.aload_n 0, 1) := by decide +kernel
theorem dX2_windowAt_14 : decode cX2_windowAt 14 = .ok (.getfield 25, 3) := by decide +kernel
theorem dX2_windowAt_17 : decode cX2_windowAt 17 = .ok (.iload_n 1, 1) := by decide +kernel
theorem dX2_windowAt_18 : decode cX2_windowAt 18 = .ok (.aaload, 1) := by decide +kernel
theorem dX2_windowAt_19 : decode cX2_windowAt 19 = .ok (.goto 4, 3) := by decide +kernel
theorem dX2_windowAt_22 : decode cX2_windowAt 22 = .ok (.aconst_null, 1) := by decide +kernel
theorem dX2_windowAt_23 : decode cX2_windowAt 23 = .ok (.areturn, 1) := by decide +kernel
theorem dX2_personAt_0 : decode cX2_personAt 0 = .ok (.iload_n 1, 1) := by decide +kernel
theorem dX2_personAt_1 : decode cX2_personAt 1 = .ok (.ifCond .lt 29, 3) := by decide +kernel
theorem dX2_personAt_4 : decode cX2_personAt 4 = .ok (.iload_n 1, 1) := by decide +kernel
theorem dX2_personAt_5 : decode cX2_personAt 5 = .ok (.aload_n 0, 1) := by decide +kernel
theorem dX2_personAt_6 : decode cX2_personAt 6 = .ok (.getfield 52, 3) := by decide +kernel
theorem dX2_personAt_9 : decode cX2_personAt 9 = .ok (.if_icmp .ge 21, 3) := by decide +kernel
theorem dX2_personAt_12 : decode cX2_personAt 12 = .ok (.iload_n 1, 1) := by decide +kernel
theorem dX2_personAt_13 : decode cX2_personAt 13 = .ok (.aload_n 0, 1) := by decide +kernel
theorem dX2_personAt_14 : decode cX2_personAt 14 = .ok (.getfield 31, 3) := by decide +kernel
theorem dX2_personAt_17 : decode cX2_personAt 17 = .ok (.arraylength, 1) := by decide +kernel
theorem dX2_personAt_18 : decode cX2_personAt 18 = .ok (.if_icmp .ge 12, 3) := by decide +kernel
theorem dX2_personAt_21 : decode cX2_personAt 21 = .ok (.aload_n 0, 1) := by decide +kernel
theorem dX2_personAt_22 : decode cX2_personAt 22 = .ok (.getfield 31, 3) := by decide +kernel
theorem dX2_personAt_25 : decode cX2_personAt 25 = .ok (.iload_n 1, 1) := by decide +kernel
theorem dX2_personAt_26 : decode cX2_personAt 26 = .ok (.aaload, 1) := by decide +kernel
theorem dX2_personAt_27 : decode cX2_personAt 27 = .ok (.goto 4, 3) := by decide +kernel
theorem dX2_personAt_30 : decode cX2_personAt 30 = .ok (.aconst_null, 1) := by decide +kernel
theorem dX2_personAt_31 : decode cX2_personAt 31 = .ok (.areturn, 1) := by decide +kernel
theorem dX2_openWindows_0 : decode cX2_openWindows 0 = .ok (.iconst 0, 1) := by decide +kernel
theorem dX2_openWindows_1 : decode cX2_openWindows 1 = .ok (.istore_n 1, 1) := by decide +kernel
theorem dX2_openWindows_2 : decode cX2_openWindows 2 = .ok (.aload_n 0, 1) := by decide +kernel
theorem dX2_openWindows_3 : decode cX2_openWindows 3 = .ok (.getfield 25, 3) := by decide +kernel
theorem dX2_openWindows_6 : decode cX2_openWindows 6 = .ok (.astore_n 2, 1) := by decide +kernel
theorem dX2_openWindows_7 : decode cX2_openWindows 7 = .ok (.aload_n 2, 1) := by decide +kernel
theorem dX2_openWindows_8 : decode cX2_openWindows 8 = .ok (.arraylength, 1) := by decide +kernel
theorem dX2_openWindows_9 : decode cX2_openWindows 9 = .ok (.istore_n 3, 1) := by decide +kernel
theorem dX2_openWindows_10 : decode cX2_openWindows 10 = .ok (.iconst 0, 1) := by decide +kernel
theorem dX2_openWindows_11 : decode cX2_openWindows 11 = .ok (.istore 4, 2) := by decide +kernel
theorem dX2_openWindows_13 : decode cX2_openWindows 13 = .ok (.iload 4, 2) := by decide +kernel
theorem dX2_openWindows_15 : decode cX2_openWindows 15 = .ok (.iload_n 3, 1) := by decide +kernel
theorem dX2_openWindows_16 : decode cX2_openWindows 16 = .ok (.if_icmp .ge 31, 3) := by decide +kernel
theorem dX2_openWindows_19 : decode cX2_openWindows 19 = .ok (.aload_n 2, 1) := by decide +kernel
theorem dX2_openWindows_20 : decode cX2_openWindows 20 = .ok (.iload 4, 2) := by decide +kernel
theorem dX2_openWindows_22 : decode cX2_openWindows 22 = .ok (.aaload, 1) := by decide +kernel
theorem dX2_openWindows_23 : decode cX2_openWindows 23 = .ok (.astore 5, 2) := by decide +kernel
theorem dX2_openWindows_25 : decode cX2_openWindows 25 = .ok (.iload_n 1, 1) := by decide +kernel
theorem dX2_openWindows_26 : decode cX2_openWindows 26 = .ok (.aload 5, 2) := by decide +kernel
theorem dX2_openWindows_28 : decode cX2_openWindows 28 = .ok (.getfield 65, 3) := by decide +kernel
theorem dX2_openWindows_31 : decode cX2_openWindows 31 = .ok (.ifCond .eq 7, 3) := by decide +kernel
theorem dX2_openWindows_34 : decode cX2_openWindows 34 = .ok (.iconst 1, 1) := by decide +kernel
theorem dX2_openWindows_35 : decode cX2_openWindows 35 = .ok (.goto 4, 3) := by decide +kernel
theorem dX2_openWindows_38 : decode cX2_openWindows 38 = .ok (.iconst 0, 1) := by decide +kernel
theorem dX2_openWindows_39 : decode cX2_openWindows 39 = .ok (.iadd, 1) := by decide +kernel
theorem dX2_openWindows_40 : decode cX2_openWindows 40 = .ok (.istore_n 1, 1) := by decide +kernel
theorem dX2_openWindows_41 : decode cX2_openWindows 41 = .ok (.iinc 4 1, 3) := by decide +kernel
theorem dX2_openWindows_44 : decode cX2_openWindows 44 = .ok (.goto (-31), 3) := by decide +kernel
theorem dX2_openWindows_47 : decode cX2_openWindows 47 = .ok (.iload_n 1, 1) := by decide +kernel
theorem dX2_openWindows_48 : decode cX2_openWindows 48 = .ok (.ireturn, 1) := by decide +kernel
theorem dX2_peopleWho_0 : decode cX2_peopleWho 0 = .ok (.iconst 0, 1) := by decide +kernel
theorem dX2_peopleWho_1 : decode cX2_peopleWho 1 = .ok (.istore_n 2, 1) := by decide +kernel
theorem dX2_peopleWho_2 : decode cX2_peopleWho 2 = .ok (.aload_n 0, 1) := by decide +kernel
theorem dX2_peopleWho_3 : decode cX2_peopleWho 3 = .ok (.getfield 31, 3) := by decide +kernel
theorem dX2_peopleWho_6 : decode cX2_peopleWho 6 = .ok (.astore_n 3, 1) := by decide +kernel
theorem dX2_peopleWho_7 : decode cX2_peopleWho 7 = .ok (.aload_n 3, 1) := by decide +kernel
theorem dX2_peopleWho_8 : decode cX2_peopleWho 8 = .ok (.arraylength, 1) := by decide +kernel
theorem dX2_peopleWho_9 : decode cX2_peopleWho 9 = .ok (.istore 4, 2) := by decide +kernel
theorem dX2_peopleWho_11 : decode cX2_peopleWho 11 = .ok (.iconst 0, 1) := by decide +kernel
theorem dX2_peopleWho_12 : decode cX2_peopleWho 12 = .ok (.istore 5, 2) := by decide +kernel
theorem dX2_peopleWho_14 : decode cX2_peopleWho 14 = .ok (.iload 5, 2) := by decide +kernel
theorem dX2_peopleWho_16 : decode cX2_peopleWho 16 = .ok (.iload 4, 2) := by decide +kernel
theorem dX2_peopleWho_18 : decode cX2_peopleWho 18 = .ok (.if_icmp .ge 32, 3) := by decide +kernel
theorem dX2_peopleWho_21 : decode cX2_peopleWho 21 = .ok (.aload_n 3, 1) := by decide +kernel
theorem dX2_peopleWho_22 : decode cX2_peopleWho 22 = .ok (.iload 5, 2) := by decide +kernel
theorem dX2_peopleWho_24 : decode cX2_peopleWho 24 = .ok (.aaload, 1) := by decide +kernel
theorem dX2_peopleWho_25 : decode cX2_peopleWho 25 = .ok (.astore 6, 2) := by decide +kernel
theorem dX2_peopleWho_27 : decode cX2_peopleWho 27 = .ok (.iload_n 2, 1) := by decide +kernel
theorem dX2_peopleWho_28 : decode cX2_peopleWho 28 = .ok (.aload 6, 2) := by decide +kernel
theorem dX2_peopleWho_30 : decode cX2_peopleWho 30 = .ok (.getfield 69, 3) := by decide +kernel
theorem dX2_peopleWho_33 : decode cX2_peopleWho 33 = .ok (.iload_n 1, 1) := by decide +kernel
theorem dX2_peopleWho_34 : decode cX2_peopleWho 34 = .ok (.if_icmp .ne 7, 3) := by decide +kernel
theorem dX2_peopleWho_37 : decode cX2_peopleWho 37 = .ok (.iconst 1, 1) := by decide +kernel
theorem dX2_peopleWho_38 : decode cX2_peopleWho 38 = .ok (.goto 4, 3) := by decide +kernel
theorem dX2_peopleWho_41 : decode cX2_peopleWho 41 = .ok (.iconst 0, 1) := by decide +kernel
theorem dX2_peopleWho_42 : decode cX2_peopleWho 42 = .ok (.iadd, 1) := by decide +kernel
theorem dX2_peopleWho_43 : decode cX2_peopleWho 43 = .ok (.istore_n 2, 1) := by decide +kernel
theorem dX2_peopleWho_44 : decode cX2_peopleWho 44 = .ok (.iinc 5 1, 3) := by decide +kernel
theorem dX2_peopleWho_47 : decode cX2_peopleWho 47 = .ok (.goto (-33), 3) := by decide +kernel
theorem dX2_peopleWho_50 : decode cX2_peopleWho 50 = .ok (.iload_n 2, 1) := by decide +kernel
theorem dX2_peopleWho_51 : decode cX2_peopleWho 51 = .ok (.ireturn, 1) := by decide +kernel
theorem dX2_halvesOfWindows_0 : decode cX2_halvesOfWindows 0 = .ok (.iconst 0, 1) := by decide +kernel
theorem dX2_halvesOfWindows_1 : decode cX2_halvesOfWindows 1 = .ok (.istore_n 1, 1) := by decide +kernel
theorem dX2_halvesOfWindows_2 : decode cX2_halvesOfWindows 2 = .ok (.aload_n 0, 1) := by decide +kernel
theorem dX2_halvesOfWindows_3 : decode cX2_halvesOfWindows 3 = .ok (.getfield 25, 3) := by decide +kernel
theorem dX2_halvesOfWindows_6 : decode cX2_halvesOfWindows 6 = .ok (.astore_n 2, 1) := by decide +kernel
theorem dX2_halvesOfWindows_7 : decode cX2_halvesOfWindows 7 = .ok (.aload_n 2, 1) := by decide +kernel
theorem dX2_halvesOfWindows_8 : decode cX2_halvesOfWindows 8 = .ok (.arraylength, 1) := by decide +kernel
theorem dX2_halvesOfWindows_9 : decode cX2_halvesOfWindows 9 = .ok (.istore_n 3, 1) := by decide +kernel
theorem dX2_halvesOfWindows_10 : decode cX2_halvesOfWindows 10 = .ok (.iconst 0, 1) := by decide +kernel
theorem dX2_halvesOfWindows_11 : decode cX2_halvesOfWindows 11 = .ok (.istore 4, 2) := by decide +kernel
theorem dX2_halvesOfWindows_13 : decode cX2_halvesOfWindows 13 = .ok (.iload 4, 2) := by decide +kernel
theorem dX2_halvesOfWindows_15 : decode cX2_halvesOfWindows 15 = .ok (.iload_n 3, 1) := by decide +kernel
theorem dX2_halvesOfWindows_16 : decode cX2_halvesOfWindows 16 = .ok (.if_icmp .ge 23, 3) := by decide +kernel
theorem dX2_halvesOfWindows_19 : decode cX2_halvesOfWindows 19 = .ok (.aload_n 2, 1) := by decide +kernel
theorem dX2_halvesOfWindows_20 : decode cX2_halvesOfWindows 20 = .ok (.iload 4, 2) := by decide +kernel
theorem dX2_halvesOfWindows_22 : decode cX2_halvesOfWindows 22 = .ok (.aaload, 1) := by decide +kernel
theorem dX2_halvesOfWindows_23 : decode cX2_halvesOfWindows 23 = .ok (.astore 5, 2) := by decide +kernel
theorem dX2_halvesOfWindows_25 : decode cX2_halvesOfWindows 25 = .ok (.iload_n 1, 1) := by decide +kernel
theorem dX2_halvesOfWindows_26 : decode cX2_halvesOfWindows 26 = .ok (.aload 5, 2) := by decide +kernel
theorem dX2_halvesOfWindows_28 : decode cX2_halvesOfWindows 28 = .ok (.getfield 72, 3) := by decide +kernel
theorem dX2_halvesOfWindows_31 : decode cX2_halvesOfWindows 31 = .ok (.iadd, 1) := by decide +kernel
theorem dX2_halvesOfWindows_32 : decode cX2_halvesOfWindows 32 = .ok (.istore_n 1, 1) := by decide +kernel
theorem dX2_halvesOfWindows_33 : decode cX2_halvesOfWindows 33 = .ok (.iinc 4 1, 3) := by decide +kernel
theorem dX2_halvesOfWindows_36 : decode cX2_halvesOfWindows 36 = .ok (.goto (-23), 3) := by decide +kernel
theorem dX2_halvesOfWindows_39 : decode cX2_halvesOfWindows 39 = .ok (.iload_n 1, 1) := by decide +kernel
theorem dX2_halvesOfWindows_40 : decode cX2_halvesOfWindows 40 = .ok (.ireturn, 1) := by decide +kernel
theorem dX2_halvesOfPeople_0 : decode cX2_halvesOfPeople 0 = .ok (.iconst 0, 1) := by decide +kernel
theorem dX2_halvesOfPeople_1 : decode cX2_halvesOfPeople 1 = .ok (.istore_n 1, 1) := by decide +kernel
theorem dX2_halvesOfPeople_2 : decode cX2_halvesOfPeople 2 = .ok (.aload_n 0, 1) := by decide +kernel
theorem dX2_halvesOfPeople_3 : decode cX2_halvesOfPeople 3 = .ok (.getfield 31, 3) := by decide +kernel
theorem dX2_halvesOfPeople_6 : decode cX2_halvesOfPeople 6 = .ok (.astore_n 2, 1) := by decide +kernel
theorem dX2_halvesOfPeople_7 : decode cX2_halvesOfPeople 7 = .ok (.aload_n 2, 1) := by decide +kernel
theorem dX2_halvesOfPeople_8 : decode cX2_halvesOfPeople 8 = .ok (.arraylength, 1) := by decide +kernel
theorem dX2_halvesOfPeople_9 : decode cX2_halvesOfPeople 9 = .ok (.istore_n 3, 1) := by decide +kernel
theorem dX2_halvesOfPeople_10 : decode cX2_halvesOfPeople 10 = .ok (.iconst 0, 1) := by decide +kernel
theorem dX2_halvesOfPeople_11 : decode cX2_halvesOfPeople 11 = .ok (.istore 4, 2) := by decide +kernel
theorem dX2_halvesOfPeople_13 : decode cX2_halvesOfPeople 13 = .ok (.iload 4, 2) := by decide +kernel
theorem dX2_halvesOfPeople_15 : decode cX2_halvesOfPeople 15 = .ok (.iload_n 3, 1) := by decide +kernel
theorem dX2_halvesOfPeople_16 : decode cX2_halvesOfPeople 16 = .ok (.if_icmp .ge 31, 3) := by decide +kernel
theorem dX2_halvesOfPeople_19 : decode cX2_halvesOfPeople 19 = .ok (.aload_n 2, 1) := by decide +kernel
theorem dX2_halvesOfPeople_20 : decode cX2_halvesOfPeople 20 = .ok (.iload 4, 2) := by decide +kernel
theorem dX2_halvesOfPeople_22 : decode cX2_halvesOfPeople 22 = .ok (.aaload, 1) := by decide +kernel
theorem dX2_halvesOfPeople_23 : decode cX2_halvesOfPeople 23 = .ok (.astore 5, 2) := by decide +kernel
theorem dX2_halvesOfPeople_25 : decode cX2_halvesOfPeople 25 = .ok (.iload_n 1, 1) := by decide +kernel
theorem dX2_halvesOfPeople_26 : decode cX2_halvesOfPeople 26 = .ok (.aload 5, 2) := by decide +kernel
theorem dX2_halvesOfPeople_28 : decode cX2_halvesOfPeople 28 = .ok (.getfield 75, 3) := by decide +kernel
theorem dX2_halvesOfPeople_31 : decode cX2_halvesOfPeople 31 = .ok (.ifCond .eq 7, 3) := by decide +kernel
theorem dX2_halvesOfPeople_34 : decode cX2_halvesOfPeople 34 = .ok (.iconst 1, 1) := by decide +kernel
theorem dX2_halvesOfPeople_35 : decode cX2_halvesOfPeople 35 = .ok (.goto 4, 3) := by decide +kernel
theorem dX2_halvesOfPeople_38 : decode cX2_halvesOfPeople 38 = .ok (.iconst 0, 1) := by decide +kernel
theorem dX2_halvesOfPeople_39 : decode cX2_halvesOfPeople 39 = .ok (.iadd, 1) := by decide +kernel
theorem dX2_halvesOfPeople_40 : decode cX2_halvesOfPeople 40 = .ok (.istore_n 1, 1) := by decide +kernel
theorem dX2_halvesOfPeople_41 : decode cX2_halvesOfPeople 41 = .ok (.iinc 4 1, 3) := by decide +kernel
theorem dX2_halvesOfPeople_44 : decode cX2_halvesOfPeople 44 = .ok (.goto (-31), 3) := by decide +kernel
theorem dX2_halvesOfPeople_47 : decode cX2_halvesOfPeople 47 = .ok (.iload_n 1, 1) := by decide +kernel
theorem dX2_halvesOfPeople_48 : decode cX2_halvesOfPeople 48 = .ok (.ireturn, 1) := by decide +kernel
theorem dX2_waits_0 : decode cX2_waits 0 = .ok (.iconst 0, 1) := by decide +kernel
theorem dX2_waits_1 : decode cX2_waits 1 = .ok (.istore_n 1, 1) := by decide +kernel
theorem dX2_waits_2 : decode cX2_waits 2 = .ok (.aload_n 0, 1) := by decide +kernel
theorem dX2_waits_3 : decode cX2_waits 3 = .ok (.getfield 31, 3) := by decide +kernel
theorem dX2_waits_6 : decode cX2_waits 6 = .ok (.astore_n 2, 1) := by decide +kernel
theorem dX2_waits_7 : decode cX2_waits 7 = .ok (.aload_n 2, 1) := by decide +kernel
theorem dX2_waits_8 : decode cX2_waits 8 = .ok (.arraylength, 1) := by decide +kernel
theorem dX2_waits_9 : decode cX2_waits 9 = .ok (.istore_n 3, 1) := by decide +kernel
theorem dX2_waits_10 : decode cX2_waits 10 = .ok (.iconst 0, 1) := by decide +kernel
theorem dX2_waits_11 : decode cX2_waits 11 = .ok (.istore 4, 2) := by decide +kernel
theorem dX2_waits_13 : decode cX2_waits 13 = .ok (.iload 4, 2) := by decide +kernel
theorem dX2_waits_15 : decode cX2_waits 15 = .ok (.iload_n 3, 1) := by decide +kernel
theorem dX2_waits_16 : decode cX2_waits 16 = .ok (.if_icmp .ge 23, 3) := by decide +kernel
theorem dX2_waits_19 : decode cX2_waits 19 = .ok (.aload_n 2, 1) := by decide +kernel
theorem dX2_waits_20 : decode cX2_waits 20 = .ok (.iload 4, 2) := by decide +kernel
theorem dX2_waits_22 : decode cX2_waits 22 = .ok (.aaload, 1) := by decide +kernel
theorem dX2_waits_23 : decode cX2_waits 23 = .ok (.astore 5, 2) := by decide +kernel
theorem dX2_waits_25 : decode cX2_waits 25 = .ok (.iload_n 1, 1) := by decide +kernel
theorem dX2_waits_26 : decode cX2_waits 26 = .ok (.aload 5, 2) := by decide +kernel
theorem dX2_waits_28 : decode cX2_waits 28 = .ok (.getfield 78, 3) := by decide +kernel
theorem dX2_waits_31 : decode cX2_waits 31 = .ok (.iadd, 1) := by decide +kernel
theorem dX2_waits_32 : decode cX2_waits 32 = .ok (.istore_n 1, 1) := by decide +kernel
theorem dX2_waits_33 : decode cX2_waits 33 = .ok (.iinc 4 1, 3) := by decide +kernel
theorem dX2_waits_36 : decode cX2_waits 36 = .ok (.goto (-23), 3) := by decide +kernel
theorem dX2_waits_39 : decode cX2_waits 39 = .ok (.iload_n 1, 1) := by decide +kernel
theorem dX2_waits_40 : decode cX2_waits 40 = .ok (.ireturn, 1) := by decide +kernel
theorem dX2_timesSentBack_0 : decode cX2_timesSentBack 0 = .ok (.iconst 0, 1) := by decide +kernel
theorem dX2_timesSentBack_1 : decode cX2_timesSentBack 1 = .ok (.istore_n 1, 1) := by decide +kernel
theorem dX2_timesSentBack_2 : decode cX2_timesSentBack 2 = .ok (.aload_n 0, 1) := by decide +kernel
theorem dX2_timesSentBack_3 : decode cX2_timesSentBack 3 = .ok (.getfield 31, 3) := by decide +kernel
theorem dX2_timesSentBack_6 : decode cX2_timesSentBack 6 = .ok (.astore_n 2, 1) := by decide +kernel
theorem dX2_timesSentBack_7 : decode cX2_timesSentBack 7 = .ok (.aload_n 2, 1) := by decide +kernel
theorem dX2_timesSentBack_8 : decode cX2_timesSentBack 8 = .ok (.arraylength, 1) := by decide +kernel
theorem dX2_timesSentBack_9 : decode cX2_timesSentBack 9 = .ok (.istore_n 3, 1) := by decide +kernel
theorem dX2_timesSentBack_10 : decode cX2_timesSentBack 10 = .ok (.iconst 0, 1) := by decide +kernel
theorem dX2_timesSentBack_11 : decode cX2_timesSentBack 11 = .ok (.istore 4, 2) := by decide +kernel
theorem dX2_timesSentBack_13 : decode cX2_timesSentBack 13 = .ok (.iload 4, 2) := by decide +kernel
theorem dX2_timesSentBack_15 : decode cX2_timesSentBack 15 = .ok (.iload_n 3, 1) := by decide +kernel
theorem dX2_timesSentBack_16 : decode cX2_timesSentBack 16 = .ok (.if_icmp .ge 23, 3) := by decide +kernel
theorem dX2_timesSentBack_19 : decode cX2_timesSentBack 19 = .ok (.aload_n 2, 1) := by decide +kernel
theorem dX2_timesSentBack_20 : decode cX2_timesSentBack 20 = .ok (.iload 4, 2) := by decide +kernel
theorem dX2_timesSentBack_22 : decode cX2_timesSentBack 22 = .ok (.aaload, 1) := by decide +kernel
theorem dX2_timesSentBack_23 : decode cX2_timesSentBack 23 = .ok (.astore 5, 2) := by decide +kernel
theorem dX2_timesSentBack_25 : decode cX2_timesSentBack 25 = .ok (.iload_n 1, 1) := by decide +kernel
theorem dX2_timesSentBack_26 : decode cX2_timesSentBack 26 = .ok (.aload 5, 2) := by decide +kernel
theorem dX2_timesSentBack_28 : decode cX2_timesSentBack 28 = .ok (.getfield 81, 3) := by decide +kernel
theorem dX2_timesSentBack_31 : decode cX2_timesSentBack 31 = .ok (.iadd, 1) := by decide +kernel
theorem dX2_timesSentBack_32 : decode cX2_timesSentBack 32 = .ok (.istore_n 1, 1) := by decide +kernel
theorem dX2_timesSentBack_33 : decode cX2_timesSentBack 33 = .ok (.iinc 4 1, 3) := by decide +kernel
theorem dX2_timesSentBack_36 : decode cX2_timesSentBack 36 = .ok (.goto (-23), 3) := by decide +kernel
theorem dX2_timesSentBack_39 : decode cX2_timesSentBack 39 = .ok (.iload_n 1, 1) := by decide +kernel
theorem dX2_timesSentBack_40 : decode cX2_timesSentBack 40 = .ok (.ireturn, 1) := by decide +kernel
theorem dX2_placeInQueue_0 : decode cX2_placeInQueue 0 = .ok (.aload_n 0, 1) := by decide +kernel
theorem dX2_placeInQueue_1 : decode cX2_placeInQueue 1 = .ok (.aload_n 1, 1) := by decide +kernel
theorem dX2_placeInQueue_2 : decode cX2_placeInQueue 2 = .ok (.invokevirtual 84, 3) := by decide +kernel
theorem dX2_placeInQueue_5 : decode cX2_placeInQueue 5 = .ok (.invokevirtual 88, 3) := by decide +kernel
theorem dX2_placeInQueue_8 : decode cX2_placeInQueue 8 = .ok (.astore_n 2, 1) := by decide +kernel
theorem dX2_placeInQueue_9 : decode cX2_placeInQueue 9 = .ok (.aload_n 2, 1) := by decide +kernel
theorem dX2_placeInQueue_10 : decode cX2_placeInQueue 10 = .ok (.ifnonnull 8, 3) := by decide +kernel
theorem dX2_placeInQueue_13 : decode cX2_placeInQueue 13 = .ok (.bipush (-6), 2) := by decide +kernel
theorem dX2_placeInQueue_15 : decode cX2_placeInQueue 15 = .ok (.goto 14, 3) := by decide +kernel
theorem dX2_placeInQueue_18 : decode cX2_placeInQueue 18 = .ok (.aload_n 2, 1) := by decide +kernel
theorem dX2_placeInQueue_19 : decode cX2_placeInQueue 19 = .ok (.getfield 92, 3) := by decide +kernel
theorem dX2_placeInQueue_22 : decode cX2_placeInQueue 22 = .ok (.aload_n 1, 1) := by decide +kernel
theorem dX2_placeInQueue_23 : decode cX2_placeInQueue 23 = .ok (.getfield 96, 3) := by decide +kernel
theorem dX2_placeInQueue_26 : decode cX2_placeInQueue 26 = .ok (.invokevirtual 99, 3) := by decide +kernel
theorem dX2_placeInQueue_29 : decode cX2_placeInQueue 29 = .ok (.ireturn, 1) := by decide +kernel
theorem dX2_admitAll_0 : decode cX2_admitAll 0 = .ok (.aload_n 1, 1) := by decide +kernel
theorem dX2_admitAll_1 : decode cX2_admitAll 1 = .ok (.invokevirtual 105, 3) := by decide +kernel
theorem dX2_admitAll_4 : decode cX2_admitAll 4 = .ok (.istore_n 2, 1) := by decide +kernel
theorem dX2_admitAll_5 : decode cX2_admitAll 5 = .ok (.iconst 0, 1) := by decide +kernel
theorem dX2_admitAll_6 : decode cX2_admitAll 6 = .ok (.istore_n 3, 1) := by decide +kernel
theorem dX2_admitAll_7 : decode cX2_admitAll 7 = .ok (.iconst 0, 1) := by decide +kernel
theorem dX2_admitAll_8 : decode cX2_admitAll 8 = .ok (.istore 4, 2) := by decide +kernel
theorem dX2_admitAll_10 : decode cX2_admitAll 10 = .ok (.iload 4, 2) := by decide +kernel
theorem dX2_admitAll_12 : decode cX2_admitAll 12 = .ok (.iload_n 2, 1) := by decide +kernel
theorem dX2_admitAll_13 : decode cX2_admitAll 13 = .ok (.if_icmp .ge 29, 3) := by decide +kernel
theorem dX2_admitAll_16 : decode cX2_admitAll 16 = .ok (.aload_n 1, 1) := by decide +kernel
theorem dX2_admitAll_17 : decode cX2_admitAll 17 = .ok (.iload_n 3, 1) := by decide +kernel
theorem dX2_admitAll_18 : decode cX2_admitAll 18 = .ok (.invokevirtual 110, 3) := by decide +kernel
theorem dX2_admitAll_21 : decode cX2_admitAll 21 = .ok (.istore 5, 2) := by decide +kernel
theorem dX2_admitAll_23 : decode cX2_admitAll 23 = .ok (.aload_n 0, 1) := by decide +kernel
theorem dX2_admitAll_24 : decode cX2_admitAll 24 = .ok (.aload_n 1, 1) := by decide +kernel
theorem dX2_admitAll_25 : decode cX2_admitAll 25 = .ok (.iload_n 3, 1) := by decide +kernel
theorem dX2_admitAll_26 : decode cX2_admitAll 26 = .ok (.iload 5, 2) := by decide +kernel
theorem dX2_admitAll_28 : decode cX2_admitAll 28 = .ok (.invokevirtual 113, 3) := by decide +kernel
theorem dX2_admitAll_31 : decode cX2_admitAll 31 = .ok (.iload 5, 2) := by decide +kernel
theorem dX2_admitAll_33 : decode cX2_admitAll 33 = .ok (.iconst 1, 1) := by decide +kernel
theorem dX2_admitAll_34 : decode cX2_admitAll 34 = .ok (.iadd, 1) := by decide +kernel
theorem dX2_admitAll_35 : decode cX2_admitAll 35 = .ok (.istore_n 3, 1) := by decide +kernel
theorem dX2_admitAll_36 : decode cX2_admitAll 36 = .ok (.iinc 4 1, 3) := by decide +kernel
theorem dX2_admitAll_39 : decode cX2_admitAll 39 = .ok (.goto (-29), 3) := by decide +kernel
theorem dX2_admitAll_42 : decode cX2_admitAll 42 = .ok (.return_, 1) := by decide +kernel
theorem dX2_admit_0 : decode cX2_admit 0 = .ok (.aload_n 0, 1) := by decide +kernel
theorem dX2_admit_1 : decode cX2_admit 1 = .ok (.getfield 52, 3) := by decide +kernel
theorem dX2_admit_4 : decode cX2_admit 4 = .ok (.aload_n 0, 1) := by decide +kernel
theorem dX2_admit_5 : decode cX2_admit 5 = .ok (.getfield 31, 3) := by decide +kernel
theorem dX2_admit_8 : decode cX2_admit 8 = .ok (.arraylength, 1) := by decide +kernel
theorem dX2_admit_9 : decode cX2_admit 9 = .ok (.if_icmp .lt 4, 3) := by decide +kernel
theorem dX2_admit_12 : decode cX2_admit 12 = .ok (.return_, 1) := by decide +kernel
theorem dX2_admit_13 : decode cX2_admit 13 = .ok (.aload_n 0, 1) := by decide +kernel
theorem dX2_admit_14 : decode cX2_admit 14 = .ok (.getfield 31, 3) := by decide +kernel
theorem dX2_admit_17 : decode cX2_admit 17 = .ok (.aload_n 0, 1) := by decide +kernel
theorem dX2_admit_18 : decode cX2_admit 18 = .ok (.getfield 52, 3) := by decide +kernel
theorem dX2_admit_21 : decode cX2_admit 21 = .ok (.aaload, 1) := by decide +kernel
theorem dX2_admit_22 : decode cX2_admit 22 = .ok (.astore 4, 2) := by decide +kernel
theorem dX2_admit_24 : decode cX2_admit 24 = .ok (.aload_n 0, 1) := by decide +kernel
theorem dX2_admit_25 : decode cX2_admit 25 = .ok (.dup, 1) := by decide +kernel
theorem dX2_admit_26 : decode cX2_admit 26 = .ok (.getfield 52, 3) := by decide +kernel
theorem dX2_admit_29 : decode cX2_admit 29 = .ok (.iconst 1, 1) := by decide +kernel
theorem dX2_admit_30 : decode cX2_admit 30 = .ok (.iadd, 1) := by decide +kernel
theorem dX2_admit_31 : decode cX2_admit 31 = .ok (.putfield 52, 3) := by decide +kernel
theorem dX2_admit_34 : decode cX2_admit 34 = .ok (.iload_n 2, 1) := by decide +kernel
theorem dX2_admit_35 : decode cX2_admit 35 = .ok (.istore 5, 2) := by decide +kernel
theorem dX2_admit_37 : decode cX2_admit 37 = .ok (.iload 5, 2) := by decide +kernel
theorem dX2_admit_39 : decode cX2_admit 39 = .ok (.iload_n 3, 1) := by decide +kernel
theorem dX2_admit_40 : decode cX2_admit 40 = .ok (.if_icmp .ge 20, 3) := by decide +kernel
theorem dX2_admit_43 : decode cX2_admit 43 = .ok (.aload 4, 2) := by decide +kernel
theorem dX2_admit_45 : decode cX2_admit 45 = .ok (.aload_n 1, 1) := by decide +kernel
theorem dX2_admit_46 : decode cX2_admit 46 = .ok (.iload 5, 2) := by decide +kernel
theorem dX2_admit_48 : decode cX2_admit 48 = .ok (.invokevirtual 117, 3) := by decide +kernel
theorem dX2_admit_51 : decode cX2_admit 51 = .ok (.invokevirtual 119, 3) := by decide +kernel
theorem dX2_admit_54 : decode cX2_admit 54 = .ok (.iinc 5 1, 3) := by decide +kernel
theorem dX2_admit_57 : decode cX2_admit 57 = .ok (.goto (-20), 3) := by decide +kernel
theorem dX2_admit_60 : decode cX2_admit 60 = .ok (.aload_n 0, 1) := by decide +kernel
theorem dX2_admit_61 : decode cX2_admit 61 = .ok (.aload 4, 2) := by decide +kernel
theorem dX2_admit_63 : decode cX2_admit 63 = .ok (.invokevirtual 122, 3) := by decide +kernel
theorem dX2_admit_66 : decode cX2_admit 66 = .ok (.return_, 1) := by decide +kernel
theorem dX2_joinQueue_0 : decode cX2_joinQueue 0 = .ok (.aload_n 1, 1) := by decide +kernel
theorem dX2_joinQueue_1 : decode cX2_joinQueue 1 = .ok (.iconst 0, 1) := by decide +kernel
theorem dX2_joinQueue_2 : decode cX2_joinQueue 2 = .ok (.putfield 69, 3) := by decide +kernel
theorem dX2_joinQueue_5 : decode cX2_joinQueue 5 = .ok (.aload_n 1, 1) := by decide +kernel
theorem dX2_joinQueue_6 : decode cX2_joinQueue 6 = .ok (.iconst 0, 1) := by decide +kernel
theorem dX2_joinQueue_7 : decode cX2_joinQueue 7 = .ok (.putfield 125, 3) := by decide +kernel
theorem dX2_joinQueue_10 : decode cX2_joinQueue 10 = .ok (.aload_n 0, 1) := by decide +kernel
theorem dX2_joinQueue_11 : decode cX2_joinQueue 11 = .ok (.aload_n 1, 1) := by decide +kernel
theorem dX2_joinQueue_12 : decode cX2_joinQueue 12 = .ok (.invokevirtual 84, 3) := by decide +kernel
theorem dX2_joinQueue_15 : decode cX2_joinQueue 15 = .ok (.invokevirtual 88, 3) := by decide +kernel
theorem dX2_joinQueue_18 : decode cX2_joinQueue 18 = .ok (.astore_n 2, 1) := by decide +kernel
theorem dX2_joinQueue_19 : decode cX2_joinQueue 19 = .ok (.aload_n 2, 1) := by decide +kernel
theorem dX2_joinQueue_20 : decode cX2_joinQueue 20 = .ok (.ifnull 14, 3) := by decide +kernel
theorem dX2_joinQueue_23 : decode cX2_joinQueue 23 = .ok (.aload_n 2, 1) := by decide +kernel
theorem dX2_joinQueue_24 : decode cX2_joinQueue 24 = .ok (.getfield 92, 3) := by decide +kernel
theorem dX2_joinQueue_27 : decode cX2_joinQueue 27 = .ok (.aload_n 1, 1) := by decide +kernel
theorem dX2_joinQueue_28 : decode cX2_joinQueue 28 = .ok (.getfield 96, 3) := by decide +kernel
theorem dX2_joinQueue_31 : decode cX2_joinQueue 31 = .ok (.invokevirtual 128, 3) := by decide +kernel
theorem dX2_joinQueue_34 : decode cX2_joinQueue 34 = .ok (.return_, 1) := by decide +kernel
theorem dX2_sendAway_0 : decode cX2_sendAway 0 = .ok (.aload_n 0, 1) := by decide +kernel
theorem dX2_sendAway_1 : decode cX2_sendAway 1 = .ok (.aload_n 1, 1) := by decide +kernel
theorem dX2_sendAway_2 : decode cX2_sendAway 2 = .ok (.invokevirtual 84, 3) := by decide +kernel
theorem dX2_sendAway_5 : decode cX2_sendAway 5 = .ok (.invokevirtual 88, 3) := by decide +kernel
theorem dX2_sendAway_8 : decode cX2_sendAway 8 = .ok (.astore_n 3, 1) := by decide +kernel
theorem dX2_sendAway_9 : decode cX2_sendAway 9 = .ok (.aload_n 3, 1) := by decide +kernel
theorem dX2_sendAway_10 : decode cX2_sendAway 10 = .ok (.ifnull 14, 3) := by decide +kernel
theorem dX2_sendAway_13 : decode cX2_sendAway 13 = .ok (.aload_n 3, 1) := by decide +kernel
theorem dX2_sendAway_14 : decode cX2_sendAway 14 = .ok (.getfield 92, 3) := by decide +kernel
theorem dX2_sendAway_17 : decode cX2_sendAway 17 = .ok (.aload_n 1, 1) := by decide +kernel
theorem dX2_sendAway_18 : decode cX2_sendAway 18 = .ok (.getfield 96, 3) := by decide +kernel
theorem dX2_sendAway_21 : decode cX2_sendAway 21 = .ok (.invokevirtual 131, 3) := by decide +kernel
theorem dX2_sendAway_24 : decode cX2_sendAway 24 = .ok (.aload_n 0, 1) := by decide +kernel
theorem dX2_sendAway_25 : decode cX2_sendAway 25 = .ok (.dup, 1) := by decide +kernel
theorem dX2_sendAway_26 : decode cX2_sendAway 26 = .ok (.getfield 59, 3) := by decide +kernel
theorem dX2_sendAway_29 : decode cX2_sendAway 29 = .ok (.aload_n 1, 1) := by decide +kernel
theorem dX2_sendAway_30 : decode cX2_sendAway 30 = .ok (.getfield 75, 3) := by decide +kernel
theorem dX2_sendAway_33 : decode cX2_sendAway 33 = .ok (.ifCond .eq 7, 3) := by decide +kernel
theorem dX2_sendAway_36 : decode cX2_sendAway 36 = .ok (.iconst 1, 1) := by decide +kernel
theorem dX2_sendAway_37 : decode cX2_sendAway 37 = .ok (.goto 4, 3) := by decide +kernel
theorem dX2_sendAway_40 : decode cX2_sendAway 40 = .ok (.iconst 0, 1) := by decide +kernel
theorem dX2_sendAway_41 : decode cX2_sendAway 41 = .ok (.iadd, 1) := by decide +kernel
theorem dX2_sendAway_42 : decode cX2_sendAway 42 = .ok (.putfield 59, 3) := by decide +kernel
theorem dX2_sendAway_45 : decode cX2_sendAway 45 = .ok (.aload_n 1, 1) := by decide +kernel
theorem dX2_sendAway_46 : decode cX2_sendAway 46 = .ok (.iconst 3, 1) := by decide +kernel
theorem dX2_sendAway_47 : decode cX2_sendAway 47 = .ok (.iload_n 2, 1) := by decide +kernel
theorem dX2_sendAway_48 : decode cX2_sendAway 48 = .ok (.invokevirtual 134, 3) := by decide +kernel
theorem dX2_sendAway_51 : decode cX2_sendAway 51 = .ok (.return_, 1) := by decide +kernel
theorem dX2_tick_0 : decode cX2_tick 0 = .ok (.aload_n 0, 1) := by decide +kernel
theorem dX2_tick_1 : decode cX2_tick 1 = .ok (.getfield 31, 3) := by decide +kernel
theorem dX2_tick_4 : decode cX2_tick 4 = .ok (.astore_n 1, 1) := by decide +kernel
theorem dX2_tick_5 : decode cX2_tick 5 = .ok (.aload_n 1, 1) := by decide +kernel
theorem dX2_tick_6 : decode cX2_tick 6 = .ok (.arraylength, 1) := by decide +kernel
theorem dX2_tick_7 : decode cX2_tick 7 = .ok (.istore_n 2, 1) := by decide +kernel
theorem dX2_tick_8 : decode cX2_tick 8 = .ok (.iconst 0, 1) := by decide +kernel
theorem dX2_tick_9 : decode cX2_tick 9 = .ok (.istore_n 3, 1) := by decide +kernel
theorem dX2_tick_10 : decode cX2_tick 10 = .ok (.iload_n 3, 1) := by decide +kernel
theorem dX2_tick_11 : decode cX2_tick 11 = .ok (.iload_n 2, 1) := by decide +kernel
theorem dX2_tick_12 : decode cX2_tick 12 = .ok (.if_icmp .ge 20, 3) := by decide +kernel
theorem dX2_tick_15 : decode cX2_tick 15 = .ok (.aload_n 1, 1) := by decide +kernel
theorem dX2_tick_16 : decode cX2_tick 16 = .ok (.iload_n 3, 1) := by decide +kernel
theorem dX2_tick_17 : decode cX2_tick 17 = .ok (.aaload, 1) := by decide +kernel
theorem dX2_tick_18 : decode cX2_tick 18 = .ok (.astore 4, 2) := by decide +kernel
theorem dX2_tick_20 : decode cX2_tick 20 = .ok (.aload 4, 2) := by decide +kernel
theorem dX2_tick_22 : decode cX2_tick 22 = .ok (.iconst 0, 1) := by decide +kernel
theorem dX2_tick_23 : decode cX2_tick 23 = .ok (.putfield 138, 3) := by decide +kernel
theorem dX2_tick_26 : decode cX2_tick 26 = .ok (.iinc 3 1, 3) := by decide +kernel
theorem dX2_tick_29 : decode cX2_tick 29 = .ok (.goto (-19), 3) := by decide +kernel
theorem dX2_tick_32 : decode cX2_tick 32 = .ok (.aload_n 0, 1) := by decide +kernel
theorem dX2_tick_33 : decode cX2_tick 33 = .ok (.getfield 25, 3) := by decide +kernel
theorem dX2_tick_36 : decode cX2_tick 36 = .ok (.astore_n 1, 1) := by decide +kernel
theorem dX2_tick_37 : decode cX2_tick 37 = .ok (.aload_n 1, 1) := by decide +kernel
theorem dX2_tick_38 : decode cX2_tick 38 = .ok (.arraylength, 1) := by decide +kernel
theorem dX2_tick_39 : decode cX2_tick 39 = .ok (.istore_n 2, 1) := by decide +kernel
theorem dX2_tick_40 : decode cX2_tick 40 = .ok (.iconst 0, 1) := by decide +kernel
theorem dX2_tick_41 : decode cX2_tick 41 = .ok (.istore_n 3, 1) := by decide +kernel
theorem dX2_tick_42 : decode cX2_tick 42 = .ok (.iload_n 3, 1) := by decide +kernel
theorem dX2_tick_43 : decode cX2_tick 43 = .ok (.iload_n 2, 1) := by decide +kernel
theorem dX2_tick_44 : decode cX2_tick 44 = .ok (.if_icmp .ge 34, 3) := by decide +kernel
theorem dX2_tick_47 : decode cX2_tick 47 = .ok (.aload_n 1, 1) := by decide +kernel
theorem dX2_tick_48 : decode cX2_tick 48 = .ok (.iload_n 3, 1) := by decide +kernel
theorem dX2_tick_49 : decode cX2_tick 49 = .ok (.aaload, 1) := by decide +kernel
theorem dX2_tick_50 : decode cX2_tick 50 = .ok (.astore 4, 2) := by decide +kernel
theorem dX2_tick_52 : decode cX2_tick 52 = .ok (.aload 4, 2) := by decide +kernel
theorem dX2_tick_54 : decode cX2_tick 54 = .ok (.getfield 65, 3) := by decide +kernel
theorem dX2_tick_57 : decode cX2_tick 57 = .ok (.ifCond .eq 15, 3) := by decide +kernel
theorem dX2_tick_60 : decode cX2_tick 60 = .ok (.aload_n 0, 1) := by decide +kernel
theorem dX2_tick_61 : decode cX2_tick 61 = .ok (.aload 4, 2) := by decide +kernel
theorem dX2_tick_63 : decode cX2_tick 63 = .ok (.invokevirtual 141, 3) := by decide +kernel
theorem dX2_tick_66 : decode cX2_tick 66 = .ok (.aload_n 0, 1) := by decide +kernel
theorem dX2_tick_67 : decode cX2_tick 67 = .ok (.aload 4, 2) := by decide +kernel
theorem dX2_tick_69 : decode cX2_tick 69 = .ok (.invokevirtual 144, 3) := by decide +kernel
theorem dX2_tick_72 : decode cX2_tick 72 = .ok (.iinc 3 1, 3) := by decide +kernel
theorem dX2_tick_75 : decode cX2_tick 75 = .ok (.goto (-33), 3) := by decide +kernel
theorem dX2_tick_78 : decode cX2_tick 78 = .ok (.aload_n 0, 1) := by decide +kernel
theorem dX2_tick_79 : decode cX2_tick 79 = .ok (.invokevirtual 147, 3) := by decide +kernel
theorem dX2_tick_82 : decode cX2_tick 82 = .ok (.aload_n 0, 1) := by decide +kernel
theorem dX2_tick_83 : decode cX2_tick 83 = .ok (.dup, 1) := by decide +kernel
theorem dX2_tick_84 : decode cX2_tick 84 = .ok (.getfield 56, 3) := by decide +kernel
theorem dX2_tick_87 : decode cX2_tick 87 = .ok (.iconst 1, 1) := by decide +kernel
theorem dX2_tick_88 : decode cX2_tick 88 = .ok (.iadd, 1) := by decide +kernel
theorem dX2_tick_89 : decode cX2_tick 89 = .ok (.putfield 56, 3) := by decide +kernel
theorem dX2_tick_92 : decode cX2_tick 92 = .ok (.return_, 1) := by decide +kernel
theorem dX2_serveAt_0 : decode cX2_serveAt 0 = .ok (.iconst 0, 1) := by decide +kernel
theorem dX2_serveAt_1 : decode cX2_serveAt 1 = .ok (.istore_n 2, 1) := by decide +kernel
theorem dX2_serveAt_2 : decode cX2_serveAt 2 = .ok (.aload_n 1, 1) := by decide +kernel
theorem dX2_serveAt_3 : decode cX2_serveAt 3 = .ok (.getfield 150, 3) := by decide +kernel
theorem dX2_serveAt_6 : decode cX2_serveAt 6 = .ok (.invokevirtual 153, 3) := by decide +kernel
theorem dX2_serveAt_9 : decode cX2_serveAt 9 = .ok (.istore_n 3, 1) := by decide +kernel
theorem dX2_serveAt_10 : decode cX2_serveAt 10 = .ok (.iconst 0, 1) := by decide +kernel
theorem dX2_serveAt_11 : decode cX2_serveAt 11 = .ok (.istore 4, 2) := by decide +kernel
theorem dX2_serveAt_13 : decode cX2_serveAt 13 = .ok (.iload 4, 2) := by decide +kernel
theorem dX2_serveAt_15 : decode cX2_serveAt 15 = .ok (.iload_n 3, 1) := by decide +kernel
theorem dX2_serveAt_16 : decode cX2_serveAt 16 = .ok (.if_icmp .ge 83, 3) := by decide +kernel
theorem dX2_serveAt_19 : decode cX2_serveAt 19 = .ok (.aload_n 0, 1) := by decide +kernel
theorem dX2_serveAt_20 : decode cX2_serveAt 20 = .ok (.aload_n 1, 1) := by decide +kernel
theorem dX2_serveAt_21 : decode cX2_serveAt 21 = .ok (.getfield 150, 3) := by decide +kernel
theorem dX2_serveAt_24 : decode cX2_serveAt 24 = .ok (.iload_n 2, 1) := by decide +kernel
theorem dX2_serveAt_25 : decode cX2_serveAt 25 = .ok (.invokevirtual 156, 3) := by decide +kernel
theorem dX2_serveAt_28 : decode cX2_serveAt 28 = .ok (.invokevirtual 159, 3) := by decide +kernel
theorem dX2_serveAt_31 : decode cX2_serveAt 31 = .ok (.astore 5, 2) := by decide +kernel
theorem dX2_serveAt_33 : decode cX2_serveAt 33 = .ok (.aload 5, 2) := by decide +kernel
theorem dX2_serveAt_35 : decode cX2_serveAt 35 = .ok (.ifnull 14, 3) := by decide +kernel
theorem dX2_serveAt_38 : decode cX2_serveAt 38 = .ok (.aload 5, 2) := by decide +kernel
theorem dX2_serveAt_40 : decode cX2_serveAt 40 = .ok (.dup, 1) := by decide +kernel
theorem dX2_serveAt_41 : decode cX2_serveAt 41 = .ok (.getfield 163, 3) := by decide +kernel
theorem dX2_serveAt_44 : decode cX2_serveAt 44 = .ok (.iconst 1, 1) := by decide +kernel
theorem dX2_serveAt_45 : decode cX2_serveAt 45 = .ok (.iadd, 1) := by decide +kernel
theorem dX2_serveAt_46 : decode cX2_serveAt 46 = .ok (.putfield 163, 3) := by decide +kernel
theorem dX2_serveAt_49 : decode cX2_serveAt 49 = .ok (.aload 5, 2) := by decide +kernel
theorem dX2_serveAt_51 : decode cX2_serveAt 51 = .ok (.ifnull 39, 3) := by decide +kernel
theorem dX2_serveAt_54 : decode cX2_serveAt 54 = .ok (.aload 5, 2) := by decide +kernel
theorem dX2_serveAt_56 : decode cX2_serveAt 56 = .ok (.getfield 163, 3) := by decide +kernel
theorem dX2_serveAt_59 : decode cX2_serveAt 59 = .ok (.aload_n 0, 1) := by decide +kernel
theorem dX2_serveAt_60 : decode cX2_serveAt 60 = .ok (.getfield 18, 3) := by decide +kernel
theorem dX2_serveAt_63 : decode cX2_serveAt 63 = .ok (.iconst 0, 1) := by decide +kernel
theorem dX2_serveAt_64 : decode cX2_serveAt 64 = .ok (.iaload, 1) := by decide +kernel
theorem dX2_serveAt_65 : decode cX2_serveAt 65 = .ok (.if_icmp .lt 25, 3) := by decide +kernel
theorem dX2_serveAt_68 : decode cX2_serveAt 68 = .ok (.aload_n 1, 1) := by decide +kernel
theorem dX2_serveAt_69 : decode cX2_serveAt 69 = .ok (.getfield 150, 3) := by decide +kernel
theorem dX2_serveAt_72 : decode cX2_serveAt 72 = .ok (.aload 5, 2) := by decide +kernel
theorem dX2_serveAt_74 : decode cX2_serveAt 74 = .ok (.getfield 96, 3) := by decide +kernel
theorem dX2_serveAt_77 : decode cX2_serveAt 77 = .ok (.invokevirtual 131, 3) := by decide +kernel
theorem dX2_serveAt_80 : decode cX2_serveAt 80 = .ok (.aload_n 0, 1) := by decide +kernel
theorem dX2_serveAt_81 : decode cX2_serveAt 81 = .ok (.aload_n 1, 1) := by decide +kernel
theorem dX2_serveAt_82 : decode cX2_serveAt 82 = .ok (.aload 5, 2) := by decide +kernel
theorem dX2_serveAt_84 : decode cX2_serveAt 84 = .ok (.invokevirtual 166, 3) := by decide +kernel
theorem dX2_serveAt_87 : decode cX2_serveAt 87 = .ok (.goto 6, 3) := by decide +kernel
theorem dX2_serveAt_90 : decode cX2_serveAt 90 = .ok (.iinc 2 1, 3) := by decide +kernel
theorem dX2_serveAt_93 : decode cX2_serveAt 93 = .ok (.iinc 4 1, 3) := by decide +kernel
theorem dX2_serveAt_96 : decode cX2_serveAt 96 = .ok (.goto (-83), 3) := by decide +kernel
theorem dX2_serveAt_99 : decode cX2_serveAt 99 = .ok (.return_, 1) := by decide +kernel
theorem dX2_finishAt_0 : decode cX2_finishAt 0 = .ok (.aload_n 1, 1) := by decide +kernel
theorem dX2_finishAt_1 : decode cX2_finishAt 1 = .ok (.dup, 1) := by decide +kernel
theorem dX2_finishAt_2 : decode cX2_finishAt 2 = .ok (.getfield 170, 3) := by decide +kernel
theorem dX2_finishAt_5 : decode cX2_finishAt 5 = .ok (.iconst 1, 1) := by decide +kernel
theorem dX2_finishAt_6 : decode cX2_finishAt 6 = .ok (.iadd, 1) := by decide +kernel
theorem dX2_finishAt_7 : decode cX2_finishAt 7 = .ok (.putfield 170, 3) := by decide +kernel
theorem dX2_finishAt_10 : decode cX2_finishAt 10 = .ok (.aload_n 2, 1) := by decide +kernel
theorem dX2_finishAt_11 : decode cX2_finishAt 11 = .ok (.getfield 173, 3) := by decide +kernel
theorem dX2_finishAt_14 : decode cX2_finishAt 14 = .ok (.iconst 1, 1) := by decide +kernel
theorem dX2_finishAt_15 : decode cX2_finishAt 15 = .ok (.iadd, 1) := by decide +kernel
theorem dX2_finishAt_16 : decode cX2_finishAt 16 = .ok (.aload_n 2, 1) := by decide +kernel
theorem dX2_finishAt_17 : decode cX2_finishAt 17 = .ok (.getfield 176, 3) := by decide +kernel
theorem dX2_finishAt_20 : decode cX2_finishAt 20 = .ok (.if_icmp .lt 46, 3) := by decide +kernel
theorem dX2_finishAt_23 : decode cX2_finishAt 23 = .ok (.aload_n 2, 1) := by decide +kernel
theorem dX2_finishAt_24 : decode cX2_finishAt 24 = .ok (.dup, 1) := by decide +kernel
theorem dX2_finishAt_25 : decode cX2_finishAt 25 = .ok (.getfield 173, 3) := by decide +kernel
theorem dX2_finishAt_28 : decode cX2_finishAt 28 = .ok (.iconst 1, 1) := by decide +kernel
theorem dX2_finishAt_29 : decode cX2_finishAt 29 = .ok (.iadd, 1) := by decide +kernel
theorem dX2_finishAt_30 : decode cX2_finishAt 30 = .ok (.putfield 173, 3) := by decide +kernel
theorem dX2_finishAt_33 : decode cX2_finishAt 33 = .ok (.aload_n 1, 1) := by decide +kernel
theorem dX2_finishAt_34 : decode cX2_finishAt 34 = .ok (.dup, 1) := by decide +kernel
theorem dX2_finishAt_35 : decode cX2_finishAt 35 = .ok (.getfield 72, 3) := by decide +kernel
theorem dX2_finishAt_38 : decode cX2_finishAt 38 = .ok (.aload_n 2, 1) := by decide +kernel
theorem dX2_finishAt_39 : decode cX2_finishAt 39 = .ok (.getfield 75, 3) := by decide +kernel
theorem dX2_finishAt_42 : decode cX2_finishAt 42 = .ok (.ifCond .eq 7, 3) := by decide +kernel
theorem dX2_finishAt_45 : decode cX2_finishAt 45 = .ok (.iconst 1, 1) := by decide +kernel
theorem dX2_finishAt_46 : decode cX2_finishAt 46 = .ok (.goto 4, 3) := by decide +kernel
theorem dX2_finishAt_49 : decode cX2_finishAt 49 = .ok (.iconst 0, 1) := by decide +kernel
theorem dX2_finishAt_50 : decode cX2_finishAt 50 = .ok (.iadd, 1) := by decide +kernel
theorem dX2_finishAt_51 : decode cX2_finishAt 51 = .ok (.putfield 72, 3) := by decide +kernel
theorem dX2_finishAt_54 : decode cX2_finishAt 54 = .ok (.aload_n 2, 1) := by decide +kernel
theorem dX2_finishAt_55 : decode cX2_finishAt 55 = .ok (.iconst 2, 1) := by decide +kernel
theorem dX2_finishAt_56 : decode cX2_finishAt 56 = .ok (.aload_n 0, 1) := by decide +kernel
theorem dX2_finishAt_57 : decode cX2_finishAt 57 = .ok (.getfield 56, 3) := by decide +kernel
theorem dX2_finishAt_60 : decode cX2_finishAt 60 = .ok (.iconst 1, 1) := by decide +kernel
theorem dX2_finishAt_61 : decode cX2_finishAt 61 = .ok (.iadd, 1) := by decide +kernel
theorem dX2_finishAt_62 : decode cX2_finishAt 62 = .ok (.invokevirtual 134, 3) := by decide +kernel
theorem dX2_finishAt_65 : decode cX2_finishAt 65 = .ok (.return_, 1) := by decide +kernel
theorem dX2_finishAt_66 : decode cX2_finishAt 66 = .ok (.aload_n 1, 1) := by decide +kernel
theorem dX2_finishAt_67 : decode cX2_finishAt 67 = .ok (.getfield 72, 3) := by decide +kernel
theorem dX2_finishAt_70 : decode cX2_finishAt 70 = .ok (.ifCond .le 29, 3) := by decide +kernel
theorem dX2_finishAt_73 : decode cX2_finishAt 73 = .ok (.aload_n 1, 1) := by decide +kernel
theorem dX2_finishAt_74 : decode cX2_finishAt 74 = .ok (.dup, 1) := by decide +kernel
theorem dX2_finishAt_75 : decode cX2_finishAt 75 = .ok (.getfield 72, 3) := by decide +kernel
theorem dX2_finishAt_78 : decode cX2_finishAt 78 = .ok (.aload_n 2, 1) := by decide +kernel
theorem dX2_finishAt_79 : decode cX2_finishAt 79 = .ok (.getfield 75, 3) := by decide +kernel
theorem dX2_finishAt_82 : decode cX2_finishAt 82 = .ok (.ifCond .eq 7, 3) := by decide +kernel
theorem dX2_finishAt_85 : decode cX2_finishAt 85 = .ok (.iconst 0, 1) := by decide +kernel
theorem dX2_finishAt_86 : decode cX2_finishAt 86 = .ok (.goto 4, 3) := by decide +kernel
theorem dX2_finishAt_89 : decode cX2_finishAt 89 = .ok (.iconst (-1), 1) := by decide +kernel
theorem dX2_finishAt_90 : decode cX2_finishAt 90 = .ok (.iadd, 1) := by decide +kernel
theorem dX2_finishAt_91 : decode cX2_finishAt 91 = .ok (.putfield 72, 3) := by decide +kernel
theorem dX2_finishAt_94 : decode cX2_finishAt 94 = .ok (.aload_n 2, 1) := by decide +kernel
theorem dX2_finishAt_95 : decode cX2_finishAt 95 = .ok (.iconst 1, 1) := by decide +kernel
theorem dX2_finishAt_96 : decode cX2_finishAt 96 = .ok (.putfield 75, 3) := by decide +kernel
theorem dX2_finishAt_99 : decode cX2_finishAt 99 = .ok (.aload_n 2, 1) := by decide +kernel
theorem dX2_finishAt_100 : decode cX2_finishAt 100 = .ok (.getfield 75, 3) := by decide +kernel
theorem dX2_finishAt_103 : decode cX2_finishAt 103 = .ok (.ifCond .eq 16, 3) := by decide +kernel
theorem dX2_finishAt_106 : decode cX2_finishAt 106 = .ok (.aload_n 2, 1) := by decide +kernel
theorem dX2_finishAt_107 : decode cX2_finishAt 107 = .ok (.dup, 1) := by decide +kernel
theorem dX2_finishAt_108 : decode cX2_finishAt 108 = .ok (.getfield 173, 3) := by decide +kernel
theorem dX2_finishAt_111 : decode cX2_finishAt 111 = .ok (.iconst 1, 1) := by decide +kernel
theorem dX2_finishAt_112 : decode cX2_finishAt 112 = .ok (.iadd, 1) := by decide +kernel
theorem dX2_finishAt_113 : decode cX2_finishAt 113 = .ok (.putfield 173, 3) := by decide +kernel
theorem dX2_finishAt_116 : decode cX2_finishAt 116 = .ok (.goto 23, 3) := by decide +kernel
theorem dX2_finishAt_119 : decode cX2_finishAt 119 = .ok (.aload_n 2, 1) := by decide +kernel
theorem dX2_finishAt_120 : decode cX2_finishAt 120 = .ok (.dup, 1) := by decide +kernel
theorem dX2_finishAt_121 : decode cX2_finishAt 121 = .ok (.getfield 81, 3) := by decide +kernel
theorem dX2_finishAt_124 : decode cX2_finishAt 124 = .ok (.iconst 1, 1) := by decide +kernel
theorem dX2_finishAt_125 : decode cX2_finishAt 125 = .ok (.iadd, 1) := by decide +kernel
theorem dX2_finishAt_126 : decode cX2_finishAt 126 = .ok (.putfield 81, 3) := by decide +kernel
theorem dX2_finishAt_129 : decode cX2_finishAt 129 = .ok (.aload_n 1, 1) := by decide +kernel
theorem dX2_finishAt_130 : decode cX2_finishAt 130 = .ok (.dup, 1) := by decide +kernel
theorem dX2_finishAt_131 : decode cX2_finishAt 131 = .ok (.getfield 179, 3) := by decide +kernel
theorem dX2_finishAt_134 : decode cX2_finishAt 134 = .ok (.iconst 1, 1) := by decide +kernel
theorem dX2_finishAt_135 : decode cX2_finishAt 135 = .ok (.iadd, 1) := by decide +kernel
theorem dX2_finishAt_136 : decode cX2_finishAt 136 = .ok (.putfield 179, 3) := by decide +kernel
theorem dX2_finishAt_139 : decode cX2_finishAt 139 = .ok (.aload_n 2, 1) := by decide +kernel
theorem dX2_finishAt_140 : decode cX2_finishAt 140 = .ok (.iconst 1, 1) := by decide +kernel
theorem dX2_finishAt_141 : decode cX2_finishAt 141 = .ok (.putfield 138, 3) := by decide +kernel
theorem dX2_finishAt_144 : decode cX2_finishAt 144 = .ok (.aload_n 0, 1) := by decide +kernel
theorem dX2_finishAt_145 : decode cX2_finishAt 145 = .ok (.aload_n 2, 1) := by decide +kernel
theorem dX2_finishAt_146 : decode cX2_finishAt 146 = .ok (.invokevirtual 122, 3) := by decide +kernel
theorem dX2_finishAt_149 : decode cX2_finishAt 149 = .ok (.return_, 1) := by decide +kernel
theorem dX2_callAt_0 : decode cX2_callAt 0 = .ok (.aload_n 1, 1) := by decide +kernel
theorem dX2_callAt_1 : decode cX2_callAt 1 = .ok (.getfield 180, 3) := by decide +kernel
theorem dX2_callAt_4 : decode cX2_callAt 4 = .ok (.aload_n 1, 1) := by decide +kernel
theorem dX2_callAt_5 : decode cX2_callAt 5 = .ok (.getfield 150, 3) := by decide +kernel
theorem dX2_callAt_8 : decode cX2_callAt 8 = .ok (.invokevirtual 153, 3) := by decide +kernel
theorem dX2_callAt_11 : decode cX2_callAt 11 = .ok (.isub, 1) := by decide +kernel
theorem dX2_callAt_12 : decode cX2_callAt 12 = .ok (.istore_n 2, 1) := by decide +kernel
theorem dX2_callAt_13 : decode cX2_callAt 13 = .ok (.iconst 0, 1) := by decide +kernel
theorem dX2_callAt_14 : decode cX2_callAt 14 = .ok (.istore_n 3, 1) := by decide +kernel
theorem dX2_callAt_15 : decode cX2_callAt 15 = .ok (.iload_n 3, 1) := by decide +kernel
theorem dX2_callAt_16 : decode cX2_callAt 16 = .ok (.iload_n 2, 1) := by decide +kernel
theorem dX2_callAt_17 : decode cX2_callAt 17 = .ok (.if_icmp .ge 73, 3) := by decide +kernel
theorem dX2_callAt_20 : decode cX2_callAt 20 = .ok (.aload_n 0, 1) := by decide +kernel
theorem dX2_callAt_21 : decode cX2_callAt 21 = .ok (.aload_n 1, 1) := by decide +kernel
theorem dX2_callAt_22 : decode cX2_callAt 22 = .ok (.getfield 92, 3) := by decide +kernel
theorem dX2_callAt_25 : decode cX2_callAt 25 = .ok (.iconst 0, 1) := by decide +kernel
theorem dX2_callAt_26 : decode cX2_callAt 26 = .ok (.invokevirtual 156, 3) := by decide +kernel
theorem dX2_callAt_29 : decode cX2_callAt 29 = .ok (.invokevirtual 159, 3) := by decide +kernel
theorem dX2_callAt_32 : decode cX2_callAt 32 = .ok (.astore 4, 2) := by decide +kernel
theorem dX2_callAt_34 : decode cX2_callAt 34 = .ok (.aload 4, 2) := by decide +kernel
theorem dX2_callAt_36 : decode cX2_callAt 36 = .ok (.ifnull 11, 3) := by decide +kernel
theorem dX2_callAt_39 : decode cX2_callAt 39 = .ok (.aload 4, 2) := by decide +kernel
theorem dX2_callAt_41 : decode cX2_callAt 41 = .ok (.getfield 138, 3) := by decide +kernel
theorem dX2_callAt_44 : decode cX2_callAt 44 = .ok (.ifCond .eq 4, 3) := by decide +kernel
theorem dX2_callAt_47 : decode cX2_callAt 47 = .ok (.return_, 1) := by decide +kernel
theorem dX2_callAt_48 : decode cX2_callAt 48 = .ok (.aload_n 1, 1) := by decide +kernel
theorem dX2_callAt_49 : decode cX2_callAt 49 = .ok (.getfield 92, 3) := by decide +kernel
theorem dX2_callAt_52 : decode cX2_callAt 52 = .ok (.aload 4, 2) := by decide +kernel
theorem dX2_callAt_54 : decode cX2_callAt 54 = .ok (.getfield 96, 3) := by decide +kernel
theorem dX2_callAt_57 : decode cX2_callAt 57 = .ok (.invokevirtual 131, 3) := by decide +kernel
theorem dX2_callAt_60 : decode cX2_callAt 60 = .ok (.aload_n 1, 1) := by decide +kernel
theorem dX2_callAt_61 : decode cX2_callAt 61 = .ok (.getfield 150, 3) := by decide +kernel
theorem dX2_callAt_64 : decode cX2_callAt 64 = .ok (.aload 4, 2) := by decide +kernel
theorem dX2_callAt_66 : decode cX2_callAt 66 = .ok (.getfield 96, 3) := by decide +kernel
theorem dX2_callAt_69 : decode cX2_callAt 69 = .ok (.invokevirtual 128, 3) := by decide +kernel
theorem dX2_callAt_72 : decode cX2_callAt 72 = .ok (.aload 4, 2) := by decide +kernel
theorem dX2_callAt_74 : decode cX2_callAt 74 = .ok (.iconst 1, 1) := by decide +kernel
theorem dX2_callAt_75 : decode cX2_callAt 75 = .ok (.putfield 69, 3) := by decide +kernel
theorem dX2_callAt_78 : decode cX2_callAt 78 = .ok (.aload 4, 2) := by decide +kernel
theorem dX2_callAt_80 : decode cX2_callAt 80 = .ok (.iconst 0, 1) := by decide +kernel
theorem dX2_callAt_81 : decode cX2_callAt 81 = .ok (.putfield 163, 3) := by decide +kernel
theorem dX2_callAt_84 : decode cX2_callAt 84 = .ok (.iinc 3 1, 3) := by decide +kernel
theorem dX2_callAt_87 : decode cX2_callAt 87 = .ok (.goto (-72), 3) := by decide +kernel
theorem dX2_callAt_90 : decode cX2_callAt 90 = .ok (.return_, 1) := by decide +kernel
theorem dX2_waitInQueues_0 : decode cX2_waitInQueues 0 = .ok (.aload_n 0, 1) := by decide +kernel
theorem dX2_waitInQueues_1 : decode cX2_waitInQueues 1 = .ok (.getfield 18, 3) := by decide +kernel
theorem dX2_waitInQueues_4 : decode cX2_waitInQueues 4 = .ok (.iconst 2, 1) := by decide +kernel
theorem dX2_waitInQueues_5 : decode cX2_waitInQueues 5 = .ok (.iaload, 1) := by decide +kernel
theorem dX2_waitInQueues_6 : decode cX2_waitInQueues 6 = .ok (.istore_n 1, 1) := by decide +kernel
theorem dX2_waitInQueues_7 : decode cX2_waitInQueues 7 = .ok (.aload_n 0, 1) := by decide +kernel
theorem dX2_waitInQueues_8 : decode cX2_waitInQueues 8 = .ok (.getfield 31, 3) := by decide +kernel
theorem dX2_waitInQueues_11 : decode cX2_waitInQueues 11 = .ok (.astore_n 2, 1) := by decide +kernel
theorem dX2_waitInQueues_12 : decode cX2_waitInQueues 12 = .ok (.aload_n 2, 1) := by decide +kernel
theorem dX2_waitInQueues_13 : decode cX2_waitInQueues 13 = .ok (.arraylength, 1) := by decide +kernel
theorem dX2_waitInQueues_14 : decode cX2_waitInQueues 14 = .ok (.istore_n 3, 1) := by decide +kernel
theorem dX2_waitInQueues_15 : decode cX2_waitInQueues 15 = .ok (.iconst 0, 1) := by decide +kernel
theorem dX2_waitInQueues_16 : decode cX2_waitInQueues 16 = .ok (.istore 4, 2) := by decide +kernel
theorem dX2_waitInQueues_18 : decode cX2_waitInQueues 18 = .ok (.iload 4, 2) := by decide +kernel
theorem dX2_waitInQueues_20 : decode cX2_waitInQueues 20 = .ok (.iload_n 3, 1) := by decide +kernel
theorem dX2_waitInQueues_21 : decode cX2_waitInQueues 21 = .ok (.if_icmp .ge 70, 3) := by decide +kernel
theorem dX2_waitInQueues_24 : decode cX2_waitInQueues 24 = .ok (.aload_n 2, 1) := by decide +kernel
theorem dX2_waitInQueues_25 : decode cX2_waitInQueues 25 = .ok (.iload 4, 2) := by decide +kernel
theorem dX2_waitInQueues_27 : decode cX2_waitInQueues 27 = .ok (.aaload, 1) := by decide +kernel
theorem dX2_waitInQueues_28 : decode cX2_waitInQueues 28 = .ok (.astore 5, 2) := by decide +kernel
theorem dX2_waitInQueues_30 : decode cX2_waitInQueues 30 = .ok (.aload 5, 2) := by decide +kernel
theorem dX2_waitInQueues_32 : decode cX2_waitInQueues 32 = .ok (.getfield 69, 3) := by decide +kernel
theorem dX2_waitInQueues_35 : decode cX2_waitInQueues 35 = .ok (.ifCond .ne 50, 3) := by decide +kernel
theorem dX2_waitInQueues_38 : decode cX2_waitInQueues 38 = .ok (.aload 5, 2) := by decide +kernel
theorem dX2_waitInQueues_40 : decode cX2_waitInQueues 40 = .ok (.dup, 1) := by decide +kernel
theorem dX2_waitInQueues_41 : decode cX2_waitInQueues 41 = .ok (.getfield 78, 3) := by decide +kernel
theorem dX2_waitInQueues_44 : decode cX2_waitInQueues 44 = .ok (.iconst 1, 1) := by decide +kernel
theorem dX2_waitInQueues_45 : decode cX2_waitInQueues 45 = .ok (.iadd, 1) := by decide +kernel
theorem dX2_waitInQueues_46 : decode cX2_waitInQueues 46 = .ok (.putfield 78, 3) := by decide +kernel
theorem dX2_waitInQueues_49 : decode cX2_waitInQueues 49 = .ok (.aload 5, 2) := by decide +kernel
theorem dX2_waitInQueues_51 : decode cX2_waitInQueues 51 = .ok (.dup, 1) := by decide +kernel
theorem dX2_waitInQueues_52 : decode cX2_waitInQueues 52 = .ok (.getfield 125, 3) := by decide +kernel
theorem dX2_waitInQueues_55 : decode cX2_waitInQueues 55 = .ok (.iconst 1, 1) := by decide +kernel
theorem dX2_waitInQueues_56 : decode cX2_waitInQueues 56 = .ok (.iadd, 1) := by decide +kernel
theorem dX2_waitInQueues_57 : decode cX2_waitInQueues 57 = .ok (.putfield 125, 3) := by decide +kernel
theorem dX2_waitInQueues_60 : decode cX2_waitInQueues 60 = .ok (.iload_n 1, 1) := by decide +kernel
theorem dX2_waitInQueues_61 : decode cX2_waitInQueues 61 = .ok (.ifCond .eq 24, 3) := by decide +kernel
theorem dX2_waitInQueues_64 : decode cX2_waitInQueues 64 = .ok (.aload 5, 2) := by decide +kernel
theorem dX2_waitInQueues_66 : decode cX2_waitInQueues 66 = .ok (.getfield 125, 3) := by decide +kernel
theorem dX2_waitInQueues_69 : decode cX2_waitInQueues 69 = .ok (.iload_n 1, 1) := by decide +kernel
theorem dX2_waitInQueues_70 : decode cX2_waitInQueues 70 = .ok (.if_icmp .lt 15, 3) := by decide +kernel
theorem dX2_waitInQueues_73 : decode cX2_waitInQueues 73 = .ok (.aload_n 0, 1) := by decide +kernel
theorem dX2_waitInQueues_74 : decode cX2_waitInQueues 74 = .ok (.aload 5, 2) := by decide +kernel
theorem dX2_waitInQueues_76 : decode cX2_waitInQueues 76 = .ok (.aload_n 0, 1) := by decide +kernel
theorem dX2_waitInQueues_77 : decode cX2_waitInQueues 77 = .ok (.getfield 56, 3) := by decide +kernel
theorem dX2_waitInQueues_80 : decode cX2_waitInQueues 80 = .ok (.iconst 1, 1) := by decide +kernel
theorem dX2_waitInQueues_81 : decode cX2_waitInQueues 81 = .ok (.iadd, 1) := by decide +kernel
theorem dX2_waitInQueues_82 : decode cX2_waitInQueues 82 = .ok (.invokevirtual 183, 3) := by decide +kernel
theorem dX2_waitInQueues_85 : decode cX2_waitInQueues 85 = .ok (.iinc 4 1, 3) := by decide +kernel
theorem dX2_waitInQueues_88 : decode cX2_waitInQueues 88 = .ok (.goto (-70), 3) := by decide +kernel
theorem dX2_waitInQueues_91 : decode cX2_waitInQueues 91 = .ok (.return_, 1) := by decide +kernel
theorem dX3_init_0 : decode cX3_init 0 = .ok (.aload_n 0, 1) := by decide +kernel
theorem dX3_init_1 : decode cX3_init 1 = .ok (.invokespecial 3, 3) := by decide +kernel
theorem dX3_init_4 : decode cX3_init 4 = .ok (.aload_n 0, 1) := by decide +kernel
theorem dX3_init_5 : decode cX3_init 5 = .ok (.bipush 60, 2) := by decide +kernel
theorem dX3_init_7 : decode cX3_init 7 = .ok (.newarray .char, 2) := by decide +kernel
theorem dX3_init_9 : decode cX3_init 9 = .ok (.putfield 9, 3) := by decide +kernel
theorem dX3_init_12 : decode cX3_init 12 = .ok (.return_, 1) := by decide +kernel
theorem dX3_charactersIn_0 : decode cX3_charactersIn 0 = .ok (.iconst 0, 1) := by decide +kernel
theorem dX3_charactersIn_1 : decode cX3_charactersIn 1 = .ok (.istore_n 2, 1) := by decide +kernel
theorem dX3_charactersIn_2 : decode cX3_charactersIn 2 = .ok (.iconst 0, 1) := by decide +kernel
theorem dX3_charactersIn_3 : decode cX3_charactersIn 3 = .ok (.istore_n 3, 1) := by decide +kernel
theorem dX3_charactersIn_4 : decode cX3_charactersIn 4 = .ok (.iload_n 3, 1) := by decide +kernel
theorem dX3_charactersIn_5 : decode cX3_charactersIn 5 = .ok (.bipush 8, 2) := by decide +kernel
theorem dX3_charactersIn_7 : decode cX3_charactersIn 7 = .ok (.if_icmp .ge 57, 3) := by decide +kernel
theorem dX3_charactersIn_10 : decode cX3_charactersIn 10 = .ok (.lload_n 0, 1) := by decide +kernel
theorem dX3_charactersIn_11 : decode cX3_charactersIn 11 = .ok (.bipush 8, 2) := by decide +kernel
theorem dX3_charactersIn_13 : decode cX3_charactersIn 13 = .ok (.iload_n 3, 1) := by decide +kernel
theorem dX3_charactersIn_14 : decode cX3_charactersIn 14 = .ok (.imul, 1) := by decide +kernel
theorem dX3_charactersIn_15 : decode cX3_charactersIn 15 = .ok (.lushr, 1) := by decide +kernel
theorem dX3_charactersIn_16 : decode cX3_charactersIn 16 = .ok (.lstore 4, 2) := by decide +kernel
theorem dX3_charactersIn_18 : decode cX3_charactersIn 18 = .ok (.lload 4, 2) := by decide +kernel
theorem dX3_charactersIn_20 : decode cX3_charactersIn 20 = .ok (.lconst 0, 1) := by decide +kernel
theorem dX3_charactersIn_21 : decode cX3_charactersIn 21 = .ok (.lcmp, 1) := by decide +kernel
theorem dX3_charactersIn_22 : decode cX3_charactersIn 22 = .ok (.ifCond .ne 5, 3) := by decide +kernel
theorem dX3_charactersIn_25 : decode cX3_charactersIn 25 = .ok (.iload_n 2, 1) := by decide +kernel
theorem dX3_charactersIn_26 : decode cX3_charactersIn 26 = .ok (.ireturn, 1) := by decide +kernel
theorem dX3_charactersIn_27 : decode cX3_charactersIn 27 = .ok (.lload 4, 2) := by decide +kernel
theorem dX3_charactersIn_29 : decode cX3_charactersIn 29 = .ok (.ldc2_w 15, 3) := by decide +kernel
theorem dX3_charactersIn_32 : decode cX3_charactersIn 32 = .ok (.land, 1) := by decide +kernel
theorem dX3_charactersIn_33 : decode cX3_charactersIn 33 = .ok (.lstore 6, 2) := by decide +kernel
theorem dX3_charactersIn_35 : decode cX3_charactersIn 35 = .ok (.lload 6, 2) := by decide +kernel
theorem dX3_charactersIn_37 : decode cX3_charactersIn 37 = .ok (.ldc2_w 17, 3) := by decide +kernel
theorem dX3_charactersIn_40 : decode cX3_charactersIn 40 = .ok (.lcmp, 1) := by decide +kernel
theorem dX3_charactersIn_41 : decode cX3_charactersIn 41 = .ok (.ifCond .lt 12, 3) := by decide +kernel
theorem dX3_charactersIn_44 : decode cX3_charactersIn 44 = .ok (.lload 6, 2) := by decide +kernel
theorem dX3_charactersIn_46 : decode cX3_charactersIn 46 = .ok (.ldc2_w 19, 3) := by decide +kernel
theorem dX3_charactersIn_49 : decode cX3_charactersIn 49 = .ok (.lcmp, 1) := by decide +kernel
theorem dX3_charactersIn_50 : decode cX3_charactersIn 50 = .ok (.ifCond .le 5, 3) := by decide +kernel
theorem dX3_charactersIn_53 : decode cX3_charactersIn 53 = .ok (.iconst 0, 1) := by decide +kernel
theorem dX3_charactersIn_54 : decode cX3_charactersIn 54 = .ok (.ireturn, 1) := by decide +kernel
theorem dX3_charactersIn_55 : decode cX3_charactersIn 55 = .ok (.iinc 2 1, 3) := by decide +kernel
theorem dX3_charactersIn_58 : decode cX3_charactersIn 58 = .ok (.iinc 3 1, 3) := by decide +kernel
theorem dX3_charactersIn_61 : decode cX3_charactersIn 61 = .ok (.goto (-57), 3) := by decide +kernel
theorem dX3_charactersIn_64 : decode cX3_charactersIn 64 = .ok (.iload_n 2, 1) := by decide +kernel
theorem dX3_charactersIn_65 : decode cX3_charactersIn 65 = .ok (.ireturn, 1) := by decide +kernel
theorem dX3_append_0 : decode cX3_append 0 = .ok (.iload_n 3, 1) := by decide +kernel
theorem dX3_append_1 : decode cX3_append 1 = .ok (.iconst 1, 1) := by decide +kernel
theorem dX3_append_2 : decode cX3_append 2 = .ok (.isub, 1) := by decide +kernel
theorem dX3_append_3 : decode cX3_append 3 = .ok (.istore 4, 2) := by decide +kernel
theorem dX3_append_5 : decode cX3_append 5 = .ok (.iload 4, 2) := by decide +kernel
theorem dX3_append_7 : decode cX3_append 7 = .ok (.ifCond .lt 53, 3) := by decide +kernel
theorem dX3_append_10 : decode cX3_append 10 = .ok (.aload_n 0, 1) := by decide +kernel
theorem dX3_append_11 : decode cX3_append 11 = .ok (.getfield 21, 3) := by decide +kernel
theorem dX3_append_14 : decode cX3_append 14 = .ok (.aload_n 0, 1) := by decide +kernel
theorem dX3_append_15 : decode cX3_append 15 = .ok (.getfield 9, 3) := by decide +kernel
theorem dX3_append_18 : decode cX3_append 18 = .ok (.arraylength, 1) := by decide +kernel
theorem dX3_append_19 : decode cX3_append 19 = .ok (.if_icmp .ge 41, 3) := by decide +kernel
theorem dX3_append_22 : decode cX3_append 22 = .ok (.aload_n 0, 1) := by decide +kernel
theorem dX3_append_23 : decode cX3_append 23 = .ok (.getfield 9, 3) := by decide +kernel
theorem dX3_append_26 : decode cX3_append 26 = .ok (.aload_n 0, 1) := by decide +kernel
theorem dX3_append_27 : decode cX3_append 27 = .ok (.getfield 21, 3) := by decide +kernel
theorem dX3_append_30 : decode cX3_append 30 = .ok (.lload_n 1, 1) := by decide +kernel
theorem dX3_append_31 : decode cX3_append 31 = .ok (.bipush 8, 2) := by decide +kernel
theorem dX3_append_33 : decode cX3_append 33 = .ok (.iload 4, 2) := by decide +kernel
theorem dX3_append_35 : decode cX3_append 35 = .ok (.imul, 1) := by decide +kernel
theorem dX3_append_36 : decode cX3_append 36 = .ok (.lushr, 1) := by decide +kernel
theorem dX3_append_37 : decode cX3_append 37 = .ok (.ldc2_w 15, 3) := by decide +kernel
theorem dX3_append_40 : decode cX3_append 40 = .ok (.land, 1) := by decide +kernel
theorem dX3_append_41 : decode cX3_append 41 = .ok (.l2i, 1) := by decide +kernel
theorem dX3_append_42 : decode cX3_append 42 = .ok (.i2c, 1) := by decide +kernel
theorem dX3_append_43 : decode cX3_append 43 = .ok (.castore, 1) := by decide +kernel
theorem dX3_append_44 : decode cX3_append 44 = .ok (.aload_n 0, 1) := by decide +kernel
theorem dX3_append_45 : decode cX3_append 45 = .ok (.dup, 1) := by decide +kernel
theorem dX3_append_46 : decode cX3_append 46 = .ok (.getfield 21, 3) := by decide +kernel
theorem dX3_append_49 : decode cX3_append 49 = .ok (.iconst 1, 1) := by decide +kernel
theorem dX3_append_50 : decode cX3_append 50 = .ok (.iadd, 1) := by decide +kernel
theorem dX3_append_51 : decode cX3_append 51 = .ok (.putfield 21, 3) := by decide +kernel
theorem dX3_append_54 : decode cX3_append 54 = .ok (.iinc 4 (-1), 3) := by decide +kernel
theorem dX3_append_57 : decode cX3_append 57 = .ok (.goto (-52), 3) := by decide +kernel
theorem dX3_append_60 : decode cX3_append 60 = .ok (.return_, 1) := by decide +kernel
theorem dX3_clear_0 : decode cX3_clear 0 = .ok (.aload_n 0, 1) := by decide +kernel
theorem dX3_clear_1 : decode cX3_clear 1 = .ok (.iconst 0, 1) := by decide +kernel
theorem dX3_clear_2 : decode cX3_clear 2 = .ok (.putfield 21, 3) := by decide +kernel
theorem dX3_clear_5 : decode cX3_clear 5 = .ok (.return_, 1) := by decide +kernel
theorem dX3_length_0 : decode cX3_length 0 = .ok (.aload_n 0, 1) := by decide +kernel
theorem dX3_length_1 : decode cX3_length 1 = .ok (.getfield 21, 3) := by decide +kernel
theorem dX3_length_4 : decode cX3_length 4 = .ok (.ireturn, 1) := by decide +kernel
theorem dX3_firstFault_0 : decode cX3_firstFault 0 = .ok (.iconst 0, 1) := by decide +kernel
theorem dX3_firstFault_1 : decode cX3_firstFault 1 = .ok (.istore_n 1, 1) := by decide +kernel
theorem dX3_firstFault_2 : decode cX3_firstFault 2 = .ok (.iconst 0, 1) := by decide +kernel
theorem dX3_firstFault_3 : decode cX3_firstFault 3 = .ok (.istore_n 2, 1) := by decide +kernel
theorem dX3_firstFault_4 : decode cX3_firstFault 4 = .ok (.iload_n 2, 1) := by decide +kernel
theorem dX3_firstFault_5 : decode cX3_firstFault 5 = .ok (.aload_n 0, 1) := by decide +kernel
theorem dX3_firstFault_6 : decode cX3_firstFault 6 = .ok (.getfield 21, 3) := by decide +kernel
theorem dX3_firstFault_9 : decode cX3_firstFault 9 = .ok (.if_icmp .ge 60, 3) := by decide +kernel
theorem dX3_firstFault_12 : decode cX3_firstFault 12 = .ok (.aload_n 0, 1) := by decide +kernel
theorem dX3_firstFault_13 : decode cX3_firstFault 13 = .ok (.getfield 9, 3) := by decide +kernel
theorem dX3_firstFault_16 : decode cX3_firstFault 16 = .ok (.iload_n 2, 1) := by decide +kernel
theorem dX3_firstFault_17 : decode cX3_firstFault 17 = .ok (.caload, 1) := by decide +kernel
theorem dX3_firstFault_18 : decode cX3_firstFault 18 = .ok (.istore_n 3, 1) := by decide +kernel
theorem dX3_firstFault_19 : decode cX3_firstFault 19 = .ok (.iload_n 3, 1) := by decide +kernel
theorem dX3_firstFault_20 : decode cX3_firstFault 20 = .ok (.bipush 44, 2) := by decide +kernel
theorem dX3_firstFault_22 : decode cX3_firstFault 22 = .ok (.if_icmp .ne 12, 3) := by decide +kernel
theorem dX3_firstFault_25 : decode cX3_firstFault 25 = .ok (.iload_n 1, 1) := by decide +kernel
theorem dX3_firstFault_26 : decode cX3_firstFault 26 = .ok (.ifCond .le 8, 3) := by decide +kernel
theorem dX3_firstFault_29 : decode cX3_firstFault 29 = .ok (.iconst 0, 1) := by decide +kernel
theorem dX3_firstFault_30 : decode cX3_firstFault 30 = .ok (.istore_n 1, 1) := by decide +kernel
theorem dX3_firstFault_31 : decode cX3_firstFault 31 = .ok (.goto 32, 3) := by decide +kernel
theorem dX3_firstFault_34 : decode cX3_firstFault 34 = .ok (.iload_n 3, 1) := by decide +kernel
theorem dX3_firstFault_35 : decode cX3_firstFault 35 = .ok (.invokestatic 25, 3) := by decide +kernel
theorem dX3_firstFault_38 : decode cX3_firstFault 38 = .ok (.ifCond .eq 23, 3) := by decide +kernel
theorem dX3_firstFault_41 : decode cX3_firstFault 41 = .ok (.iload_n 1, 1) := by decide +kernel
theorem dX3_firstFault_42 : decode cX3_firstFault 42 = .ok (.bipush 8, 2) := by decide +kernel
theorem dX3_firstFault_44 : decode cX3_firstFault 44 = .ok (.if_icmp .ge 17, 3) := by decide +kernel
theorem dX3_firstFault_47 : decode cX3_firstFault 47 = .ok (.aload_n 0, 1) := by decide +kernel
theorem dX3_firstFault_48 : decode cX3_firstFault 48 = .ok (.iload_n 2, 1) := by decide +kernel
theorem dX3_firstFault_49 : decode cX3_firstFault 49 = .ok (.invokevirtual 29, 3) := by decide +kernel
theorem dX3_firstFault_52 : decode cX3_firstFault 52 = .ok (.ifCond .ne 9, 3) := by decide +kernel
theorem dX3_firstFault_55 : decode cX3_firstFault 55 = .ok (.iinc 1 1, 3) := by decide +kernel
theorem dX3_firstFault_58 : decode cX3_firstFault 58 = .ok (.goto 5, 3) := by decide +kernel
theorem dX3_firstFault_61 : decode cX3_firstFault 61 = .ok (.iload_n 2, 1) := by decide +kernel
theorem dX3_firstFault_62 : decode cX3_firstFault 62 = .ok (.ireturn, 1) := by decide +kernel
theorem dX3_firstFault_63 : decode cX3_firstFault 63 = .ok (.iinc 2 1, 3) := by decide +kernel
theorem dX3_firstFault_66 : decode cX3_firstFault 66 = .ok (.goto (-62), 3) := by decide +kernel
theorem dX3_firstFault_69 : decode cX3_firstFault 69 = .ok (.iload_n 1, 1) := by decide +kernel
theorem dX3_firstFault_70 : decode cX3_firstFault 70 = .ok (.ifCond .ne 10, 3) := by decide +kernel
theorem dX3_firstFault_73 : decode cX3_firstFault 73 = .ok (.aload_n 0, 1) := by decide +kernel
theorem dX3_firstFault_74 : decode cX3_firstFault 74 = .ok (.getfield 21, 3) := by decide +kernel
theorem dX3_firstFault_77 : decode cX3_firstFault 77 = .ok (.goto 5, 3) := by decide +kernel
theorem dX3_firstFault_80 : decode cX3_firstFault 80 = .ok (.bipush (-6), 2) := by decide +kernel
theorem dX3_firstFault_82 : decode cX3_firstFault 82 = .ok (.ireturn, 1) := by decide +kernel
theorem dX3_repeatsAt_0 : decode cX3_repeatsAt 0 = .ok (.iload_n 1, 1) := by decide +kernel
theorem dX3_repeatsAt_1 : decode cX3_repeatsAt 1 = .ok (.ifCond .le 32, 3) := by decide +kernel
theorem dX3_repeatsAt_4 : decode cX3_repeatsAt 4 = .ok (.iload_n 1, 1) := by decide +kernel
theorem dX3_repeatsAt_5 : decode cX3_repeatsAt 5 = .ok (.aload_n 0, 1) := by decide +kernel
theorem dX3_repeatsAt_6 : decode cX3_repeatsAt 6 = .ok (.getfield 21, 3) := by decide +kernel
theorem dX3_repeatsAt_9 : decode cX3_repeatsAt 9 = .ok (.if_icmp .ge 24, 3) := by decide +kernel
theorem dX3_repeatsAt_12 : decode cX3_repeatsAt 12 = .ok (.aload_n 0, 1) := by decide +kernel
theorem dX3_repeatsAt_13 : decode cX3_repeatsAt 13 = .ok (.getfield 9, 3) := by decide +kernel
theorem dX3_repeatsAt_16 : decode cX3_repeatsAt 16 = .ok (.iload_n 1, 1) := by decide +kernel
theorem dX3_repeatsAt_17 : decode cX3_repeatsAt 17 = .ok (.iconst 1, 1) := by decide +kernel
theorem dX3_repeatsAt_18 : decode cX3_repeatsAt 18 = .ok (.isub, 1) := by decide +kernel
theorem dX3_repeatsAt_19 : decode cX3_repeatsAt 19 = .ok (.caload, 1) := by decide +kernel
theorem dX3_repeatsAt_20 : decode cX3_repeatsAt 20 = .ok (.aload_n 0, 1) := by decide +kernel
theorem dX3_repeatsAt_21 : decode cX3_repeatsAt 21 = .ok (.getfield 9, 3) := by decide +kernel
theorem dX3_repeatsAt_24 : decode cX3_repeatsAt 24 = .ok (.iload_n 1, 1) := by decide +kernel
theorem dX3_repeatsAt_25 : decode cX3_repeatsAt 25 = .ok (.caload, 1) := by decide +kernel
theorem dX3_repeatsAt_26 : decode cX3_repeatsAt 26 = .ok (.if_icmp .ne 7, 3) := by decide +kernel
theorem dX3_repeatsAt_29 : decode cX3_repeatsAt 29 = .ok (.iconst 1, 1) := by decide +kernel
theorem dX3_repeatsAt_30 : decode cX3_repeatsAt 30 = .ok (.goto 4, 3) := by decide +kernel
theorem dX3_repeatsAt_33 : decode cX3_repeatsAt 33 = .ok (.iconst 0, 1) := by decide +kernel
theorem dX3_repeatsAt_34 : decode cX3_repeatsAt 34 = .ok (.ireturn, 1) := by decide +kernel
theorem dX3_isWindow_0 : decode cX3_isWindow 0 = .ok (.iload_n 0, 1) := by decide +kernel
theorem dX3_isWindow_1 : decode cX3_isWindow 1 = .ok (.bipush 48, 2) := by decide +kernel
theorem dX3_isWindow_3 : decode cX3_isWindow 3 = .ok (.if_icmp .lt 13, 3) := by decide +kernel
theorem dX3_isWindow_6 : decode cX3_isWindow 6 = .ok (.iload_n 0, 1) := by decide +kernel
theorem dX3_isWindow_7 : decode cX3_isWindow 7 = .ok (.bipush 54, 2) := by decide +kernel
theorem dX3_isWindow_9 : decode cX3_isWindow 9 = .ok (.if_icmp .ge 7, 3) := by decide +kernel
theorem dX3_isWindow_12 : decode cX3_isWindow 12 = .ok (.iconst 1, 1) := by decide +kernel
theorem dX3_isWindow_13 : decode cX3_isWindow 13 = .ok (.goto 4, 3) := by decide +kernel
theorem dX3_isWindow_16 : decode cX3_isWindow 16 = .ok (.iconst 0, 1) := by decide +kernel
theorem dX3_isWindow_17 : decode cX3_isWindow 17 = .ok (.ireturn, 1) := by decide +kernel
theorem dX3_errands_0 : decode cX3_errands 0 = .ok (.iconst 1, 1) := by decide +kernel
theorem dX3_errands_1 : decode cX3_errands 1 = .ok (.istore_n 1, 1) := by decide +kernel
theorem dX3_errands_2 : decode cX3_errands 2 = .ok (.iconst 0, 1) := by decide +kernel
theorem dX3_errands_3 : decode cX3_errands 3 = .ok (.istore_n 2, 1) := by decide +kernel
theorem dX3_errands_4 : decode cX3_errands 4 = .ok (.iload_n 2, 1) := by decide +kernel
theorem dX3_errands_5 : decode cX3_errands 5 = .ok (.aload_n 0, 1) := by decide +kernel
theorem dX3_errands_6 : decode cX3_errands 6 = .ok (.getfield 21, 3) := by decide +kernel
theorem dX3_errands_9 : decode cX3_errands 9 = .ok (.if_icmp .ge 28, 3) := by decide +kernel
theorem dX3_errands_12 : decode cX3_errands 12 = .ok (.iload_n 1, 1) := by decide +kernel
theorem dX3_errands_13 : decode cX3_errands 13 = .ok (.aload_n 0, 1) := by decide +kernel
theorem dX3_errands_14 : decode cX3_errands 14 = .ok (.getfield 9, 3) := by decide +kernel
theorem dX3_errands_17 : decode cX3_errands 17 = .ok (.iload_n 2, 1) := by decide +kernel
theorem dX3_errands_18 : decode cX3_errands 18 = .ok (.caload, 1) := by decide +kernel
theorem dX3_errands_19 : decode cX3_errands 19 = .ok (.bipush 44, 2) := by decide +kernel
theorem dX3_errands_21 : decode cX3_errands 21 = .ok (.if_icmp .ne 7, 3) := by decide +kernel
theorem dX3_errands_24 : decode cX3_errands 24 = .ok (.iconst 1, 1) := by decide +kernel
theorem dX3_errands_25 : decode cX3_errands 25 = .ok (.goto 4, 3) := by decide +kernel
theorem dX3_errands_28 : decode cX3_errands 28 = .ok (.iconst 0, 1) := by decide +kernel
theorem dX3_errands_29 : decode cX3_errands 29 = .ok (.iadd, 1) := by decide +kernel
theorem dX3_errands_30 : decode cX3_errands 30 = .ok (.istore_n 1, 1) := by decide +kernel
theorem dX3_errands_31 : decode cX3_errands 31 = .ok (.iinc 2 1, 3) := by decide +kernel
theorem dX3_errands_34 : decode cX3_errands 34 = .ok (.goto (-30), 3) := by decide +kernel
theorem dX3_errands_37 : decode cX3_errands 37 = .ok (.iload_n 1, 1) := by decide +kernel
theorem dX3_errands_38 : decode cX3_errands 38 = .ok (.ireturn, 1) := by decide +kernel
theorem dX3_endOfErrand_0 : decode cX3_endOfErrand 0 = .ok (.iconst 0, 1) := by decide +kernel
theorem dX3_endOfErrand_1 : decode cX3_endOfErrand 1 = .ok (.iload_n 1, 1) := by decide +kernel
theorem dX3_endOfErrand_2 : decode cX3_endOfErrand 2 = .ok (.invokestatic 33, 3) := by decide +kernel
theorem dX3_endOfErrand_5 : decode cX3_endOfErrand 5 = .ok (.istore_n 2, 1) := by decide +kernel
theorem dX3_endOfErrand_6 : decode cX3_endOfErrand 6 = .ok (.iload_n 2, 1) := by decide +kernel
theorem dX3_endOfErrand_7 : decode cX3_endOfErrand 7 = .ok (.aload_n 0, 1) := by decide +kernel
theorem dX3_endOfErrand_8 : decode cX3_endOfErrand 8 = .ok (.getfield 21, 3) := by decide +kernel
theorem dX3_endOfErrand_11 : decode cX3_endOfErrand 11 = .ok (.if_icmp .ge 22, 3) := by decide +kernel
theorem dX3_endOfErrand_14 : decode cX3_endOfErrand 14 = .ok (.aload_n 0, 1) := by decide +kernel
theorem dX3_endOfErrand_15 : decode cX3_endOfErrand 15 = .ok (.getfield 9, 3) := by decide +kernel
theorem dX3_endOfErrand_18 : decode cX3_endOfErrand 18 = .ok (.iload_n 2, 1) := by decide +kernel
theorem dX3_endOfErrand_19 : decode cX3_endOfErrand 19 = .ok (.caload, 1) := by decide +kernel
theorem dX3_endOfErrand_20 : decode cX3_endOfErrand 20 = .ok (.bipush 44, 2) := by decide +kernel
theorem dX3_endOfErrand_22 : decode cX3_endOfErrand 22 = .ok (.if_icmp .ne 5, 3) := by decide +kernel
theorem dX3_endOfErrand_25 : decode cX3_endOfErrand 25 = .ok (.iload_n 2, 1) := by decide +kernel
theorem dX3_endOfErrand_26 : decode cX3_endOfErrand 26 = .ok (.ireturn, 1) := by decide +kernel
theorem dX3_endOfErrand_27 : decode cX3_endOfErrand 27 = .ok (.iinc 2 1, 3) := by decide +kernel
theorem dX3_endOfErrand_30 : decode cX3_endOfErrand 30 = .ok (.goto (-24), 3) := by decide +kernel
theorem dX3_endOfErrand_33 : decode cX3_endOfErrand 33 = .ok (.aload_n 0, 1) := by decide +kernel
theorem dX3_endOfErrand_34 : decode cX3_endOfErrand 34 = .ok (.getfield 21, 3) := by decide +kernel
theorem dX3_endOfErrand_37 : decode cX3_endOfErrand 37 = .ok (.ireturn, 1) := by decide +kernel
theorem dX3_windowAt_0 : decode cX3_windowAt 0 = .ok (.iload_n 1, 1) := by decide +kernel
theorem dX3_windowAt_1 : decode cX3_windowAt 1 = .ok (.ifCond .lt 35, 3) := by decide +kernel
theorem dX3_windowAt_4 : decode cX3_windowAt 4 = .ok (.iload_n 1, 1) := by decide +kernel
theorem dX3_windowAt_5 : decode cX3_windowAt 5 = .ok (.aload_n 0, 1) := by decide +kernel
theorem dX3_windowAt_6 : decode cX3_windowAt 6 = .ok (.getfield 21, 3) := by decide +kernel
theorem dX3_windowAt_9 : decode cX3_windowAt 9 = .ok (.if_icmp .ge 27, 3) := by decide +kernel
theorem dX3_windowAt_12 : decode cX3_windowAt 12 = .ok (.aload_n 0, 1) := by decide +kernel
theorem dX3_windowAt_13 : decode cX3_windowAt 13 = .ok (.getfield 9, 3) := by decide +kernel
theorem dX3_windowAt_16 : decode cX3_windowAt 16 = .ok (.iload_n 1, 1) := by decide +kernel
theorem dX3_windowAt_17 : decode cX3_windowAt 17 = .ok (.caload, 1) := by decide +kernel
theorem dX3_windowAt_18 : decode cX3_windowAt 18 = .ok (.invokestatic 25, 3) := by decide +kernel
theorem dX3_windowAt_21 : decode cX3_windowAt 21 = .ok (.ifCond .eq 15, 3) := by decide +kernel
theorem dX3_windowAt_24 : decode cX3_windowAt 24 = .ok (.aload_n 0, 1) := by decide +kernel
theorem dX3_windowAt_25 : decode cX3_windowAt 25 = .ok (.getfield 9, 3) := by decide +kernel
theorem dX3_windowAt_28 : decode cX3_windowAt 28 = .ok (.iload_n 1, 1) := by decide +kernel
theorem dX3_windowAt_29 : decode cX3_windowAt 29 = .ok (.caload, 1) := by decide +kernel
theorem dX3_windowAt_30 : decode cX3_windowAt 30 = .ok (.bipush 48, 2) := by decide +kernel
theorem dX3_windowAt_32 : decode cX3_windowAt 32 = .ok (.isub, 1) := by decide +kernel
theorem dX3_windowAt_33 : decode cX3_windowAt 33 = .ok (.goto 5, 3) := by decide +kernel
theorem dX3_windowAt_36 : decode cX3_windowAt 36 = .ok (.bipush (-6), 2) := by decide +kernel
theorem dX3_windowAt_38 : decode cX3_windowAt 38 = .ok (.ireturn, 1) := by decide +kernel
theorem dX4_init_0 : decode cX4_init 0 = .ok (.aload_n 0, 1) := by decide +kernel
theorem dX4_init_1 : decode cX4_init 1 = .ok (.invokespecial 3, 3) := by decide +kernel
theorem dX4_init_4 : decode cX4_init 4 = .ok (.aload_n 0, 1) := by decide +kernel
theorem dX4_init_5 : decode cX4_init 5 = .ok (.bipush 8, 2) := by decide +kernel
theorem dX4_init_7 : decode cX4_init 7 = .ok (.newarray .int, 2) := by decide +kernel
theorem dX4_init_9 : decode cX4_init 9 = .ok (.putfield 9, 3) := by decide +kernel
theorem dX4_init_12 : decode cX4_init 12 = .ok (.aload_n 0, 1) := by decide +kernel
theorem dX4_init_13 : decode cX4_init 13 = .ok (.iconst 4, 1) := by decide +kernel
theorem dX4_init_14 : decode cX4_init 14 = .ok (.putfield 15, 3) := by decide +kernel
theorem dX4_init_17 : decode cX4_init 17 = .ok (.aload_n 0, 1) := by decide +kernel
theorem dX4_init_18 : decode cX4_init 18 = .ok (.bipush (-6), 2) := by decide +kernel
theorem dX4_init_20 : decode cX4_init 20 = .ok (.putfield 19, 3) := by decide +kernel
theorem dX4_init_23 : decode cX4_init 23 = .ok (.aload_n 0, 1) := by decide +kernel
theorem dX4_init_24 : decode cX4_init 24 = .ok (.iload_n 1, 1) := by decide +kernel
theorem dX4_init_25 : decode cX4_init 25 = .ok (.putfield 22, 3) := by decide +kernel
theorem dX4_init_28 : decode cX4_init 28 = .ok (.return_, 1) := by decide +kernel
theorem dX4_become_0 : decode cX4_become 0 = .ok (.aload_n 1, 1) := by decide +kernel
theorem dX4_become_1 : decode cX4_become 1 = .ok (.getfield 9, 3) := by decide +kernel
theorem dX4_become_4 : decode cX4_become 4 = .ok (.iconst 0, 1) := by decide +kernel
theorem dX4_become_5 : decode cX4_become 5 = .ok (.aload_n 0, 1) := by decide +kernel
theorem dX4_become_6 : decode cX4_become 6 = .ok (.getfield 9, 3) := by decide +kernel
theorem dX4_become_9 : decode cX4_become 9 = .ok (.iconst 0, 1) := by decide +kernel
theorem dX4_become_10 : decode cX4_become 10 = .ok (.bipush 8, 2) := by decide +kernel
theorem dX4_become_12 : decode cX4_become 12 = .ok (.invokestatic 25, 3) := by decide +kernel
theorem dX4_become_15 : decode cX4_become 15 = .ok (.aload_n 0, 1) := by decide +kernel
theorem dX4_become_16 : decode cX4_become 16 = .ok (.aload_n 1, 1) := by decide +kernel
theorem dX4_become_17 : decode cX4_become 17 = .ok (.getfield 31, 3) := by decide +kernel
theorem dX4_become_20 : decode cX4_become 20 = .ok (.putfield 31, 3) := by decide +kernel
theorem dX4_become_23 : decode cX4_become 23 = .ok (.aload_n 0, 1) := by decide +kernel
theorem dX4_become_24 : decode cX4_become 24 = .ok (.aload_n 1, 1) := by decide +kernel
theorem dX4_become_25 : decode cX4_become 25 = .ok (.getfield 15, 3) := by decide +kernel
theorem dX4_become_28 : decode cX4_become 28 = .ok (.putfield 15, 3) := by decide +kernel
theorem dX4_become_31 : decode cX4_become 31 = .ok (.aload_n 0, 1) := by decide +kernel
theorem dX4_become_32 : decode cX4_become 32 = .ok (.aload_n 1, 1) := by decide +kernel
theorem dX4_become_33 : decode cX4_become 33 = .ok (.getfield 34, 3) := by decide +kernel
theorem dX4_become_36 : decode cX4_become 36 = .ok (.putfield 34, 3) := by decide +kernel
theorem dX4_become_39 : decode cX4_become 39 = .ok (.aload_n 0, 1) := by decide +kernel
theorem dX4_become_40 : decode cX4_become 40 = .ok (.aload_n 1, 1) := by decide +kernel
theorem dX4_become_41 : decode cX4_become 41 = .ok (.getfield 37, 3) := by decide +kernel
theorem dX4_become_44 : decode cX4_become 44 = .ok (.putfield 37, 3) := by decide +kernel
theorem dX4_become_47 : decode cX4_become 47 = .ok (.aload_n 0, 1) := by decide +kernel
theorem dX4_become_48 : decode cX4_become 48 = .ok (.aload_n 1, 1) := by decide +kernel
theorem dX4_become_49 : decode cX4_become 49 = .ok (.getfield 41, 3) := by decide +kernel
theorem dX4_become_52 : decode cX4_become 52 = .ok (.putfield 41, 3) := by decide +kernel
theorem dX4_become_55 : decode cX4_become 55 = .ok (.aload_n 0, 1) := by decide +kernel
theorem dX4_become_56 : decode cX4_become 56 = .ok (.aload_n 1, 1) := by decide +kernel
theorem dX4_become_57 : decode cX4_become 57 = .ok (.getfield 44, 3) := by decide +kernel
theorem dX4_become_60 : decode cX4_become 60 = .ok (.putfield 44, 3) := by decide +kernel
theorem dX4_become_63 : decode cX4_become 63 = .ok (.aload_n 0, 1) := by decide +kernel
theorem dX4_become_64 : decode cX4_become 64 = .ok (.aload_n 1, 1) := by decide +kernel
theorem dX4_become_65 : decode cX4_become 65 = .ok (.getfield 47, 3) := by decide +kernel
theorem dX4_become_68 : decode cX4_become 68 = .ok (.putfield 47, 3) := by decide +kernel
theorem dX4_become_71 : decode cX4_become 71 = .ok (.aload_n 0, 1) := by decide +kernel
theorem dX4_become_72 : decode cX4_become 72 = .ok (.aload_n 1, 1) := by decide +kernel
theorem dX4_become_73 : decode cX4_become 73 = .ok (.getfield 50, 3) := by decide +kernel
theorem dX4_become_76 : decode cX4_become 76 = .ok (.putfield 50, 3) := by decide +kernel
theorem dX4_become_79 : decode cX4_become 79 = .ok (.aload_n 0, 1) := by decide +kernel
theorem dX4_become_80 : decode cX4_become 80 = .ok (.aload_n 1, 1) := by decide +kernel
theorem dX4_become_81 : decode cX4_become 81 = .ok (.getfield 19, 3) := by decide +kernel
theorem dX4_become_84 : decode cX4_become 84 = .ok (.putfield 19, 3) := by decide +kernel
theorem dX4_become_87 : decode cX4_become 87 = .ok (.aload_n 0, 1) := by decide +kernel
theorem dX4_become_88 : decode cX4_become 88 = .ok (.aload_n 1, 1) := by decide +kernel
theorem dX4_become_89 : decode cX4_become 89 = .ok (.getfield 53, 3) := by decide +kernel
theorem dX4_become_92 : decode cX4_become 92 = .ok (.putfield 53, 3) := by decide +kernel
theorem dX4_become_95 : decode cX4_become 95 = .ok (.return_, 1) := by decide +kernel
theorem dX4_addToErrand_0 : decode cX4_addToErrand 0 = .ok (.aload_n 0, 1) := by decide +kernel
theorem dX4_addToErrand_1 : decode cX4_addToErrand 1 = .ok (.getfield 31, 3) := by decide +kernel
theorem dX4_addToErrand_4 : decode cX4_addToErrand 4 = .ok (.aload_n 0, 1) := by decide +kernel
theorem dX4_addToErrand_5 : decode cX4_addToErrand 5 = .ok (.getfield 9, 3) := by decide +kernel
theorem dX4_addToErrand_8 : decode cX4_addToErrand 8 = .ok (.arraylength, 1) := by decide +kernel
theorem dX4_addToErrand_9 : decode cX4_addToErrand 9 = .ok (.if_icmp .ge 23, 3) := by decide +kernel
theorem dX4_addToErrand_12 : decode cX4_addToErrand 12 = .ok (.aload_n 0, 1) := by decide +kernel
theorem dX4_addToErrand_13 : decode cX4_addToErrand 13 = .ok (.getfield 9, 3) := by decide +kernel
theorem dX4_addToErrand_16 : decode cX4_addToErrand 16 = .ok (.aload_n 0, 1) := by decide +kernel
theorem dX4_addToErrand_17 : decode cX4_addToErrand 17 = .ok (.getfield 31, 3) := by decide +kernel
theorem dX4_addToErrand_20 : decode cX4_addToErrand 20 = .ok (.iload_n 1, 1) := by decide +kernel
theorem dX4_addToErrand_21 : decode cX4_addToErrand 21 = .ok (.iastore, 1) := by decide +kernel
theorem dX4_addToErrand_22 : decode cX4_addToErrand 22 = .ok (.aload_n 0, 1) := by decide +kernel
theorem dX4_addToErrand_23 : decode cX4_addToErrand 23 = .ok (.dup, 1) := by decide +kernel
theorem dX4_addToErrand_24 : decode cX4_addToErrand 24 = .ok (.getfield 31, 3) := by decide +kernel
theorem dX4_addToErrand_27 : decode cX4_addToErrand 27 = .ok (.iconst 1, 1) := by decide +kernel
theorem dX4_addToErrand_28 : decode cX4_addToErrand 28 = .ok (.iadd, 1) := by decide +kernel
theorem dX4_addToErrand_29 : decode cX4_addToErrand 29 = .ok (.putfield 31, 3) := by decide +kernel
theorem dX4_addToErrand_32 : decode cX4_addToErrand 32 = .ok (.return_, 1) := by decide +kernel
theorem dX4_standsAt_0 : decode cX4_standsAt 0 = .ok (.aload_n 0, 1) := by decide +kernel
theorem dX4_standsAt_1 : decode cX4_standsAt 1 = .ok (.getfield 15, 3) := by decide +kernel
theorem dX4_standsAt_4 : decode cX4_standsAt 4 = .ok (.ifCond .eq 11, 3) := by decide +kernel
theorem dX4_standsAt_7 : decode cX4_standsAt 7 = .ok (.aload_n 0, 1) := by decide +kernel
theorem dX4_standsAt_8 : decode cX4_standsAt 8 = .ok (.getfield 15, 3) := by decide +kernel
theorem dX4_standsAt_11 : decode cX4_standsAt 11 = .ok (.iconst 1, 1) := by decide +kernel
theorem dX4_standsAt_12 : decode cX4_standsAt 12 = .ok (.if_icmp .ne 7, 3) := by decide +kernel
theorem dX4_standsAt_15 : decode cX4_standsAt 15 = .ok (.iconst 1, 1) := by decide +kernel
theorem dX4_standsAt_16 : decode cX4_standsAt 16 = .ok (.goto 4, 3) := by decide +kernel
theorem dX4_standsAt_19 : decode cX4_standsAt 19 = .ok (.iconst 0, 1) := by decide +kernel
theorem dX4_standsAt_20 : decode cX4_standsAt 20 = .ok (.istore_n 1, 1) := by decide +kernel
theorem dX4_standsAt_21 : decode cX4_standsAt 21 = .ok (.iload_n 1, 1) := by decide +kernel
theorem dX4_standsAt_22 : decode cX4_standsAt 22 = .ok (.ifCond .eq 26, 3) := by decide +kernel
theorem dX4_standsAt_25 : decode cX4_standsAt 25 = .ok (.aload_n 0, 1) := by decide +kernel
theorem dX4_standsAt_26 : decode cX4_standsAt 26 = .ok (.getfield 34, 3) := by decide +kernel
theorem dX4_standsAt_29 : decode cX4_standsAt 29 = .ok (.aload_n 0, 1) := by decide +kernel
theorem dX4_standsAt_30 : decode cX4_standsAt 30 = .ok (.getfield 31, 3) := by decide +kernel
theorem dX4_standsAt_33 : decode cX4_standsAt 33 = .ok (.if_icmp .ge 15, 3) := by decide +kernel
theorem dX4_standsAt_36 : decode cX4_standsAt 36 = .ok (.aload_n 0, 1) := by decide +kernel
theorem dX4_standsAt_37 : decode cX4_standsAt 37 = .ok (.getfield 9, 3) := by decide +kernel
theorem dX4_standsAt_40 : decode cX4_standsAt 40 = .ok (.aload_n 0, 1) := by decide +kernel
theorem dX4_standsAt_41 : decode cX4_standsAt 41 = .ok (.getfield 34, 3) := by decide +kernel
theorem dX4_standsAt_44 : decode cX4_standsAt 44 = .ok (.iaload, 1) := by decide +kernel
theorem dX4_standsAt_45 : decode cX4_standsAt 45 = .ok (.goto 5, 3) := by decide +kernel
theorem dX4_standsAt_48 : decode cX4_standsAt 48 = .ok (.bipush (-6), 2) := by decide +kernel
theorem dX4_standsAt_50 : decode cX4_standsAt 50 = .ok (.ireturn, 1) := by decide +kernel
theorem dX4_goAs_0 : decode cX4_goAs 0 = .ok (.aload_n 0, 1) := by decide +kernel
theorem dX4_goAs_1 : decode cX4_goAs 1 = .ok (.iload_n 1, 1) := by decide +kernel
theorem dX4_goAs_2 : decode cX4_goAs 2 = .ok (.putfield 15, 3) := by decide +kernel
theorem dX4_goAs_5 : decode cX4_goAs 5 = .ok (.aload_n 0, 1) := by decide +kernel
theorem dX4_goAs_6 : decode cX4_goAs 6 = .ok (.iconst 0, 1) := by decide +kernel
theorem dX4_goAs_7 : decode cX4_goAs 7 = .ok (.putfield 37, 3) := by decide +kernel
theorem dX4_goAs_10 : decode cX4_goAs 10 = .ok (.aload_n 0, 1) := by decide +kernel
theorem dX4_goAs_11 : decode cX4_goAs 11 = .ok (.iload_n 2, 1) := by decide +kernel
theorem dX4_goAs_12 : decode cX4_goAs 12 = .ok (.putfield 19, 3) := by decide +kernel
theorem dX4_goAs_15 : decode cX4_goAs 15 = .ok (.return_, 1) := by decide +kernel
theorem dX5_init_0 : decode cX5_init 0 = .ok (.aload_n 0, 1) := by decide +kernel
theorem dX5_init_1 : decode cX5_init 1 = .ok (.invokespecial 1, 3) := by decide +kernel
theorem dX5_init_4 : decode cX5_init 4 = .ok (.aload_n 0, 1) := by decide +kernel
theorem dX5_init_5 : decode cX5_init 5 = .ok (.iconst 1, 1) := by decide +kernel
theorem dX5_init_6 : decode cX5_init 6 = .ok (.putfield 7, 3) := by decide +kernel
theorem dX5_init_9 : decode cX5_init 9 = .ok (.aload_n 0, 1) := by decide +kernel
theorem dX5_init_10 : decode cX5_init 10 = .ok (.iconst 1, 1) := by decide +kernel
theorem dX5_init_11 : decode cX5_init 11 = .ok (.putfield 13, 3) := by decide +kernel
theorem dX5_init_14 : decode cX5_init 14 = .ok (.aload_n 0, 1) := by decide +kernel
theorem dX5_init_15 : decode cX5_init 15 = .ok (.new 17, 3) := by decide +kernel
theorem dX5_init_18 : decode cX5_init 18 = .ok (.dup, 1) := by decide +kernel
theorem dX5_init_19 : decode cX5_init 19 = .ok (.invokespecial 19, 3) := by decide +kernel
theorem dX5_init_22 : decode cX5_init 22 = .ok (.putfield 20, 3) := by decide +kernel
theorem dX5_init_25 : decode cX5_init 25 = .ok (.aload_n 0, 1) := by decide +kernel
theorem dX5_init_26 : decode cX5_init 26 = .ok (.new 17, 3) := by decide +kernel
theorem dX5_init_29 : decode cX5_init 29 = .ok (.dup, 1) := by decide +kernel
theorem dX5_init_30 : decode cX5_init 30 = .ok (.invokespecial 19, 3) := by decide +kernel
theorem dX5_init_33 : decode cX5_init 33 = .ok (.putfield 24, 3) := by decide +kernel
theorem dX5_init_36 : decode cX5_init 36 = .ok (.aload_n 0, 1) := by decide +kernel
theorem dX5_init_37 : decode cX5_init 37 = .ok (.iload_n 1, 1) := by decide +kernel
theorem dX5_init_38 : decode cX5_init 38 = .ok (.putfield 27, 3) := by decide +kernel
theorem dX5_init_41 : decode cX5_init 41 = .ok (.return_, 1) := by decide +kernel
theorem dX5_become_0 : decode cX5_become 0 = .ok (.aload_n 0, 1) := by decide +kernel
theorem dX5_become_1 : decode cX5_become 1 = .ok (.aload_n 1, 1) := by decide +kernel
theorem dX5_become_2 : decode cX5_become 2 = .ok (.getfield 7, 3) := by decide +kernel
theorem dX5_become_5 : decode cX5_become 5 = .ok (.putfield 7, 3) := by decide +kernel
theorem dX5_become_8 : decode cX5_become 8 = .ok (.aload_n 0, 1) := by decide +kernel
theorem dX5_become_9 : decode cX5_become 9 = .ok (.aload_n 1, 1) := by decide +kernel
theorem dX5_become_10 : decode cX5_become 10 = .ok (.getfield 13, 3) := by decide +kernel
theorem dX5_become_13 : decode cX5_become 13 = .ok (.putfield 13, 3) := by decide +kernel
theorem dX5_become_16 : decode cX5_become 16 = .ok (.aload_n 0, 1) := by decide +kernel
theorem dX5_become_17 : decode cX5_become 17 = .ok (.aload_n 1, 1) := by decide +kernel
theorem dX5_become_18 : decode cX5_become 18 = .ok (.getfield 27, 3) := by decide +kernel
theorem dX5_become_21 : decode cX5_become 21 = .ok (.putfield 27, 3) := by decide +kernel
theorem dX5_become_24 : decode cX5_become 24 = .ok (.aload_n 0, 1) := by decide +kernel
theorem dX5_become_25 : decode cX5_become 25 = .ok (.aload_n 1, 1) := by decide +kernel
theorem dX5_become_26 : decode cX5_become 26 = .ok (.getfield 30, 3) := by decide +kernel
theorem dX5_become_29 : decode cX5_become 29 = .ok (.putfield 30, 3) := by decide +kernel
theorem dX5_become_32 : decode cX5_become 32 = .ok (.aload_n 0, 1) := by decide +kernel
theorem dX5_become_33 : decode cX5_become 33 = .ok (.aload_n 1, 1) := by decide +kernel
theorem dX5_become_34 : decode cX5_become 34 = .ok (.getfield 33, 3) := by decide +kernel
theorem dX5_become_37 : decode cX5_become 37 = .ok (.putfield 33, 3) := by decide +kernel
theorem dX5_become_40 : decode cX5_become 40 = .ok (.aload_n 0, 1) := by decide +kernel
theorem dX5_become_41 : decode cX5_become 41 = .ok (.getfield 20, 3) := by decide +kernel
theorem dX5_become_44 : decode cX5_become 44 = .ok (.aload_n 1, 1) := by decide +kernel
theorem dX5_become_45 : decode cX5_become 45 = .ok (.getfield 20, 3) := by decide +kernel
theorem dX5_become_48 : decode cX5_become 48 = .ok (.invokevirtual 36, 3) := by decide +kernel
theorem dX5_become_51 : decode cX5_become 51 = .ok (.aload_n 0, 1) := by decide +kernel
theorem dX5_become_52 : decode cX5_become 52 = .ok (.getfield 24, 3) := by decide +kernel
theorem dX5_become_55 : decode cX5_become 55 = .ok (.aload_n 1, 1) := by decide +kernel
theorem dX5_become_56 : decode cX5_become 56 = .ok (.getfield 24, 3) := by decide +kernel
theorem dX5_become_59 : decode cX5_become 59 = .ok (.invokevirtual 36, 3) := by decide +kernel
theorem dX5_become_62 : decode cX5_become 62 = .ok (.return_, 1) := by decide +kernel
theorem dX6_init_0 : decode cX6_init 0 = .ok (.aload_n 0, 1) := by decide +kernel
theorem dX6_init_1 : decode cX6_init 1 = .ok (.invokespecial 1, 3) := by decide +kernel
theorem dX6_init_4 : decode cX6_init 4 = .ok (.aload_n 0, 1) := by decide +kernel
theorem dX6_init_5 : decode cX6_init 5 = .ok (.new 7, 3) := by decide +kernel
theorem dX6_init_8 : decode cX6_init 8 = .ok (.dup, 1) := by decide +kernel
theorem dX6_init_9 : decode cX6_init 9 = .ok (.invokespecial 9, 3) := by decide +kernel
theorem dX6_init_12 : decode cX6_init 12 = .ok (.putfield 10, 3) := by decide +kernel
theorem dX6_init_15 : decode cX6_init 15 = .ok (.aload_n 0, 1) := by decide +kernel
theorem dX6_init_16 : decode cX6_init 16 = .ok (.new 7, 3) := by decide +kernel
theorem dX6_init_19 : decode cX6_init 19 = .ok (.dup, 1) := by decide +kernel
theorem dX6_init_20 : decode cX6_init 20 = .ok (.invokespecial 9, 3) := by decide +kernel
theorem dX6_init_23 : decode cX6_init 23 = .ok (.putfield 16, 3) := by decide +kernel
theorem dX6_init_26 : decode cX6_init 26 = .ok (.aload_n 0, 1) := by decide +kernel
theorem dX6_init_27 : decode cX6_init 27 = .ok (.new 19, 3) := by decide +kernel
theorem dX6_init_30 : decode cX6_init 30 = .ok (.dup, 1) := by decide +kernel
theorem dX6_init_31 : decode cX6_init 31 = .ok (.invokespecial 21, 3) := by decide +kernel
theorem dX6_init_34 : decode cX6_init 34 = .ok (.putfield 22, 3) := by decide +kernel
theorem dX6_init_37 : decode cX6_init 37 = .ok (.aload_n 0, 1) := by decide +kernel
theorem dX6_init_38 : decode cX6_init 38 = .ok (.iconst 2, 1) := by decide +kernel
theorem dX6_init_39 : decode cX6_init 39 = .ok (.anewarray 7, 3) := by decide +kernel
theorem dX6_init_42 : decode cX6_init 42 = .ok (.putfield 26, 3) := by decide +kernel
theorem dX6_init_45 : decode cX6_init 45 = .ok (.iconst 0, 1) := by decide +kernel
theorem dX6_init_46 : decode cX6_init 46 = .ok (.istore_n 1, 1) := by decide +kernel
theorem dX6_init_47 : decode cX6_init 47 = .ok (.iload_n 1, 1) := by decide +kernel
theorem dX6_init_48 : decode cX6_init 48 = .ok (.aload_n 0, 1) := by decide +kernel
theorem dX6_init_49 : decode cX6_init 49 = .ok (.getfield 26, 3) := by decide +kernel
theorem dX6_init_52 : decode cX6_init 52 = .ok (.arraylength, 1) := by decide +kernel
theorem dX6_init_53 : decode cX6_init 53 = .ok (.if_icmp .ge 22, 3) := by decide +kernel
theorem dX6_init_56 : decode cX6_init 56 = .ok (.aload_n 0, 1) := by decide +kernel
theorem dX6_init_57 : decode cX6_init 57 = .ok (.getfield 26, 3) := by decide +kernel
theorem dX6_init_60 : decode cX6_init 60 = .ok (.iload_n 1, 1) := by decide +kernel
theorem dX6_init_61 : decode cX6_init 61 = .ok (.new 7, 3) := by decide +kernel
theorem dX6_init_64 : decode cX6_init 64 = .ok (.dup, 1) := by decide +kernel
theorem dX6_init_65 : decode cX6_init 65 = .ok (.invokespecial 9, 3) := by decide +kernel
theorem dX6_init_68 : decode cX6_init 68 = .ok (.aastore, 1) := by decide +kernel
theorem dX6_init_69 : decode cX6_init 69 = .ok (.iinc 1 1, 3) := by decide +kernel
theorem dX6_init_72 : decode cX6_init 72 = .ok (.goto (-25), 3) := by decide +kernel
theorem dX6_init_75 : decode cX6_init 75 = .ok (.aload_n 0, 1) := by decide +kernel
theorem dX6_init_76 : decode cX6_init 76 = .ok (.iconst 2, 1) := by decide +kernel
theorem dX6_init_77 : decode cX6_init 77 = .ok (.newarray .boolean, 2) := by decide +kernel
theorem dX6_init_79 : decode cX6_init 79 = .ok (.putfield 30, 3) := by decide +kernel
theorem dX6_init_82 : decode cX6_init 82 = .ok (.aload_n 0, 1) := by decide +kernel
theorem dX6_init_83 : decode cX6_init 83 = .ok (.new 34, 3) := by decide +kernel
theorem dX6_init_86 : decode cX6_init 86 = .ok (.dup, 1) := by decide +kernel
theorem dX6_init_87 : decode cX6_init 87 = .ok (.invokespecial 36, 3) := by decide +kernel
theorem dX6_init_90 : decode cX6_init 90 = .ok (.putfield 37, 3) := by decide +kernel
theorem dX6_init_93 : decode cX6_init 93 = .ok (.return_, 1) := by decide +kernel
theorem dX6_set_0 : decode cX6_set 0 = .ok (.iload_n 1, 1) := by decide +kernel
theorem dX6_set_1 : decode cX6_set 1 = .ok (.ifCond .lt 11, 3) := by decide +kernel
theorem dX6_set_4 : decode cX6_set 4 = .ok (.iload_n 1, 1) := by decide +kernel
theorem dX6_set_5 : decode cX6_set 5 = .ok (.getstatic 41, 3) := by decide +kernel
theorem dX6_set_8 : decode cX6_set 8 = .ok (.arraylength, 1) := by decide +kernel
theorem dX6_set_9 : decode cX6_set 9 = .ok (.if_icmp .lt 6, 3) := by decide +kernel
theorem dX6_set_12 : decode cX6_set 12 = .ok (.bipush (-2), 2) := by decide +kernel
theorem dX6_set_14 : decode cX6_set 14 = .ok (.ireturn, 1) := by decide +kernel
theorem dX6_set_15 : decode cX6_set 15 = .ok (.iload_n 2, 1) := by decide +kernel
theorem dX6_set_16 : decode cX6_set 16 = .ok (.getstatic 45, 3) := by decide +kernel
theorem dX6_set_19 : decode cX6_set 19 = .ok (.iload_n 1, 1) := by decide +kernel
theorem dX6_set_20 : decode cX6_set 20 = .ok (.iaload, 1) := by decide +kernel
theorem dX6_set_21 : decode cX6_set 21 = .ok (.if_icmp .lt 12, 3) := by decide +kernel
theorem dX6_set_24 : decode cX6_set 24 = .ok (.iload_n 2, 1) := by decide +kernel
theorem dX6_set_25 : decode cX6_set 25 = .ok (.getstatic 48, 3) := by decide +kernel
theorem dX6_set_28 : decode cX6_set 28 = .ok (.iload_n 1, 1) := by decide +kernel
theorem dX6_set_29 : decode cX6_set 29 = .ok (.iaload, 1) := by decide +kernel
theorem dX6_set_30 : decode cX6_set 30 = .ok (.if_icmp .le 6, 3) := by decide +kernel
theorem dX6_set_33 : decode cX6_set 33 = .ok (.bipush (-2), 2) := by decide +kernel
theorem dX6_set_35 : decode cX6_set 35 = .ok (.ireturn, 1) := by decide +kernel
theorem dX6_set_36 : decode cX6_set 36 = .ok (.aload_n 0, 1) := by decide +kernel
theorem dX6_set_37 : decode cX6_set 37 = .ok (.getfield 22, 3) := by decide +kernel
theorem dX6_set_40 : decode cX6_set 40 = .ok (.aload_n 0, 1) := by decide +kernel
theorem dX6_set_41 : decode cX6_set 41 = .ok (.getfield 10, 3) := by decide +kernel
theorem dX6_set_44 : decode cX6_set 44 = .ok (.invokevirtual 51, 3) := by decide +kernel
theorem dX6_set_47 : decode cX6_set 47 = .ok (.aload_n 0, 1) := by decide +kernel
theorem dX6_set_48 : decode cX6_set 48 = .ok (.getfield 10, 3) := by decide +kernel
theorem dX6_set_51 : decode cX6_set 51 = .ok (.getfield 55, 3) := by decide +kernel
theorem dX6_set_54 : decode cX6_set 54 = .ok (.iload_n 1, 1) := by decide +kernel
theorem dX6_set_55 : decode cX6_set 55 = .ok (.iaload, 1) := by decide +kernel
theorem dX6_set_56 : decode cX6_set 56 = .ok (.istore_n 3, 1) := by decide +kernel
theorem dX6_set_57 : decode cX6_set 57 = .ok (.aload_n 0, 1) := by decide +kernel
theorem dX6_set_58 : decode cX6_set 58 = .ok (.getfield 10, 3) := by decide +kernel
theorem dX6_set_61 : decode cX6_set 61 = .ok (.getfield 55, 3) := by decide +kernel
theorem dX6_set_64 : decode cX6_set 64 = .ok (.iload_n 1, 1) := by decide +kernel
theorem dX6_set_65 : decode cX6_set 65 = .ok (.iload_n 2, 1) := by decide +kernel
theorem dX6_set_66 : decode cX6_set 66 = .ok (.iastore, 1) := by decide +kernel
theorem dX6_set_67 : decode cX6_set 67 = .ok (.iload_n 3, 1) := by decide +kernel
theorem dX6_set_68 : decode cX6_set 68 = .ok (.ireturn, 1) := by decide +kernel
theorem dX6_window_0 : decode cX6_window 0 = .ok (.aload_n 0, 1) := by decide +kernel
theorem dX6_window_1 : decode cX6_window 1 = .ok (.getfield 10, 3) := by decide +kernel
theorem dX6_window_4 : decode cX6_window 4 = .ok (.iload_n 1, 1) := by decide +kernel
theorem dX6_window_5 : decode cX6_window 5 = .ok (.invokevirtual 58, 3) := by decide +kernel
theorem dX6_window_8 : decode cX6_window 8 = .ok (.astore_n 3, 1) := by decide +kernel
theorem dX6_window_9 : decode cX6_window 9 = .ok (.aload_n 3, 1) := by decide +kernel
theorem dX6_window_10 : decode cX6_window 10 = .ok (.ifnonnull 5, 3) := by decide +kernel
theorem dX6_window_13 : decode cX6_window 13 = .ok (.iconst (-1), 1) := by decide +kernel
theorem dX6_window_14 : decode cX6_window 14 = .ok (.ireturn, 1) := by decide +kernel
theorem dX6_window_15 : decode cX6_window 15 = .ok (.aload_n 3, 1) := by decide +kernel
theorem dX6_window_16 : decode cX6_window 16 = .ok (.getfield 62, 3) := by decide +kernel
theorem dX6_window_19 : decode cX6_window 19 = .ok (.iload_n 2, 1) := by decide +kernel
theorem dX6_window_20 : decode cX6_window 20 = .ok (.if_icmp .ne 6, 3) := by decide +kernel
theorem dX6_window_23 : decode cX6_window 23 = .ok (.bipush (-5), 2) := by decide +kernel
theorem dX6_window_25 : decode cX6_window 25 = .ok (.ireturn, 1) := by decide +kernel
theorem dX6_window_26 : decode cX6_window 26 = .ok (.aload_n 0, 1) := by decide +kernel
theorem dX6_window_27 : decode cX6_window 27 = .ok (.getfield 22, 3) := by decide +kernel
theorem dX6_window_30 : decode cX6_window 30 = .ok (.aload_n 0, 1) := by decide +kernel
theorem dX6_window_31 : decode cX6_window 31 = .ok (.getfield 10, 3) := by decide +kernel
theorem dX6_window_34 : decode cX6_window 34 = .ok (.invokevirtual 51, 3) := by decide +kernel
theorem dX6_window_37 : decode cX6_window 37 = .ok (.aload_n 3, 1) := by decide +kernel
theorem dX6_window_38 : decode cX6_window 38 = .ok (.iload_n 2, 1) := by decide +kernel
theorem dX6_window_39 : decode cX6_window 39 = .ok (.putfield 62, 3) := by decide +kernel
theorem dX6_window_42 : decode cX6_window 42 = .ok (.aload_n 0, 1) := by decide +kernel
theorem dX6_window_43 : decode cX6_window 43 = .ok (.getfield 10, 3) := by decide +kernel
theorem dX6_window_46 : decode cX6_window 46 = .ok (.invokevirtual 68, 3) := by decide +kernel
theorem dX6_window_49 : decode cX6_window 49 = .ok (.ireturn, 1) := by decide +kernel
theorem dX6_clerks_0 : decode cX6_clerks 0 = .ok (.aload_n 0, 1) := by decide +kernel
theorem dX6_clerks_1 : decode cX6_clerks 1 = .ok (.getfield 10, 3) := by decide +kernel
theorem dX6_clerks_4 : decode cX6_clerks 4 = .ok (.iload_n 1, 1) := by decide +kernel
theorem dX6_clerks_5 : decode cX6_clerks 5 = .ok (.invokevirtual 58, 3) := by decide +kernel
theorem dX6_clerks_8 : decode cX6_clerks 8 = .ok (.astore_n 3, 1) := by decide +kernel
theorem dX6_clerks_9 : decode cX6_clerks 9 = .ok (.aload_n 3, 1) := by decide +kernel
theorem dX6_clerks_10 : decode cX6_clerks 10 = .ok (.ifnonnull 5, 3) := by decide +kernel
theorem dX6_clerks_13 : decode cX6_clerks 13 = .ok (.iconst (-1), 1) := by decide +kernel
theorem dX6_clerks_14 : decode cX6_clerks 14 = .ok (.ireturn, 1) := by decide +kernel
theorem dX6_clerks_15 : decode cX6_clerks 15 = .ok (.iload_n 2, 1) := by decide +kernel
theorem dX6_clerks_16 : decode cX6_clerks 16 = .ok (.ifCond .lt 8, 3) := by decide +kernel
theorem dX6_clerks_19 : decode cX6_clerks 19 = .ok (.iload_n 2, 1) := by decide +kernel
theorem dX6_clerks_20 : decode cX6_clerks 20 = .ok (.iconst 3, 1) := by decide +kernel
theorem dX6_clerks_21 : decode cX6_clerks 21 = .ok (.if_icmp .le 6, 3) := by decide +kernel
theorem dX6_clerks_24 : decode cX6_clerks 24 = .ok (.bipush (-2), 2) := by decide +kernel
theorem dX6_clerks_26 : decode cX6_clerks 26 = .ok (.ireturn, 1) := by decide +kernel
theorem dX6_clerks_27 : decode cX6_clerks 27 = .ok (.aload_n 0, 1) := by decide +kernel
theorem dX6_clerks_28 : decode cX6_clerks 28 = .ok (.getfield 22, 3) := by decide +kernel
theorem dX6_clerks_31 : decode cX6_clerks 31 = .ok (.aload_n 0, 1) := by decide +kernel
theorem dX6_clerks_32 : decode cX6_clerks 32 = .ok (.getfield 10, 3) := by decide +kernel
theorem dX6_clerks_35 : decode cX6_clerks 35 = .ok (.invokevirtual 51, 3) := by decide +kernel
theorem dX6_clerks_38 : decode cX6_clerks 38 = .ok (.aload_n 3, 1) := by decide +kernel
theorem dX6_clerks_39 : decode cX6_clerks 39 = .ok (.getfield 72, 3) := by decide +kernel
theorem dX6_clerks_42 : decode cX6_clerks 42 = .ok (.istore 4, 2) := by decide +kernel
theorem dX6_clerks_44 : decode cX6_clerks 44 = .ok (.aload_n 3, 1) := by decide +kernel
theorem dX6_clerks_45 : decode cX6_clerks 45 = .ok (.iload_n 2, 1) := by decide +kernel
theorem dX6_clerks_46 : decode cX6_clerks 46 = .ok (.putfield 72, 3) := by decide +kernel
theorem dX6_clerks_49 : decode cX6_clerks 49 = .ok (.iload 4, 2) := by decide +kernel
theorem dX6_clerks_51 : decode cX6_clerks 51 = .ok (.ireturn, 1) := by decide +kernel
theorem dX6_bring_0 : decode cX6_bring 0 = .ok (.aload_n 0, 1) := by decide +kernel
theorem dX6_bring_1 : decode cX6_bring 1 = .ok (.getfield 10, 3) := by decide +kernel
theorem dX6_bring_4 : decode cX6_bring 4 = .ok (.iload_n 1, 1) := by decide +kernel
theorem dX6_bring_5 : decode cX6_bring 5 = .ok (.invokevirtual 58, 3) := by decide +kernel
theorem dX6_bring_8 : decode cX6_bring 8 = .ok (.astore_n 2, 1) := by decide +kernel
theorem dX6_bring_9 : decode cX6_bring 9 = .ok (.aload_n 2, 1) := by decide +kernel
theorem dX6_bring_10 : decode cX6_bring 10 = .ok (.ifnonnull 5, 3) := by decide +kernel
theorem dX6_bring_13 : decode cX6_bring 13 = .ok (.iconst (-1), 1) := by decide +kernel
theorem dX6_bring_14 : decode cX6_bring 14 = .ok (.ireturn, 1) := by decide +kernel
theorem dX6_bring_15 : decode cX6_bring 15 = .ok (.aload_n 0, 1) := by decide +kernel
theorem dX6_bring_16 : decode cX6_bring 16 = .ok (.getfield 22, 3) := by decide +kernel
theorem dX6_bring_19 : decode cX6_bring 19 = .ok (.aload_n 0, 1) := by decide +kernel
theorem dX6_bring_20 : decode cX6_bring 20 = .ok (.getfield 10, 3) := by decide +kernel
theorem dX6_bring_23 : decode cX6_bring 23 = .ok (.invokevirtual 51, 3) := by decide +kernel
theorem dX6_bring_26 : decode cX6_bring 26 = .ok (.iconst 0, 1) := by decide +kernel
theorem dX6_bring_27 : decode cX6_bring 27 = .ok (.aload_n 0, 1) := by decide +kernel
theorem dX6_bring_28 : decode cX6_bring 28 = .ok (.getfield 10, 3) := by decide +kernel
theorem dX6_bring_31 : decode cX6_bring 31 = .ok (.getfield 55, 3) := by decide +kernel
theorem dX6_bring_34 : decode cX6_bring 34 = .ok (.iconst 1, 1) := by decide +kernel
theorem dX6_bring_35 : decode cX6_bring 35 = .ok (.iaload, 1) := by decide +kernel
theorem dX6_bring_36 : decode cX6_bring 36 = .ok (.aload_n 2, 1) := by decide +kernel
theorem dX6_bring_37 : decode cX6_bring 37 = .ok (.getfield 76, 3) := by decide +kernel
theorem dX6_bring_40 : decode cX6_bring 40 = .ok (.isub, 1) := by decide +kernel
theorem dX6_bring_41 : decode cX6_bring 41 = .ok (.invokestatic 79, 3) := by decide +kernel
theorem dX6_bring_44 : decode cX6_bring 44 = .ok (.istore_n 3, 1) := by decide +kernel
theorem dX6_bring_45 : decode cX6_bring 45 = .ok (.aload_n 2, 1) := by decide +kernel
theorem dX6_bring_46 : decode cX6_bring 46 = .ok (.dup, 1) := by decide +kernel
theorem dX6_bring_47 : decode cX6_bring 47 = .ok (.getfield 76, 3) := by decide +kernel
theorem dX6_bring_50 : decode cX6_bring 50 = .ok (.iload_n 3, 1) := by decide +kernel
theorem dX6_bring_51 : decode cX6_bring 51 = .ok (.iadd, 1) := by decide +kernel
theorem dX6_bring_52 : decode cX6_bring 52 = .ok (.putfield 76, 3) := by decide +kernel
theorem dX6_bring_55 : decode cX6_bring 55 = .ok (.aload_n 0, 1) := by decide +kernel
theorem dX6_bring_56 : decode cX6_bring 56 = .ok (.getfield 10, 3) := by decide +kernel
theorem dX6_bring_59 : decode cX6_bring 59 = .ok (.dup, 1) := by decide +kernel
theorem dX6_bring_60 : decode cX6_bring 60 = .ok (.getfield 85, 3) := by decide +kernel
theorem dX6_bring_63 : decode cX6_bring 63 = .ok (.iload_n 3, 1) := by decide +kernel
theorem dX6_bring_64 : decode cX6_bring 64 = .ok (.iadd, 1) := by decide +kernel
theorem dX6_bring_65 : decode cX6_bring 65 = .ok (.putfield 85, 3) := by decide +kernel
theorem dX6_bring_68 : decode cX6_bring 68 = .ok (.iload_n 3, 1) := by decide +kernel
theorem dX6_bring_69 : decode cX6_bring 69 = .ok (.ireturn, 1) := by decide +kernel
theorem dX6_read_0 : decode cX6_read 0 = .ok (.aload_n 0, 1) := by decide +kernel
theorem dX6_read_1 : decode cX6_read 1 = .ok (.getfield 37, 3) := by decide +kernel
theorem dX6_read_4 : decode cX6_read 4 = .ok (.invokevirtual 88, 3) := by decide +kernel
theorem dX6_read_7 : decode cX6_read 7 = .ok (.bipush (-6), 2) := by decide +kernel
theorem dX6_read_9 : decode cX6_read 9 = .ok (.if_icmp .eq 6, 3) := by decide +kernel
theorem dX6_read_12 : decode cX6_read 12 = .ok (.bipush (-3), 2) := by decide +kernel
theorem dX6_read_14 : decode cX6_read 14 = .ok (.ireturn, 1) := by decide +kernel
theorem dX6_read_15 : decode cX6_read 15 = .ok (.aload_n 0, 1) := by decide +kernel
theorem dX6_read_16 : decode cX6_read 16 = .ok (.getfield 10, 3) := by decide +kernel
theorem dX6_read_19 : decode cX6_read 19 = .ok (.getfield 91, 3) := by decide +kernel
theorem dX6_read_22 : decode cX6_read 22 = .ok (.aload_n 0, 1) := by decide +kernel
theorem dX6_read_23 : decode cX6_read 23 = .ok (.getfield 37, 3) := by decide +kernel
theorem dX6_read_26 : decode cX6_read 26 = .ok (.invokevirtual 94, 3) := by decide +kernel
theorem dX6_read_29 : decode cX6_read 29 = .ok (.iadd, 1) := by decide +kernel
theorem dX6_read_30 : decode cX6_read 30 = .ok (.bipush 24, 2) := by decide +kernel
theorem dX6_read_32 : decode cX6_read 32 = .ok (.if_icmp .le 6, 3) := by decide +kernel
theorem dX6_read_35 : decode cX6_read 35 = .ok (.bipush (-4), 2) := by decide +kernel
theorem dX6_read_37 : decode cX6_read 37 = .ok (.ireturn, 1) := by decide +kernel
theorem dX6_read_38 : decode cX6_read 38 = .ok (.aload_n 0, 1) := by decide +kernel
theorem dX6_read_39 : decode cX6_read 39 = .ok (.getfield 22, 3) := by decide +kernel
theorem dX6_read_42 : decode cX6_read 42 = .ok (.aload_n 0, 1) := by decide +kernel
theorem dX6_read_43 : decode cX6_read 43 = .ok (.getfield 10, 3) := by decide +kernel
theorem dX6_read_46 : decode cX6_read 46 = .ok (.invokevirtual 51, 3) := by decide +kernel
theorem dX6_read_49 : decode cX6_read 49 = .ok (.aload_n 0, 1) := by decide +kernel
theorem dX6_read_50 : decode cX6_read 50 = .ok (.getfield 10, 3) := by decide +kernel
theorem dX6_read_53 : decode cX6_read 53 = .ok (.aload_n 0, 1) := by decide +kernel
theorem dX6_read_54 : decode cX6_read 54 = .ok (.getfield 37, 3) := by decide +kernel
theorem dX6_read_57 : decode cX6_read 57 = .ok (.invokevirtual 97, 3) := by decide +kernel
theorem dX6_read_60 : decode cX6_read 60 = .ok (.aload_n 0, 1) := by decide +kernel
theorem dX6_read_61 : decode cX6_read 61 = .ok (.getfield 37, 3) := by decide +kernel
theorem dX6_read_64 : decode cX6_read 64 = .ok (.invokevirtual 101, 3) := by decide +kernel
theorem dX6_read_67 : decode cX6_read 67 = .ok (.aload_n 0, 1) := by decide +kernel
theorem dX6_read_68 : decode cX6_read 68 = .ok (.getfield 10, 3) := by decide +kernel
theorem dX6_read_71 : decode cX6_read 71 = .ok (.getfield 91, 3) := by decide +kernel
theorem dX6_read_74 : decode cX6_read 74 = .ok (.ireturn, 1) := by decide +kernel
theorem dX6_leave_0 : decode cX6_leave 0 = .ok (.aload_n 0, 1) := by decide +kernel
theorem dX6_leave_1 : decode cX6_leave 1 = .ok (.getfield 10, 3) := by decide +kernel
theorem dX6_leave_4 : decode cX6_leave 4 = .ok (.iload_n 1, 1) := by decide +kernel
theorem dX6_leave_5 : decode cX6_leave 5 = .ok (.invokevirtual 104, 3) := by decide +kernel
theorem dX6_leave_8 : decode cX6_leave 8 = .ok (.astore_n 2, 1) := by decide +kernel
theorem dX6_leave_9 : decode cX6_leave 9 = .ok (.aload_n 2, 1) := by decide +kernel
theorem dX6_leave_10 : decode cX6_leave 10 = .ok (.ifnonnull 5, 3) := by decide +kernel
theorem dX6_leave_13 : decode cX6_leave 13 = .ok (.iconst (-1), 1) := by decide +kernel
theorem dX6_leave_14 : decode cX6_leave 14 = .ok (.ireturn, 1) := by decide +kernel
theorem dX6_leave_15 : decode cX6_leave 15 = .ok (.aload_n 2, 1) := by decide +kernel
theorem dX6_leave_16 : decode cX6_leave 16 = .ok (.getfield 108, 3) := by decide +kernel
theorem dX6_leave_19 : decode cX6_leave 19 = .ok (.ifCond .eq 6, 3) := by decide +kernel
theorem dX6_leave_22 : decode cX6_leave 22 = .ok (.bipush (-5), 2) := by decide +kernel
theorem dX6_leave_24 : decode cX6_leave 24 = .ok (.ireturn, 1) := by decide +kernel
theorem dX6_leave_25 : decode cX6_leave 25 = .ok (.aload_n 0, 1) := by decide +kernel
theorem dX6_leave_26 : decode cX6_leave 26 = .ok (.getfield 22, 3) := by decide +kernel
theorem dX6_leave_29 : decode cX6_leave 29 = .ok (.aload_n 0, 1) := by decide +kernel
theorem dX6_leave_30 : decode cX6_leave 30 = .ok (.getfield 10, 3) := by decide +kernel
theorem dX6_leave_33 : decode cX6_leave 33 = .ok (.invokevirtual 51, 3) := by decide +kernel
theorem dX6_leave_36 : decode cX6_leave 36 = .ok (.aload_n 0, 1) := by decide +kernel
theorem dX6_leave_37 : decode cX6_leave 37 = .ok (.getfield 10, 3) := by decide +kernel
theorem dX6_leave_40 : decode cX6_leave 40 = .ok (.aload_n 2, 1) := by decide +kernel
theorem dX6_leave_41 : decode cX6_leave 41 = .ok (.aload_n 0, 1) := by decide +kernel
theorem dX6_leave_42 : decode cX6_leave 42 = .ok (.getfield 10, 3) := by decide +kernel
theorem dX6_leave_45 : decode cX6_leave 45 = .ok (.getfield 113, 3) := by decide +kernel
theorem dX6_leave_48 : decode cX6_leave 48 = .ok (.invokevirtual 116, 3) := by decide +kernel
theorem dX6_leave_51 : decode cX6_leave 51 = .ok (.aload_n 2, 1) := by decide +kernel
theorem dX6_leave_52 : decode cX6_leave 52 = .ok (.getfield 120, 3) := by decide +kernel
theorem dX6_leave_55 : decode cX6_leave 55 = .ok (.ireturn, 1) := by decide +kernel
theorem dX6_pass_0 : decode cX6_pass 0 = .ok (.iload_n 1, 1) := by decide +kernel
theorem dX6_pass_1 : decode cX6_pass 1 = .ok (.iconst 1, 1) := by decide +kernel
theorem dX6_pass_2 : decode cX6_pass 2 = .ok (.if_icmp .lt 9, 3) := by decide +kernel
theorem dX6_pass_5 : decode cX6_pass 5 = .ok (.iload_n 1, 1) := by decide +kernel
theorem dX6_pass_6 : decode cX6_pass 6 = .ok (.bipush 99, 2) := by decide +kernel
theorem dX6_pass_8 : decode cX6_pass 8 = .ok (.if_icmp .le 6, 3) := by decide +kernel
theorem dX6_pass_11 : decode cX6_pass 11 = .ok (.bipush (-2), 2) := by decide +kernel
theorem dX6_pass_13 : decode cX6_pass 13 = .ok (.ireturn, 1) := by decide +kernel
theorem dX6_pass_14 : decode cX6_pass 14 = .ok (.aload_n 0, 1) := by decide +kernel
theorem dX6_pass_15 : decode cX6_pass 15 = .ok (.getfield 10, 3) := by decide +kernel
theorem dX6_pass_18 : decode cX6_pass 18 = .ok (.getfield 113, 3) := by decide +kernel
theorem dX6_pass_21 : decode cX6_pass 21 = .ok (.iload_n 1, 1) := by decide +kernel
theorem dX6_pass_22 : decode cX6_pass 22 = .ok (.iadd, 1) := by decide +kernel
theorem dX6_pass_23 : decode cX6_pass 23 = .ok (.sipush 9999, 3) := by decide +kernel
theorem dX6_pass_26 : decode cX6_pass 26 = .ok (.if_icmp .le 6, 3) := by decide +kernel
theorem dX6_pass_29 : decode cX6_pass 29 = .ok (.bipush (-4), 2) := by decide +kernel
theorem dX6_pass_31 : decode cX6_pass 31 = .ok (.ireturn, 1) := by decide +kernel
theorem dX6_pass_32 : decode cX6_pass 32 = .ok (.aload_n 0, 1) := by decide +kernel
theorem dX6_pass_33 : decode cX6_pass 33 = .ok (.getfield 22, 3) := by decide +kernel
theorem dX6_pass_36 : decode cX6_pass 36 = .ok (.aload_n 0, 1) := by decide +kernel
theorem dX6_pass_37 : decode cX6_pass 37 = .ok (.getfield 10, 3) := by decide +kernel
theorem dX6_pass_40 : decode cX6_pass 40 = .ok (.invokevirtual 51, 3) := by decide +kernel
theorem dX6_pass_43 : decode cX6_pass 43 = .ok (.aload_n 0, 1) := by decide +kernel
theorem dX6_pass_44 : decode cX6_pass 44 = .ok (.getfield 10, 3) := by decide +kernel
theorem dX6_pass_47 : decode cX6_pass 47 = .ok (.iconst 2, 1) := by decide +kernel
theorem dX6_pass_48 : decode cX6_pass 48 = .ok (.invokevirtual 123, 3) := by decide +kernel
theorem dX6_pass_51 : decode cX6_pass 51 = .ok (.istore_n 2, 1) := by decide +kernel
theorem dX6_pass_52 : decode cX6_pass 52 = .ok (.iconst 0, 1) := by decide +kernel
theorem dX6_pass_53 : decode cX6_pass 53 = .ok (.istore_n 3, 1) := by decide +kernel
theorem dX6_pass_54 : decode cX6_pass 54 = .ok (.iload_n 3, 1) := by decide +kernel
theorem dX6_pass_55 : decode cX6_pass 55 = .ok (.iload_n 1, 1) := by decide +kernel
theorem dX6_pass_56 : decode cX6_pass 56 = .ok (.if_icmp .ge 16, 3) := by decide +kernel
theorem dX6_pass_59 : decode cX6_pass 59 = .ok (.aload_n 0, 1) := by decide +kernel
theorem dX6_pass_60 : decode cX6_pass 60 = .ok (.getfield 10, 3) := by decide +kernel
theorem dX6_pass_63 : decode cX6_pass 63 = .ok (.invokevirtual 127, 3) := by decide +kernel
theorem dX6_pass_66 : decode cX6_pass 66 = .ok (.iinc 3 1, 3) := by decide +kernel
theorem dX6_pass_69 : decode cX6_pass 69 = .ok (.goto (-15), 3) := by decide +kernel
theorem dX6_pass_72 : decode cX6_pass 72 = .ok (.aload_n 0, 1) := by decide +kernel
theorem dX6_pass_73 : decode cX6_pass 73 = .ok (.getfield 10, 3) := by decide +kernel
theorem dX6_pass_76 : decode cX6_pass 76 = .ok (.iconst 2, 1) := by decide +kernel
theorem dX6_pass_77 : decode cX6_pass 77 = .ok (.invokevirtual 123, 3) := by decide +kernel
theorem dX6_pass_80 : decode cX6_pass 80 = .ok (.iload_n 2, 1) := by decide +kernel
theorem dX6_pass_81 : decode cX6_pass 81 = .ok (.isub, 1) := by decide +kernel
theorem dX6_pass_82 : decode cX6_pass 82 = .ok (.ireturn, 1) := by decide +kernel
theorem dX6_person_0 : decode cX6_person 0 = .ok (.aload_n 0, 1) := by decide +kernel
theorem dX6_person_1 : decode cX6_person 1 = .ok (.getfield 10, 3) := by decide +kernel
theorem dX6_person_4 : decode cX6_person 4 = .ok (.iload_n 1, 1) := by decide +kernel
theorem dX6_person_5 : decode cX6_person 5 = .ok (.invokevirtual 104, 3) := by decide +kernel
theorem dX6_person_8 : decode cX6_person 8 = .ok (.astore_n 3, 1) := by decide +kernel
theorem dX6_person_9 : decode cX6_person 9 = .ok (.aload_n 3, 1) := by decide +kernel
theorem dX6_person_10 : decode cX6_person 10 = .ok (.ifnonnull 5, 3) := by decide +kernel
theorem dX6_person_13 : decode cX6_person 13 = .ok (.iconst (-1), 1) := by decide +kernel
theorem dX6_person_14 : decode cX6_person 14 = .ok (.ireturn, 1) := by decide +kernel
theorem dX6_person_15 : decode cX6_person 15 = .ok (.iload_n 2, 1) := by decide +kernel
theorem dX6_person_16 : decode cX6_person 16 = .ok (.ifCond .lt 9, 3) := by decide +kernel
theorem dX6_person_19 : decode cX6_person 19 = .ok (.iload_n 2, 1) := by decide +kernel
theorem dX6_person_20 : decode cX6_person 20 = .ok (.bipush 8, 2) := by decide +kernel
theorem dX6_person_22 : decode cX6_person 22 = .ok (.if_icmp .le 6, 3) := by decide +kernel
theorem dX6_person_25 : decode cX6_person 25 = .ok (.bipush (-2), 2) := by decide +kernel
theorem dX6_person_27 : decode cX6_person 27 = .ok (.ireturn, 1) := by decide +kernel
theorem dX6_person_28 : decode cX6_person 28 = .ok (.iload_n 2, 1) := by decide +kernel
theorem dX6_person_29 : decode cX6_person 29 = .ok (.tableswitch 99 0 7 #[47, 52, 57, 66, 79, 84, 89, 94], 47) := by decide +kernel
theorem dX6_person_76 : decode cX6_person 76 = .ok (.aload_n 3, 1) := by decide +kernel
theorem dX6_person_77 : decode cX6_person 77 = .ok (.getfield 108, 3) := by decide +kernel
theorem dX6_person_80 : decode cX6_person 80 = .ok (.ireturn, 1) := by decide +kernel
theorem dX6_person_81 : decode cX6_person 81 = .ok (.aload_n 3, 1) := by decide +kernel
theorem dX6_person_82 : decode cX6_person 82 = .ok (.invokevirtual 130, 3) := by decide +kernel
theorem dX6_person_85 : decode cX6_person 85 = .ok (.ireturn, 1) := by decide +kernel
theorem dX6_person_86 : decode cX6_person 86 = .ok (.aload_n 0, 1) := by decide +kernel
theorem dX6_person_87 : decode cX6_person 87 = .ok (.getfield 10, 3) := by decide +kernel
theorem dX6_person_90 : decode cX6_person 90 = .ok (.aload_n 3, 1) := by decide +kernel
theorem dX6_person_91 : decode cX6_person 91 = .ok (.invokevirtual 133, 3) := by decide +kernel
theorem dX6_person_94 : decode cX6_person 94 = .ok (.ireturn, 1) := by decide +kernel
theorem dX6_person_95 : decode cX6_person 95 = .ok (.aload_n 3, 1) := by decide +kernel
theorem dX6_person_96 : decode cX6_person 96 = .ok (.getfield 137, 3) := by decide +kernel
theorem dX6_person_99 : decode cX6_person 99 = .ok (.ifCond .eq 7, 3) := by decide +kernel
theorem dX6_person_102 : decode cX6_person 102 = .ok (.iconst 1, 1) := by decide +kernel
theorem dX6_person_103 : decode cX6_person 103 = .ok (.goto 4, 3) := by decide +kernel
theorem dX6_person_106 : decode cX6_person 106 = .ok (.iconst 0, 1) := by decide +kernel
theorem dX6_person_107 : decode cX6_person 107 = .ok (.ireturn, 1) := by decide +kernel
theorem dX6_person_108 : decode cX6_person 108 = .ok (.aload_n 3, 1) := by decide +kernel
theorem dX6_person_109 : decode cX6_person 109 = .ok (.getfield 120, 3) := by decide +kernel
theorem dX6_person_112 : decode cX6_person 112 = .ok (.ireturn, 1) := by decide +kernel
theorem dX6_person_113 : decode cX6_person 113 = .ok (.aload_n 3, 1) := by decide +kernel
theorem dX6_person_114 : decode cX6_person 114 = .ok (.getfield 140, 3) := by decide +kernel
theorem dX6_person_117 : decode cX6_person 117 = .ok (.ireturn, 1) := by decide +kernel
theorem dX6_person_118 : decode cX6_person 118 = .ok (.aload_n 3, 1) := by decide +kernel
theorem dX6_person_119 : decode cX6_person 119 = .ok (.getfield 143, 3) := by decide +kernel
theorem dX6_person_122 : decode cX6_person 122 = .ok (.ireturn, 1) := by decide +kernel
theorem dX6_person_123 : decode cX6_person 123 = .ok (.aload_n 3, 1) := by decide +kernel
theorem dX6_person_124 : decode cX6_person 124 = .ok (.getfield 146, 3) := by decide +kernel
theorem dX6_person_127 : decode cX6_person 127 = .ok (.ireturn, 1) := by decide +kernel
theorem dX6_person_128 : decode cX6_person 128 = .ok (.aload_n 3, 1) := by decide +kernel
theorem dX6_person_129 : decode cX6_person 129 = .ok (.getfield 149, 3) := by decide +kernel
theorem dX6_person_132 : decode cX6_person 132 = .ok (.ireturn, 1) := by decide +kernel
theorem dX6_windowOf_0 : decode cX6_windowOf 0 = .ok (.aload_n 0, 1) := by decide +kernel
theorem dX6_windowOf_1 : decode cX6_windowOf 1 = .ok (.getfield 10, 3) := by decide +kernel
theorem dX6_windowOf_4 : decode cX6_windowOf 4 = .ok (.iload_n 1, 1) := by decide +kernel
theorem dX6_windowOf_5 : decode cX6_windowOf 5 = .ok (.invokevirtual 58, 3) := by decide +kernel
theorem dX6_windowOf_8 : decode cX6_windowOf 8 = .ok (.astore_n 3, 1) := by decide +kernel
theorem dX6_windowOf_9 : decode cX6_windowOf 9 = .ok (.aload_n 3, 1) := by decide +kernel
theorem dX6_windowOf_10 : decode cX6_windowOf 10 = .ok (.ifnonnull 5, 3) := by decide +kernel
theorem dX6_windowOf_13 : decode cX6_windowOf 13 = .ok (.iconst (-1), 1) := by decide +kernel
theorem dX6_windowOf_14 : decode cX6_windowOf 14 = .ok (.ireturn, 1) := by decide +kernel
theorem dX6_windowOf_15 : decode cX6_windowOf 15 = .ok (.iload_n 2, 1) := by decide +kernel
theorem dX6_windowOf_16 : decode cX6_windowOf 16 = .ok (.ifCond .lt 9, 3) := by decide +kernel
theorem dX6_windowOf_19 : decode cX6_windowOf 19 = .ok (.iload_n 2, 1) := by decide +kernel
theorem dX6_windowOf_20 : decode cX6_windowOf 20 = .ok (.bipush 6, 2) := by decide +kernel
theorem dX6_windowOf_22 : decode cX6_windowOf 22 = .ok (.if_icmp .le 6, 3) := by decide +kernel
theorem dX6_windowOf_25 : decode cX6_windowOf 25 = .ok (.bipush (-2), 2) := by decide +kernel
theorem dX6_windowOf_27 : decode cX6_windowOf 27 = .ok (.ireturn, 1) := by decide +kernel
theorem dX6_windowOf_28 : decode cX6_windowOf 28 = .ok (.iload_n 2, 1) := by decide +kernel
theorem dX6_windowOf_29 : decode cX6_windowOf 29 = .ok (.tableswitch 83 0 5 #[39, 52, 57, 62, 70, 78], 39) := by decide +kernel
theorem dX6_windowOf_68 : decode cX6_windowOf 68 = .ok (.aload_n 3, 1) := by decide +kernel
theorem dX6_windowOf_69 : decode cX6_windowOf 69 = .ok (.getfield 62, 3) := by decide +kernel
theorem dX6_windowOf_72 : decode cX6_windowOf 72 = .ok (.ifCond .eq 7, 3) := by decide +kernel
theorem dX6_windowOf_75 : decode cX6_windowOf 75 = .ok (.iconst 1, 1) := by decide +kernel
theorem dX6_windowOf_76 : decode cX6_windowOf 76 = .ok (.goto 4, 3) := by decide +kernel
theorem dX6_windowOf_79 : decode cX6_windowOf 79 = .ok (.iconst 0, 1) := by decide +kernel
theorem dX6_windowOf_80 : decode cX6_windowOf 80 = .ok (.ireturn, 1) := by decide +kernel
theorem dX6_windowOf_81 : decode cX6_windowOf 81 = .ok (.aload_n 3, 1) := by decide +kernel
theorem dX6_windowOf_82 : decode cX6_windowOf 82 = .ok (.getfield 72, 3) := by decide +kernel
theorem dX6_windowOf_85 : decode cX6_windowOf 85 = .ok (.ireturn, 1) := by decide +kernel
theorem dX6_windowOf_86 : decode cX6_windowOf 86 = .ok (.aload_n 3, 1) := by decide +kernel
theorem dX6_windowOf_87 : decode cX6_windowOf 87 = .ok (.getfield 76, 3) := by decide +kernel
theorem dX6_windowOf_90 : decode cX6_windowOf 90 = .ok (.ireturn, 1) := by decide +kernel
theorem dX6_windowOf_91 : decode cX6_windowOf 91 = .ok (.aload_n 3, 1) := by decide +kernel
theorem dX6_windowOf_92 : decode cX6_windowOf 92 = .ok (.getfield 152, 3) := by decide +kernel
theorem dX6_windowOf_95 : decode cX6_windowOf 95 = .ok (.invokevirtual 156, 3) := by decide +kernel
theorem dX6_windowOf_98 : decode cX6_windowOf 98 = .ok (.ireturn, 1) := by decide +kernel
theorem dX6_windowOf_99 : decode cX6_windowOf 99 = .ok (.aload_n 3, 1) := by decide +kernel
theorem dX6_windowOf_100 : decode cX6_windowOf 100 = .ok (.getfield 161, 3) := by decide +kernel
theorem dX6_windowOf_103 : decode cX6_windowOf 103 = .ok (.invokevirtual 156, 3) := by decide +kernel
theorem dX6_windowOf_106 : decode cX6_windowOf 106 = .ok (.ireturn, 1) := by decide +kernel
theorem dX6_windowOf_107 : decode cX6_windowOf 107 = .ok (.aload_n 3, 1) := by decide +kernel
theorem dX6_windowOf_108 : decode cX6_windowOf 108 = .ok (.getfield 164, 3) := by decide +kernel
theorem dX6_windowOf_111 : decode cX6_windowOf 111 = .ok (.ireturn, 1) := by decide +kernel
theorem dX6_windowOf_112 : decode cX6_windowOf 112 = .ok (.aload_n 3, 1) := by decide +kernel
theorem dX6_windowOf_113 : decode cX6_windowOf 113 = .ok (.getfield 167, 3) := by decide +kernel
theorem dX6_windowOf_116 : decode cX6_windowOf 116 = .ok (.ireturn, 1) := by decide +kernel
theorem dX6_count_0 : decode cX6_count 0 = .ok (.iload_n 1, 1) := by decide +kernel
theorem dX6_count_1 : decode cX6_count 1 = .ok (.tableswitch 209 0 16 #[83, 83, 83, 93, 101, 109, 118, 127, 136, 145, 153, 161, 169, 177, 185, 193, 201], 83) := by decide +kernel
theorem dX6_count_84 : decode cX6_count 84 = .ok (.aload_n 0, 1) := by decide +kernel
theorem dX6_count_85 : decode cX6_count 85 = .ok (.getfield 10, 3) := by decide +kernel
theorem dX6_count_88 : decode cX6_count 88 = .ok (.getfield 55, 3) := by decide +kernel
theorem dX6_count_91 : decode cX6_count 91 = .ok (.iload_n 1, 1) := by decide +kernel
theorem dX6_count_92 : decode cX6_count 92 = .ok (.iaload, 1) := by decide +kernel
theorem dX6_count_93 : decode cX6_count 93 = .ok (.ireturn, 1) := by decide +kernel
theorem dX6_count_94 : decode cX6_count 94 = .ok (.aload_n 0, 1) := by decide +kernel
theorem dX6_count_95 : decode cX6_count 95 = .ok (.getfield 10, 3) := by decide +kernel
theorem dX6_count_98 : decode cX6_count 98 = .ok (.getfield 113, 3) := by decide +kernel
theorem dX6_count_101 : decode cX6_count 101 = .ok (.ireturn, 1) := by decide +kernel
theorem dX6_count_102 : decode cX6_count 102 = .ok (.aload_n 0, 1) := by decide +kernel
theorem dX6_count_103 : decode cX6_count 103 = .ok (.getfield 10, 3) := by decide +kernel
theorem dX6_count_106 : decode cX6_count 106 = .ok (.getfield 91, 3) := by decide +kernel
theorem dX6_count_109 : decode cX6_count 109 = .ok (.ireturn, 1) := by decide +kernel
theorem dX6_count_110 : decode cX6_count 110 = .ok (.aload_n 0, 1) := by decide +kernel
theorem dX6_count_111 : decode cX6_count 111 = .ok (.getfield 10, 3) := by decide +kernel
theorem dX6_count_114 : decode cX6_count 114 = .ok (.iconst 0, 1) := by decide +kernel
theorem dX6_count_115 : decode cX6_count 115 = .ok (.invokevirtual 123, 3) := by decide +kernel
theorem dX6_count_118 : decode cX6_count 118 = .ok (.ireturn, 1) := by decide +kernel
theorem dX6_count_119 : decode cX6_count 119 = .ok (.aload_n 0, 1) := by decide +kernel
theorem dX6_count_120 : decode cX6_count 120 = .ok (.getfield 10, 3) := by decide +kernel
theorem dX6_count_123 : decode cX6_count 123 = .ok (.iconst 1, 1) := by decide +kernel
theorem dX6_count_124 : decode cX6_count 124 = .ok (.invokevirtual 123, 3) := by decide +kernel
theorem dX6_count_127 : decode cX6_count 127 = .ok (.ireturn, 1) := by decide +kernel
theorem dX6_count_128 : decode cX6_count 128 = .ok (.aload_n 0, 1) := by decide +kernel
theorem dX6_count_129 : decode cX6_count 129 = .ok (.getfield 10, 3) := by decide +kernel
theorem dX6_count_132 : decode cX6_count 132 = .ok (.iconst 2, 1) := by decide +kernel
theorem dX6_count_133 : decode cX6_count 133 = .ok (.invokevirtual 123, 3) := by decide +kernel
theorem dX6_count_136 : decode cX6_count 136 = .ok (.ireturn, 1) := by decide +kernel
theorem dX6_count_137 : decode cX6_count 137 = .ok (.aload_n 0, 1) := by decide +kernel
theorem dX6_count_138 : decode cX6_count 138 = .ok (.getfield 10, 3) := by decide +kernel
theorem dX6_count_141 : decode cX6_count 141 = .ok (.iconst 3, 1) := by decide +kernel
theorem dX6_count_142 : decode cX6_count 142 = .ok (.invokevirtual 123, 3) := by decide +kernel
theorem dX6_count_145 : decode cX6_count 145 = .ok (.ireturn, 1) := by decide +kernel
theorem dX6_count_146 : decode cX6_count 146 = .ok (.aload_n 0, 1) := by decide +kernel
theorem dX6_count_147 : decode cX6_count 147 = .ok (.getfield 10, 3) := by decide +kernel
theorem dX6_count_150 : decode cX6_count 150 = .ok (.invokevirtual 168, 3) := by decide +kernel
theorem dX6_count_153 : decode cX6_count 153 = .ok (.ireturn, 1) := by decide +kernel
theorem dX6_count_154 : decode cX6_count 154 = .ok (.aload_n 0, 1) := by decide +kernel
theorem dX6_count_155 : decode cX6_count 155 = .ok (.getfield 10, 3) := by decide +kernel
theorem dX6_count_158 : decode cX6_count 158 = .ok (.invokevirtual 171, 3) := by decide +kernel
theorem dX6_count_161 : decode cX6_count 161 = .ok (.ireturn, 1) := by decide +kernel
theorem dX6_count_162 : decode cX6_count 162 = .ok (.aload_n 0, 1) := by decide +kernel
theorem dX6_count_163 : decode cX6_count 163 = .ok (.getfield 10, 3) := by decide +kernel
theorem dX6_count_166 : decode cX6_count 166 = .ok (.getfield 174, 3) := by decide +kernel
theorem dX6_count_169 : decode cX6_count 169 = .ok (.ireturn, 1) := by decide +kernel
theorem dX6_count_170 : decode cX6_count 170 = .ok (.aload_n 0, 1) := by decide +kernel
theorem dX6_count_171 : decode cX6_count 171 = .ok (.getfield 10, 3) := by decide +kernel
theorem dX6_count_174 : decode cX6_count 174 = .ok (.getfield 85, 3) := by decide +kernel
theorem dX6_count_177 : decode cX6_count 177 = .ok (.ireturn, 1) := by decide +kernel
theorem dX6_count_178 : decode cX6_count 178 = .ok (.aload_n 0, 1) := by decide +kernel
theorem dX6_count_179 : decode cX6_count 179 = .ok (.getfield 10, 3) := by decide +kernel
theorem dX6_count_182 : decode cX6_count 182 = .ok (.invokevirtual 177, 3) := by decide +kernel
theorem dX6_count_185 : decode cX6_count 185 = .ok (.ireturn, 1) := by decide +kernel
theorem dX6_count_186 : decode cX6_count 186 = .ok (.aload_n 0, 1) := by decide +kernel
theorem dX6_count_187 : decode cX6_count 187 = .ok (.getfield 10, 3) := by decide +kernel
theorem dX6_count_190 : decode cX6_count 190 = .ok (.invokevirtual 179, 3) := by decide +kernel
theorem dX6_count_193 : decode cX6_count 193 = .ok (.ireturn, 1) := by decide +kernel
theorem dX6_count_194 : decode cX6_count 194 = .ok (.aload_n 0, 1) := by decide +kernel
theorem dX6_count_195 : decode cX6_count 195 = .ok (.getfield 37, 3) := by decide +kernel
theorem dX6_count_198 : decode cX6_count 198 = .ok (.invokevirtual 182, 3) := by decide +kernel
theorem dX6_count_201 : decode cX6_count 201 = .ok (.ireturn, 1) := by decide +kernel
theorem dX6_count_202 : decode cX6_count 202 = .ok (.aload_n 0, 1) := by decide +kernel
theorem dX6_count_203 : decode cX6_count 203 = .ok (.getfield 22, 3) := by decide +kernel
theorem dX6_count_206 : decode cX6_count 206 = .ok (.invokevirtual 183, 3) := by decide +kernel
theorem dX6_count_209 : decode cX6_count 209 = .ok (.ireturn, 1) := by decide +kernel
theorem dX6_count_210 : decode cX6_count 210 = .ok (.bipush (-2), 2) := by decide +kernel
theorem dX6_count_212 : decode cX6_count 212 = .ok (.ireturn, 1) := by decide +kernel
theorem dX6_untilDone_0 : decode cX6_untilDone 0 = .ok (.aload_n 0, 1) := by decide +kernel
theorem dX6_untilDone_1 : decode cX6_untilDone 1 = .ok (.getfield 10, 3) := by decide +kernel
theorem dX6_untilDone_4 : decode cX6_untilDone 4 = .ok (.iload_n 1, 1) := by decide +kernel
theorem dX6_untilDone_5 : decode cX6_untilDone 5 = .ok (.invokevirtual 104, 3) := by decide +kernel
theorem dX6_untilDone_8 : decode cX6_untilDone 8 = .ok (.astore_n 2, 1) := by decide +kernel
theorem dX6_untilDone_9 : decode cX6_untilDone 9 = .ok (.aload_n 2, 1) := by decide +kernel
theorem dX6_untilDone_10 : decode cX6_untilDone 10 = .ok (.ifnonnull 5, 3) := by decide +kernel
theorem dX6_untilDone_13 : decode cX6_untilDone 13 = .ok (.iconst (-1), 1) := by decide +kernel
theorem dX6_untilDone_14 : decode cX6_untilDone 14 = .ok (.ireturn, 1) := by decide +kernel
theorem dX6_untilDone_15 : decode cX6_untilDone 15 = .ok (.aload_n 2, 1) := by decide +kernel
theorem dX6_untilDone_16 : decode cX6_untilDone 16 = .ok (.getfield 108, 3) := by decide +kernel
theorem dX6_untilDone_19 : decode cX6_untilDone 19 = .ok (.iconst 2, 1) := by decide +kernel
theorem dX6_untilDone_20 : decode cX6_untilDone 20 = .ok (.if_icmp .ne 5, 3) := by decide +kernel
theorem dX6_untilDone_23 : decode cX6_untilDone 23 = .ok (.iconst 0, 1) := by decide +kernel
theorem dX6_untilDone_24 : decode cX6_untilDone 24 = .ok (.ireturn, 1) := by decide +kernel
theorem dX6_untilDone_25 : decode cX6_untilDone 25 = .ok (.aload_n 0, 1) := by decide +kernel
theorem dX6_untilDone_26 : decode cX6_untilDone 26 = .ok (.getfield 16, 3) := by decide +kernel
theorem dX6_untilDone_29 : decode cX6_untilDone 29 = .ok (.aload_n 0, 1) := by decide +kernel
theorem dX6_untilDone_30 : decode cX6_untilDone 30 = .ok (.getfield 10, 3) := by decide +kernel
theorem dX6_untilDone_33 : decode cX6_untilDone 33 = .ok (.invokevirtual 186, 3) := by decide +kernel
theorem dX6_untilDone_36 : decode cX6_untilDone 36 = .ok (.aload_n 0, 1) := by decide +kernel
theorem dX6_untilDone_37 : decode cX6_untilDone 37 = .ok (.getfield 16, 3) := by decide +kernel
theorem dX6_untilDone_40 : decode cX6_untilDone 40 = .ok (.iload_n 1, 1) := by decide +kernel
theorem dX6_untilDone_41 : decode cX6_untilDone 41 = .ok (.invokevirtual 104, 3) := by decide +kernel
theorem dX6_untilDone_44 : decode cX6_untilDone 44 = .ok (.astore_n 3, 1) := by decide +kernel
theorem dX6_untilDone_45 : decode cX6_untilDone 45 = .ok (.iconst 1, 1) := by decide +kernel
theorem dX6_untilDone_46 : decode cX6_untilDone 46 = .ok (.istore 4, 2) := by decide +kernel
theorem dX6_untilDone_48 : decode cX6_untilDone 48 = .ok (.iload 4, 2) := by decide +kernel
theorem dX6_untilDone_50 : decode cX6_untilDone 50 = .ok (.sipush 300, 3) := by decide +kernel
theorem dX6_untilDone_53 : decode cX6_untilDone 53 = .ok (.if_icmp .gt 31, 3) := by decide +kernel
theorem dX6_untilDone_56 : decode cX6_untilDone 56 = .ok (.aload_n 0, 1) := by decide +kernel
theorem dX6_untilDone_57 : decode cX6_untilDone 57 = .ok (.getfield 16, 3) := by decide +kernel
theorem dX6_untilDone_60 : decode cX6_untilDone 60 = .ok (.invokevirtual 127, 3) := by decide +kernel
theorem dX6_untilDone_63 : decode cX6_untilDone 63 = .ok (.aload_n 3, 1) := by decide +kernel
theorem dX6_untilDone_64 : decode cX6_untilDone 64 = .ok (.ifnull 14, 3) := by decide +kernel
theorem dX6_untilDone_67 : decode cX6_untilDone 67 = .ok (.aload_n 3, 1) := by decide +kernel
theorem dX6_untilDone_68 : decode cX6_untilDone 68 = .ok (.getfield 108, 3) := by decide +kernel
theorem dX6_untilDone_71 : decode cX6_untilDone 71 = .ok (.iconst 2, 1) := by decide +kernel
theorem dX6_untilDone_72 : decode cX6_untilDone 72 = .ok (.if_icmp .ne 6, 3) := by decide +kernel
theorem dX6_untilDone_75 : decode cX6_untilDone 75 = .ok (.iload 4, 2) := by decide +kernel
theorem dX6_untilDone_77 : decode cX6_untilDone 77 = .ok (.ireturn, 1) := by decide +kernel
theorem dX6_untilDone_78 : decode cX6_untilDone 78 = .ok (.iinc 4 1, 3) := by decide +kernel
theorem dX6_untilDone_81 : decode cX6_untilDone 81 = .ok (.goto (-33), 3) := by decide +kernel
theorem dX6_untilDone_84 : decode cX6_untilDone 84 = .ok (.bipush (-6), 2) := by decide +kernel
theorem dX6_untilDone_86 : decode cX6_untilDone 86 = .ok (.ireturn, 1) := by decide +kernel
theorem dX6_ifPassed_0 : decode cX6_ifPassed 0 = .ok (.iload_n 1, 1) := by decide +kernel
theorem dX6_ifPassed_1 : decode cX6_ifPassed 1 = .ok (.iconst 1, 1) := by decide +kernel
theorem dX6_ifPassed_2 : decode cX6_ifPassed 2 = .ok (.if_icmp .lt 19, 3) := by decide +kernel
theorem dX6_ifPassed_5 : decode cX6_ifPassed 5 = .ok (.iload_n 1, 1) := by decide +kernel
theorem dX6_ifPassed_6 : decode cX6_ifPassed 6 = .ok (.sipush 300, 3) := by decide +kernel
theorem dX6_ifPassed_9 : decode cX6_ifPassed 9 = .ok (.if_icmp .gt 12, 3) := by decide +kernel
theorem dX6_ifPassed_12 : decode cX6_ifPassed 12 = .ok (.iload_n 2, 1) := by decide +kernel
theorem dX6_ifPassed_13 : decode cX6_ifPassed 13 = .ok (.ifCond .lt 8, 3) := by decide +kernel
theorem dX6_ifPassed_16 : decode cX6_ifPassed 16 = .ok (.iload_n 2, 1) := by decide +kernel
theorem dX6_ifPassed_17 : decode cX6_ifPassed 17 = .ok (.iconst 3, 1) := by decide +kernel
theorem dX6_ifPassed_18 : decode cX6_ifPassed 18 = .ok (.if_icmp .le 6, 3) := by decide +kernel
theorem dX6_ifPassed_21 : decode cX6_ifPassed 21 = .ok (.bipush (-2), 2) := by decide +kernel
theorem dX6_ifPassed_23 : decode cX6_ifPassed 23 = .ok (.ireturn, 1) := by decide +kernel
theorem dX6_ifPassed_24 : decode cX6_ifPassed 24 = .ok (.aload_n 0, 1) := by decide +kernel
theorem dX6_ifPassed_25 : decode cX6_ifPassed 25 = .ok (.getfield 16, 3) := by decide +kernel
theorem dX6_ifPassed_28 : decode cX6_ifPassed 28 = .ok (.aload_n 0, 1) := by decide +kernel
theorem dX6_ifPassed_29 : decode cX6_ifPassed 29 = .ok (.getfield 10, 3) := by decide +kernel
theorem dX6_ifPassed_32 : decode cX6_ifPassed 32 = .ok (.invokevirtual 186, 3) := by decide +kernel
theorem dX6_ifPassed_35 : decode cX6_ifPassed 35 = .ok (.iconst 0, 1) := by decide +kernel
theorem dX6_ifPassed_36 : decode cX6_ifPassed 36 = .ok (.istore_n 3, 1) := by decide +kernel
theorem dX6_ifPassed_37 : decode cX6_ifPassed 37 = .ok (.iload_n 3, 1) := by decide +kernel
theorem dX6_ifPassed_38 : decode cX6_ifPassed 38 = .ok (.iload_n 1, 1) := by decide +kernel
theorem dX6_ifPassed_39 : decode cX6_ifPassed 39 = .ok (.if_icmp .ge 16, 3) := by decide +kernel
theorem dX6_ifPassed_42 : decode cX6_ifPassed 42 = .ok (.aload_n 0, 1) := by decide +kernel
theorem dX6_ifPassed_43 : decode cX6_ifPassed 43 = .ok (.getfield 16, 3) := by decide +kernel
theorem dX6_ifPassed_46 : decode cX6_ifPassed 46 = .ok (.invokevirtual 127, 3) := by decide +kernel
theorem dX6_ifPassed_49 : decode cX6_ifPassed 49 = .ok (.iinc 3 1, 3) := by decide +kernel
theorem dX6_ifPassed_52 : decode cX6_ifPassed 52 = .ok (.goto (-15), 3) := by decide +kernel
theorem dX6_ifPassed_55 : decode cX6_ifPassed 55 = .ok (.iload_n 2, 1) := by decide +kernel
theorem dX6_ifPassed_56 : decode cX6_ifPassed 56 = .ok (.tableswitch 80 0 2 #[28, 46, 64], 28) := by decide +kernel
theorem dX6_ifPassed_84 : decode cX6_ifPassed 84 = .ok (.aload_n 0, 1) := by decide +kernel
theorem dX6_ifPassed_85 : decode cX6_ifPassed 85 = .ok (.getfield 16, 3) := by decide +kernel
theorem dX6_ifPassed_88 : decode cX6_ifPassed 88 = .ok (.iconst 2, 1) := by decide +kernel
theorem dX6_ifPassed_89 : decode cX6_ifPassed 89 = .ok (.invokevirtual 123, 3) := by decide +kernel
theorem dX6_ifPassed_92 : decode cX6_ifPassed 92 = .ok (.aload_n 0, 1) := by decide +kernel
theorem dX6_ifPassed_93 : decode cX6_ifPassed 93 = .ok (.getfield 10, 3) := by decide +kernel
theorem dX6_ifPassed_96 : decode cX6_ifPassed 96 = .ok (.iconst 2, 1) := by decide +kernel
theorem dX6_ifPassed_97 : decode cX6_ifPassed 97 = .ok (.invokevirtual 123, 3) := by decide +kernel
theorem dX6_ifPassed_100 : decode cX6_ifPassed 100 = .ok (.isub, 1) := by decide +kernel
theorem dX6_ifPassed_101 : decode cX6_ifPassed 101 = .ok (.ireturn, 1) := by decide +kernel
theorem dX6_ifPassed_102 : decode cX6_ifPassed 102 = .ok (.aload_n 0, 1) := by decide +kernel
theorem dX6_ifPassed_103 : decode cX6_ifPassed 103 = .ok (.getfield 16, 3) := by decide +kernel
theorem dX6_ifPassed_106 : decode cX6_ifPassed 106 = .ok (.iconst 3, 1) := by decide +kernel
theorem dX6_ifPassed_107 : decode cX6_ifPassed 107 = .ok (.invokevirtual 123, 3) := by decide +kernel
theorem dX6_ifPassed_110 : decode cX6_ifPassed 110 = .ok (.aload_n 0, 1) := by decide +kernel
theorem dX6_ifPassed_111 : decode cX6_ifPassed 111 = .ok (.getfield 10, 3) := by decide +kernel
theorem dX6_ifPassed_114 : decode cX6_ifPassed 114 = .ok (.iconst 3, 1) := by decide +kernel
theorem dX6_ifPassed_115 : decode cX6_ifPassed 115 = .ok (.invokevirtual 123, 3) := by decide +kernel
theorem dX6_ifPassed_118 : decode cX6_ifPassed 118 = .ok (.isub, 1) := by decide +kernel
theorem dX6_ifPassed_119 : decode cX6_ifPassed 119 = .ok (.ireturn, 1) := by decide +kernel
theorem dX6_ifPassed_120 : decode cX6_ifPassed 120 = .ok (.aload_n 0, 1) := by decide +kernel
theorem dX6_ifPassed_121 : decode cX6_ifPassed 121 = .ok (.getfield 16, 3) := by decide +kernel
theorem dX6_ifPassed_124 : decode cX6_ifPassed 124 = .ok (.invokevirtual 177, 3) := by decide +kernel
theorem dX6_ifPassed_127 : decode cX6_ifPassed 127 = .ok (.aload_n 0, 1) := by decide +kernel
theorem dX6_ifPassed_128 : decode cX6_ifPassed 128 = .ok (.getfield 10, 3) := by decide +kernel
theorem dX6_ifPassed_131 : decode cX6_ifPassed 131 = .ok (.invokevirtual 177, 3) := by decide +kernel
theorem dX6_ifPassed_134 : decode cX6_ifPassed 134 = .ok (.isub, 1) := by decide +kernel
theorem dX6_ifPassed_135 : decode cX6_ifPassed 135 = .ok (.ireturn, 1) := by decide +kernel
theorem dX6_ifPassed_136 : decode cX6_ifPassed 136 = .ok (.aload_n 0, 1) := by decide +kernel
theorem dX6_ifPassed_137 : decode cX6_ifPassed 137 = .ok (.getfield 16, 3) := by decide +kernel
theorem dX6_ifPassed_140 : decode cX6_ifPassed 140 = .ok (.invokevirtual 179, 3) := by decide +kernel
theorem dX6_ifPassed_143 : decode cX6_ifPassed 143 = .ok (.aload_n 0, 1) := by decide +kernel
theorem dX6_ifPassed_144 : decode cX6_ifPassed 144 = .ok (.getfield 10, 3) := by decide +kernel
theorem dX6_ifPassed_147 : decode cX6_ifPassed 147 = .ok (.invokevirtual 179, 3) := by decide +kernel
theorem dX6_ifPassed_150 : decode cX6_ifPassed 150 = .ok (.isub, 1) := by decide +kernel
theorem dX6_ifPassed_151 : decode cX6_ifPassed 151 = .ok (.ireturn, 1) := by decide +kernel
theorem dX6_bestClerk_0 : decode cX6_bestClerk 0 = .ok (.bipush (-6), 2) := by decide +kernel
theorem dX6_bestClerk_2 : decode cX6_bestClerk 2 = .ok (.istore_n 1, 1) := by decide +kernel
theorem dX6_bestClerk_3 : decode cX6_bestClerk 3 = .ok (.aload_n 0, 1) := by decide +kernel
theorem dX6_bestClerk_4 : decode cX6_bestClerk 4 = .ok (.bipush (-6), 2) := by decide +kernel
theorem dX6_bestClerk_6 : decode cX6_bestClerk 6 = .ok (.invokevirtual 189, 3) := by decide +kernel
theorem dX6_bestClerk_9 : decode cX6_bestClerk 9 = .ok (.istore_n 2, 1) := by decide +kernel
theorem dX6_bestClerk_10 : decode cX6_bestClerk 10 = .ok (.iconst 0, 1) := by decide +kernel
theorem dX6_bestClerk_11 : decode cX6_bestClerk 11 = .ok (.istore_n 3, 1) := by decide +kernel
theorem dX6_bestClerk_12 : decode cX6_bestClerk 12 = .ok (.iload_n 3, 1) := by decide +kernel
theorem dX6_bestClerk_13 : decode cX6_bestClerk 13 = .ok (.bipush 6, 2) := by decide +kernel
theorem dX6_bestClerk_15 : decode cX6_bestClerk 15 = .ok (.if_icmp .ge 51, 3) := by decide +kernel
theorem dX6_bestClerk_18 : decode cX6_bestClerk 18 = .ok (.aload_n 0, 1) := by decide +kernel
theorem dX6_bestClerk_19 : decode cX6_bestClerk 19 = .ok (.getfield 10, 3) := by decide +kernel
theorem dX6_bestClerk_22 : decode cX6_bestClerk 22 = .ok (.iload_n 3, 1) := by decide +kernel
theorem dX6_bestClerk_23 : decode cX6_bestClerk 23 = .ok (.invokevirtual 58, 3) := by decide +kernel
theorem dX6_bestClerk_26 : decode cX6_bestClerk 26 = .ok (.astore 4, 2) := by decide +kernel
theorem dX6_bestClerk_28 : decode cX6_bestClerk 28 = .ok (.aload 4, 2) := by decide +kernel
theorem dX6_bestClerk_30 : decode cX6_bestClerk 30 = .ok (.ifnull 30, 3) := by decide +kernel
theorem dX6_bestClerk_33 : decode cX6_bestClerk 33 = .ok (.aload 4, 2) := by decide +kernel
theorem dX6_bestClerk_35 : decode cX6_bestClerk 35 = .ok (.getfield 72, 3) := by decide +kernel
theorem dX6_bestClerk_38 : decode cX6_bestClerk 38 = .ok (.iconst 3, 1) := by decide +kernel
theorem dX6_bestClerk_39 : decode cX6_bestClerk 39 = .ok (.if_icmp .ge 21, 3) := by decide +kernel
theorem dX6_bestClerk_42 : decode cX6_bestClerk 42 = .ok (.aload_n 0, 1) := by decide +kernel
theorem dX6_bestClerk_43 : decode cX6_bestClerk 43 = .ok (.iload_n 3, 1) := by decide +kernel
theorem dX6_bestClerk_44 : decode cX6_bestClerk 44 = .ok (.invokevirtual 189, 3) := by decide +kernel
theorem dX6_bestClerk_47 : decode cX6_bestClerk 47 = .ok (.istore 5, 2) := by decide +kernel
theorem dX6_bestClerk_49 : decode cX6_bestClerk 49 = .ok (.iload 5, 2) := by decide +kernel
theorem dX6_bestClerk_51 : decode cX6_bestClerk 51 = .ok (.iload_n 2, 1) := by decide +kernel
theorem dX6_bestClerk_52 : decode cX6_bestClerk 52 = .ok (.if_icmp .le 8, 3) := by decide +kernel
theorem dX6_bestClerk_55 : decode cX6_bestClerk 55 = .ok (.iload 5, 2) := by decide +kernel
theorem dX6_bestClerk_57 : decode cX6_bestClerk 57 = .ok (.istore_n 2, 1) := by decide +kernel
theorem dX6_bestClerk_58 : decode cX6_bestClerk 58 = .ok (.iload_n 3, 1) := by decide +kernel
theorem dX6_bestClerk_59 : decode cX6_bestClerk 59 = .ok (.istore_n 1, 1) := by decide +kernel
theorem dX6_bestClerk_60 : decode cX6_bestClerk 60 = .ok (.iinc 3 1, 3) := by decide +kernel
theorem dX6_bestClerk_63 : decode cX6_bestClerk 63 = .ok (.goto (-51), 3) := by decide +kernel
theorem dX6_bestClerk_66 : decode cX6_bestClerk 66 = .ok (.iload_n 1, 1) := by decide +kernel
theorem dX6_bestClerk_67 : decode cX6_bestClerk 67 = .ok (.ireturn, 1) := by decide +kernel
theorem dX6_doneWithOneMoreAt_0 : decode cX6_doneWithOneMoreAt 0 = .ok (.aload_n 0, 1) := by decide +kernel
theorem dX6_doneWithOneMoreAt_1 : decode cX6_doneWithOneMoreAt 1 = .ok (.getfield 16, 3) := by decide +kernel
theorem dX6_doneWithOneMoreAt_4 : decode cX6_doneWithOneMoreAt 4 = .ok (.aload_n 0, 1) := by decide +kernel
theorem dX6_doneWithOneMoreAt_5 : decode cX6_doneWithOneMoreAt 5 = .ok (.getfield 10, 3) := by decide +kernel
theorem dX6_doneWithOneMoreAt_8 : decode cX6_doneWithOneMoreAt 8 = .ok (.invokevirtual 186, 3) := by decide +kernel
theorem dX6_doneWithOneMoreAt_11 : decode cX6_doneWithOneMoreAt 11 = .ok (.aload_n 0, 1) := by decide +kernel
theorem dX6_doneWithOneMoreAt_12 : decode cX6_doneWithOneMoreAt 12 = .ok (.getfield 16, 3) := by decide +kernel
theorem dX6_doneWithOneMoreAt_15 : decode cX6_doneWithOneMoreAt 15 = .ok (.iload_n 1, 1) := by decide +kernel
theorem dX6_doneWithOneMoreAt_16 : decode cX6_doneWithOneMoreAt 16 = .ok (.invokevirtual 58, 3) := by decide +kernel
theorem dX6_doneWithOneMoreAt_19 : decode cX6_doneWithOneMoreAt 19 = .ok (.astore_n 2, 1) := by decide +kernel
theorem dX6_doneWithOneMoreAt_20 : decode cX6_doneWithOneMoreAt 20 = .ok (.aload_n 2, 1) := by decide +kernel
theorem dX6_doneWithOneMoreAt_21 : decode cX6_doneWithOneMoreAt 21 = .ok (.ifnull 13, 3) := by decide +kernel
theorem dX6_doneWithOneMoreAt_24 : decode cX6_doneWithOneMoreAt 24 = .ok (.aload_n 2, 1) := by decide +kernel
theorem dX6_doneWithOneMoreAt_25 : decode cX6_doneWithOneMoreAt 25 = .ok (.dup, 1) := by decide +kernel
theorem dX6_doneWithOneMoreAt_26 : decode cX6_doneWithOneMoreAt 26 = .ok (.getfield 72, 3) := by decide +kernel
theorem dX6_doneWithOneMoreAt_29 : decode cX6_doneWithOneMoreAt 29 = .ok (.iconst 1, 1) := by decide +kernel
theorem dX6_doneWithOneMoreAt_30 : decode cX6_doneWithOneMoreAt 30 = .ok (.iadd, 1) := by decide +kernel
theorem dX6_doneWithOneMoreAt_31 : decode cX6_doneWithOneMoreAt 31 = .ok (.putfield 72, 3) := by decide +kernel
theorem dX6_doneWithOneMoreAt_34 : decode cX6_doneWithOneMoreAt 34 = .ok (.iconst 0, 1) := by decide +kernel
theorem dX6_doneWithOneMoreAt_35 : decode cX6_doneWithOneMoreAt 35 = .ok (.istore_n 3, 1) := by decide +kernel
theorem dX6_doneWithOneMoreAt_36 : decode cX6_doneWithOneMoreAt 36 = .ok (.iload_n 3, 1) := by decide +kernel
theorem dX6_doneWithOneMoreAt_37 : decode cX6_doneWithOneMoreAt 37 = .ok (.bipush 50, 2) := by decide +kernel
theorem dX6_doneWithOneMoreAt_39 : decode cX6_doneWithOneMoreAt 39 = .ok (.if_icmp .ge 16, 3) := by decide +kernel
theorem dX6_doneWithOneMoreAt_42 : decode cX6_doneWithOneMoreAt 42 = .ok (.aload_n 0, 1) := by decide +kernel
theorem dX6_doneWithOneMoreAt_43 : decode cX6_doneWithOneMoreAt 43 = .ok (.getfield 16, 3) := by decide +kernel
theorem dX6_doneWithOneMoreAt_46 : decode cX6_doneWithOneMoreAt 46 = .ok (.invokevirtual 127, 3) := by decide +kernel
theorem dX6_doneWithOneMoreAt_49 : decode cX6_doneWithOneMoreAt 49 = .ok (.iinc 3 1, 3) := by decide +kernel
theorem dX6_doneWithOneMoreAt_52 : decode cX6_doneWithOneMoreAt 52 = .ok (.goto (-16), 3) := by decide +kernel
theorem dX6_doneWithOneMoreAt_55 : decode cX6_doneWithOneMoreAt 55 = .ok (.aload_n 0, 1) := by decide +kernel
theorem dX6_doneWithOneMoreAt_56 : decode cX6_doneWithOneMoreAt 56 = .ok (.getfield 16, 3) := by decide +kernel
theorem dX6_doneWithOneMoreAt_59 : decode cX6_doneWithOneMoreAt 59 = .ok (.iconst 2, 1) := by decide +kernel
theorem dX6_doneWithOneMoreAt_60 : decode cX6_doneWithOneMoreAt 60 = .ok (.invokevirtual 123, 3) := by decide +kernel
theorem dX6_doneWithOneMoreAt_63 : decode cX6_doneWithOneMoreAt 63 = .ok (.ireturn, 1) := by decide +kernel
theorem dX6_longest_0 : decode cX6_longest 0 = .ok (.bipush (-6), 2) := by decide +kernel
theorem dX6_longest_2 : decode cX6_longest 2 = .ok (.istore_n 1, 1) := by decide +kernel
theorem dX6_longest_3 : decode cX6_longest 3 = .ok (.iconst 0, 1) := by decide +kernel
theorem dX6_longest_4 : decode cX6_longest 4 = .ok (.istore_n 2, 1) := by decide +kernel
theorem dX6_longest_5 : decode cX6_longest 5 = .ok (.iconst 0, 1) := by decide +kernel
theorem dX6_longest_6 : decode cX6_longest 6 = .ok (.istore_n 3, 1) := by decide +kernel
theorem dX6_longest_7 : decode cX6_longest 7 = .ok (.iload_n 3, 1) := by decide +kernel
theorem dX6_longest_8 : decode cX6_longest 8 = .ok (.bipush 6, 2) := by decide +kernel
theorem dX6_longest_10 : decode cX6_longest 10 = .ok (.if_icmp .ge 47, 3) := by decide +kernel
theorem dX6_longest_13 : decode cX6_longest 13 = .ok (.aload_n 0, 1) := by decide +kernel
theorem dX6_longest_14 : decode cX6_longest 14 = .ok (.getfield 10, 3) := by decide +kernel
theorem dX6_longest_17 : decode cX6_longest 17 = .ok (.iload_n 3, 1) := by decide +kernel
theorem dX6_longest_18 : decode cX6_longest 18 = .ok (.invokevirtual 58, 3) := by decide +kernel
theorem dX6_longest_21 : decode cX6_longest 21 = .ok (.astore 4, 2) := by decide +kernel
theorem dX6_longest_23 : decode cX6_longest 23 = .ok (.aload 4, 2) := by decide +kernel
theorem dX6_longest_25 : decode cX6_longest 25 = .ok (.ifnull 26, 3) := by decide +kernel
theorem dX6_longest_28 : decode cX6_longest 28 = .ok (.aload 4, 2) := by decide +kernel
theorem dX6_longest_30 : decode cX6_longest 30 = .ok (.getfield 152, 3) := by decide +kernel
theorem dX6_longest_33 : decode cX6_longest 33 = .ok (.invokevirtual 156, 3) := by decide +kernel
theorem dX6_longest_36 : decode cX6_longest 36 = .ok (.iload_n 2, 1) := by decide +kernel
theorem dX6_longest_37 : decode cX6_longest 37 = .ok (.if_icmp .le 14, 3) := by decide +kernel
theorem dX6_longest_40 : decode cX6_longest 40 = .ok (.aload 4, 2) := by decide +kernel
theorem dX6_longest_42 : decode cX6_longest 42 = .ok (.getfield 152, 3) := by decide +kernel
theorem dX6_longest_45 : decode cX6_longest 45 = .ok (.invokevirtual 156, 3) := by decide +kernel
theorem dX6_longest_48 : decode cX6_longest 48 = .ok (.istore_n 2, 1) := by decide +kernel
theorem dX6_longest_49 : decode cX6_longest 49 = .ok (.iload_n 3, 1) := by decide +kernel
theorem dX6_longest_50 : decode cX6_longest 50 = .ok (.istore_n 1, 1) := by decide +kernel
theorem dX6_longest_51 : decode cX6_longest 51 = .ok (.iinc 3 1, 3) := by decide +kernel
theorem dX6_longest_54 : decode cX6_longest 54 = .ok (.goto (-47), 3) := by decide +kernel
theorem dX6_longest_57 : decode cX6_longest 57 = .ok (.iload_n 1, 1) := by decide +kernel
theorem dX6_longest_58 : decode cX6_longest 58 = .ok (.ireturn, 1) := by decide +kernel
theorem dX6_put_0 : decode cX6_put 0 = .ok (.lload_n 1, 1) := by decide +kernel
theorem dX6_put_1 : decode cX6_put 1 = .ok (.invokestatic 192, 3) := by decide +kernel
theorem dX6_put_4 : decode cX6_put 4 = .ok (.istore_n 3, 1) := by decide +kernel
theorem dX6_put_5 : decode cX6_put 5 = .ok (.iload_n 3, 1) := by decide +kernel
theorem dX6_put_6 : decode cX6_put 6 = .ok (.ifCond .ne 6, 3) := by decide +kernel
theorem dX6_put_9 : decode cX6_put 9 = .ok (.bipush (-2), 2) := by decide +kernel
theorem dX6_put_11 : decode cX6_put 11 = .ok (.ireturn, 1) := by decide +kernel
theorem dX6_put_12 : decode cX6_put 12 = .ok (.aload_n 0, 1) := by decide +kernel
theorem dX6_put_13 : decode cX6_put 13 = .ok (.getfield 37, 3) := by decide +kernel
theorem dX6_put_16 : decode cX6_put 16 = .ok (.invokevirtual 182, 3) := by decide +kernel
theorem dX6_put_19 : decode cX6_put 19 = .ok (.iload_n 3, 1) := by decide +kernel
theorem dX6_put_20 : decode cX6_put 20 = .ok (.iadd, 1) := by decide +kernel
theorem dX6_put_21 : decode cX6_put 21 = .ok (.bipush 60, 2) := by decide +kernel
theorem dX6_put_23 : decode cX6_put 23 = .ok (.if_icmp .le 6, 3) := by decide +kernel
theorem dX6_put_26 : decode cX6_put 26 = .ok (.bipush (-4), 2) := by decide +kernel
theorem dX6_put_28 : decode cX6_put 28 = .ok (.ireturn, 1) := by decide +kernel
theorem dX6_put_29 : decode cX6_put 29 = .ok (.aload_n 0, 1) := by decide +kernel
theorem dX6_put_30 : decode cX6_put 30 = .ok (.getfield 37, 3) := by decide +kernel
theorem dX6_put_33 : decode cX6_put 33 = .ok (.lload_n 1, 1) := by decide +kernel
theorem dX6_put_34 : decode cX6_put 34 = .ok (.iload_n 3, 1) := by decide +kernel
theorem dX6_put_35 : decode cX6_put 35 = .ok (.invokevirtual 196, 3) := by decide +kernel
theorem dX6_put_38 : decode cX6_put 38 = .ok (.aload_n 0, 1) := by decide +kernel
theorem dX6_put_39 : decode cX6_put 39 = .ok (.getfield 37, 3) := by decide +kernel
theorem dX6_put_42 : decode cX6_put 42 = .ok (.invokevirtual 182, 3) := by decide +kernel
theorem dX6_put_45 : decode cX6_put 45 = .ok (.ireturn, 1) := by decide +kernel
theorem dX6_wipe_0 : decode cX6_wipe 0 = .ok (.aload_n 0, 1) := by decide +kernel
theorem dX6_wipe_1 : decode cX6_wipe 1 = .ok (.getfield 37, 3) := by decide +kernel
theorem dX6_wipe_4 : decode cX6_wipe 4 = .ok (.invokevirtual 182, 3) := by decide +kernel
theorem dX6_wipe_7 : decode cX6_wipe 7 = .ok (.istore_n 1, 1) := by decide +kernel
theorem dX6_wipe_8 : decode cX6_wipe 8 = .ok (.aload_n 0, 1) := by decide +kernel
theorem dX6_wipe_9 : decode cX6_wipe 9 = .ok (.getfield 37, 3) := by decide +kernel
theorem dX6_wipe_12 : decode cX6_wipe 12 = .ok (.invokevirtual 101, 3) := by decide +kernel
theorem dX6_wipe_15 : decode cX6_wipe 15 = .ok (.iload_n 1, 1) := by decide +kernel
theorem dX6_wipe_16 : decode cX6_wipe 16 = .ok (.ireturn, 1) := by decide +kernel
theorem dX6_save_0 : decode cX6_save 0 = .ok (.iload_n 1, 1) := by decide +kernel
theorem dX6_save_1 : decode cX6_save 1 = .ok (.ifCond .lt 8, 3) := by decide +kernel
theorem dX6_save_4 : decode cX6_save 4 = .ok (.iload_n 1, 1) := by decide +kernel
theorem dX6_save_5 : decode cX6_save 5 = .ok (.iconst 2, 1) := by decide +kernel
theorem dX6_save_6 : decode cX6_save 6 = .ok (.if_icmp .lt 6, 3) := by decide +kernel
theorem dX6_save_9 : decode cX6_save 9 = .ok (.bipush (-2), 2) := by decide +kernel
theorem dX6_save_11 : decode cX6_save 11 = .ok (.ireturn, 1) := by decide +kernel
theorem dX6_save_12 : decode cX6_save 12 = .ok (.aload_n 0, 1) := by decide +kernel
theorem dX6_save_13 : decode cX6_save 13 = .ok (.getfield 26, 3) := by decide +kernel
theorem dX6_save_16 : decode cX6_save 16 = .ok (.iload_n 1, 1) := by decide +kernel
theorem dX6_save_17 : decode cX6_save 17 = .ok (.aaload, 1) := by decide +kernel
theorem dX6_save_18 : decode cX6_save 18 = .ok (.aload_n 0, 1) := by decide +kernel
theorem dX6_save_19 : decode cX6_save 19 = .ok (.getfield 10, 3) := by decide +kernel
theorem dX6_save_22 : decode cX6_save 22 = .ok (.invokevirtual 186, 3) := by decide +kernel
theorem dX6_save_25 : decode cX6_save 25 = .ok (.aload_n 0, 1) := by decide +kernel
theorem dX6_save_26 : decode cX6_save 26 = .ok (.getfield 30, 3) := by decide +kernel
theorem dX6_save_29 : decode cX6_save 29 = .ok (.iload_n 1, 1) := by decide +kernel
theorem dX6_save_30 : decode cX6_save 30 = .ok (.iconst 1, 1) := by decide +kernel
theorem dX6_save_31 : decode cX6_save 31 = .ok (.bastore, 1) := by decide +kernel
theorem dX6_save_32 : decode cX6_save 32 = .ok (.aload_n 0, 1) := by decide +kernel
theorem dX6_save_33 : decode cX6_save 33 = .ok (.getfield 10, 3) := by decide +kernel
theorem dX6_save_36 : decode cX6_save 36 = .ok (.getfield 113, 3) := by decide +kernel
theorem dX6_save_39 : decode cX6_save 39 = .ok (.ireturn, 1) := by decide +kernel
theorem dX6_restore_0 : decode cX6_restore 0 = .ok (.iload_n 1, 1) := by decide +kernel
theorem dX6_restore_1 : decode cX6_restore 1 = .ok (.ifCond .lt 8, 3) := by decide +kernel
theorem dX6_restore_4 : decode cX6_restore 4 = .ok (.iload_n 1, 1) := by decide +kernel
theorem dX6_restore_5 : decode cX6_restore 5 = .ok (.iconst 2, 1) := by decide +kernel
theorem dX6_restore_6 : decode cX6_restore 6 = .ok (.if_icmp .lt 6, 3) := by decide +kernel
theorem dX6_restore_9 : decode cX6_restore 9 = .ok (.bipush (-2), 2) := by decide +kernel
theorem dX6_restore_11 : decode cX6_restore 11 = .ok (.ireturn, 1) := by decide +kernel
theorem dX6_restore_12 : decode cX6_restore 12 = .ok (.aload_n 0, 1) := by decide +kernel
theorem dX6_restore_13 : decode cX6_restore 13 = .ok (.getfield 30, 3) := by decide +kernel
theorem dX6_restore_16 : decode cX6_restore 16 = .ok (.iload_n 1, 1) := by decide +kernel
theorem dX6_restore_17 : decode cX6_restore 17 = .ok (.baload, 1) := by decide +kernel
theorem dX6_restore_18 : decode cX6_restore 18 = .ok (.ifCond .ne 6, 3) := by decide +kernel
theorem dX6_restore_21 : decode cX6_restore 21 = .ok (.bipush (-5), 2) := by decide +kernel
theorem dX6_restore_23 : decode cX6_restore 23 = .ok (.ireturn, 1) := by decide +kernel
theorem dX6_restore_24 : decode cX6_restore 24 = .ok (.aload_n 0, 1) := by decide +kernel
theorem dX6_restore_25 : decode cX6_restore 25 = .ok (.getfield 22, 3) := by decide +kernel
theorem dX6_restore_28 : decode cX6_restore 28 = .ok (.aload_n 0, 1) := by decide +kernel
theorem dX6_restore_29 : decode cX6_restore 29 = .ok (.getfield 10, 3) := by decide +kernel
theorem dX6_restore_32 : decode cX6_restore 32 = .ok (.invokevirtual 51, 3) := by decide +kernel
theorem dX6_restore_35 : decode cX6_restore 35 = .ok (.aload_n 0, 1) := by decide +kernel
theorem dX6_restore_36 : decode cX6_restore 36 = .ok (.getfield 10, 3) := by decide +kernel
theorem dX6_restore_39 : decode cX6_restore 39 = .ok (.aload_n 0, 1) := by decide +kernel
theorem dX6_restore_40 : decode cX6_restore 40 = .ok (.getfield 26, 3) := by decide +kernel
theorem dX6_restore_43 : decode cX6_restore 43 = .ok (.iload_n 1, 1) := by decide +kernel
theorem dX6_restore_44 : decode cX6_restore 44 = .ok (.aaload, 1) := by decide +kernel
theorem dX6_restore_45 : decode cX6_restore 45 = .ok (.invokevirtual 186, 3) := by decide +kernel
theorem dX6_restore_48 : decode cX6_restore 48 = .ok (.aload_n 0, 1) := by decide +kernel
theorem dX6_restore_49 : decode cX6_restore 49 = .ok (.getfield 10, 3) := by decide +kernel
theorem dX6_restore_52 : decode cX6_restore 52 = .ok (.getfield 113, 3) := by decide +kernel
theorem dX6_restore_55 : decode cX6_restore 55 = .ok (.ireturn, 1) := by decide +kernel
