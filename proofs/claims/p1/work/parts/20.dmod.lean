theorem dX7_init_0 : decode cX7_init 0 = .ok (.aload_n 0, 1) := by decide +kernel
theorem dX7_init_1 : decode cX7_init 1 = .ok (.invokespecial 1, 3) := by decide +kernel
theorem dX7_init_4 : decode cX7_init 4 = .ok (.aload_n 0, 1) := by decide +kernel
theorem dX7_init_5 : decode cX7_init 5 = .ok (.sipush 326, 3) := by decide +kernel
theorem dX7_init_8 : decode cX7_init 8 = .ok (.newarray .int, 2) := by decide +kernel
theorem dX7_init_10 : decode cX7_init 10 = .ok (.putfield 7, 3) := by decide +kernel
theorem dX7_init_13 : decode cX7_init 13 = .ok (.aload_n 0, 1) := by decide +kernel
theorem dX7_init_14 : decode cX7_init 14 = .ok (.sipush 326, 3) := by decide +kernel
theorem dX7_init_17 : decode cX7_init 17 = .ok (.newarray .int, 2) := by decide +kernel
theorem dX7_init_19 : decode cX7_init 19 = .ok (.putfield 13, 3) := by decide +kernel
theorem dX7_init_22 : decode cX7_init 22 = .ok (.aload_n 0, 1) := by decide +kernel
theorem dX7_init_23 : decode cX7_init 23 = .ok (.sipush 1956, 3) := by decide +kernel
theorem dX7_init_26 : decode cX7_init 26 = .ok (.newarray .int, 2) := by decide +kernel
theorem dX7_init_28 : decode cX7_init 28 = .ok (.putfield 16, 3) := by decide +kernel
theorem dX7_init_31 : decode cX7_init 31 = .ok (.aload_n 0, 1) := by decide +kernel
theorem dX7_init_32 : decode cX7_init 32 = .ok (.sipush 652, 3) := by decide +kernel
theorem dX7_init_35 : decode cX7_init 35 = .ok (.newarray .int, 2) := by decide +kernel
theorem dX7_init_37 : decode cX7_init 37 = .ok (.putfield 19, 3) := by decide +kernel
theorem dX7_init_40 : decode cX7_init 40 = .ok (.aload_n 0, 1) := by decide +kernel
theorem dX7_init_41 : decode cX7_init 41 = .ok (.iconst 2, 1) := by decide +kernel
theorem dX7_init_42 : decode cX7_init 42 = .ok (.newarray .int, 2) := by decide +kernel
theorem dX7_init_44 : decode cX7_init 44 = .ok (.putfield 22, 3) := by decide +kernel
theorem dX7_init_47 : decode cX7_init 47 = .ok (.aload_n 0, 1) := by decide +kernel
theorem dX7_init_48 : decode cX7_init 48 = .ok (.bipush 24, 2) := by decide +kernel
theorem dX7_init_50 : decode cX7_init 50 = .ok (.newarray .int, 2) := by decide +kernel
theorem dX7_init_52 : decode cX7_init 52 = .ok (.putfield 25, 3) := by decide +kernel
theorem dX7_init_55 : decode cX7_init 55 = .ok (.aload_n 0, 1) := by decide +kernel
theorem dX7_init_56 : decode cX7_init 56 = .ok (.bipush 60, 2) := by decide +kernel
theorem dX7_init_58 : decode cX7_init 58 = .ok (.newarray .int, 2) := by decide +kernel
theorem dX7_init_60 : decode cX7_init 60 = .ok (.putfield 28, 3) := by decide +kernel
theorem dX7_init_63 : decode cX7_init 63 = .ok (.aload_n 0, 1) := by decide +kernel
theorem dX7_init_64 : decode cX7_init 64 = .ok (.bipush 30, 2) := by decide +kernel
theorem dX7_init_66 : decode cX7_init 66 = .ok (.newarray .int, 2) := by decide +kernel
theorem dX7_init_68 : decode cX7_init 68 = .ok (.putfield 31, 3) := by decide +kernel
theorem dX7_init_71 : decode cX7_init 71 = .ok (.aload_n 0, 1) := by decide +kernel
theorem dX7_init_72 : decode cX7_init 72 = .ok (.bipush 30, 2) := by decide +kernel
theorem dX7_init_74 : decode cX7_init 74 = .ok (.newarray .int, 2) := by decide +kernel
theorem dX7_init_76 : decode cX7_init 76 = .ok (.putfield 34, 3) := by decide +kernel
theorem dX7_init_79 : decode cX7_init 79 = .ok (.aload_n 0, 1) := by decide +kernel
theorem dX7_init_80 : decode cX7_init 80 = .ok (.getfield 7, 3) := by decide +kernel
theorem dX7_init_83 : decode cX7_init 83 = .ok (.iconst 0, 1) := by decide +kernel
theorem dX7_init_84 : decode cX7_init 84 = .ok (.iconst 2, 1) := by decide +kernel
theorem dX7_init_85 : decode cX7_init 85 = .ok (.iastore, 1) := by decide +kernel
theorem dX7_init_86 : decode cX7_init 86 = .ok (.aload_n 0, 1) := by decide +kernel
theorem dX7_init_87 : decode cX7_init 87 = .ok (.getfield 7, 3) := by decide +kernel
theorem dX7_init_90 : decode cX7_init 90 = .ok (.iconst 1, 1) := by decide +kernel
theorem dX7_init_91 : decode cX7_init 91 = .ok (.bipush 8, 2) := by decide +kernel
theorem dX7_init_93 : decode cX7_init 93 = .ok (.iastore, 1) := by decide +kernel
theorem dX7_init_94 : decode cX7_init 94 = .ok (.iconst 0, 1) := by decide +kernel
theorem dX7_init_95 : decode cX7_init 95 = .ok (.istore_n 1, 1) := by decide +kernel
theorem dX7_init_96 : decode cX7_init 96 = .ok (.iload_n 1, 1) := by decide +kernel
theorem dX7_init_97 : decode cX7_init 97 = .ok (.bipush 6, 2) := by decide +kernel
theorem dX7_init_99 : decode cX7_init 99 = .ok (.if_icmp .ge 40, 3) := by decide +kernel
theorem dX7_init_102 : decode cX7_init 102 = .ok (.aload_n 0, 1) := by decide +kernel
theorem dX7_init_103 : decode cX7_init 103 = .ok (.getfield 7, 3) := by decide +kernel
theorem dX7_init_106 : decode cX7_init 106 = .ok (.bipush 8, 2) := by decide +kernel
theorem dX7_init_108 : decode cX7_init 108 = .ok (.iload_n 1, 1) := by decide +kernel
theorem dX7_init_109 : decode cX7_init 109 = .ok (.iadd, 1) := by decide +kernel
theorem dX7_init_110 : decode cX7_init 110 = .ok (.iconst 1, 1) := by decide +kernel
theorem dX7_init_111 : decode cX7_init 111 = .ok (.iastore, 1) := by decide +kernel
theorem dX7_init_112 : decode cX7_init 112 = .ok (.aload_n 0, 1) := by decide +kernel
theorem dX7_init_113 : decode cX7_init 113 = .ok (.getfield 7, 3) := by decide +kernel
theorem dX7_init_116 : decode cX7_init 116 = .ok (.bipush 14, 2) := by decide +kernel
theorem dX7_init_118 : decode cX7_init 118 = .ok (.iload_n 1, 1) := by decide +kernel
theorem dX7_init_119 : decode cX7_init 119 = .ok (.iadd, 1) := by decide +kernel
theorem dX7_init_120 : decode cX7_init 120 = .ok (.iconst 1, 1) := by decide +kernel
theorem dX7_init_121 : decode cX7_init 121 = .ok (.iastore, 1) := by decide +kernel
theorem dX7_init_122 : decode cX7_init 122 = .ok (.aload_n 0, 1) := by decide +kernel
theorem dX7_init_123 : decode cX7_init 123 = .ok (.getfield 7, 3) := by decide +kernel
theorem dX7_init_126 : decode cX7_init 126 = .ok (.bipush 20, 2) := by decide +kernel
theorem dX7_init_128 : decode cX7_init 128 = .ok (.iload_n 1, 1) := by decide +kernel
theorem dX7_init_129 : decode cX7_init 129 = .ok (.iadd, 1) := by decide +kernel
theorem dX7_init_130 : decode cX7_init 130 = .ok (.bipush 8, 2) := by decide +kernel
theorem dX7_init_132 : decode cX7_init 132 = .ok (.iastore, 1) := by decide +kernel
theorem dX7_init_133 : decode cX7_init 133 = .ok (.iinc 1 1, 3) := by decide +kernel
theorem dX7_init_136 : decode cX7_init 136 = .ok (.goto (-40), 3) := by decide +kernel
theorem dX7_init_139 : decode cX7_init 139 = .ok (.return_, 1) := by decide +kernel
theorem dX7_in_0 : decode cX7_in 0 = .ok (.lload_n 0, 1) := by decide +kernel
theorem dX7_in_1 : decode cX7_in 1 = .ok (.lload_n 2, 1) := by decide +kernel
theorem dX7_in_2 : decode cX7_in 2 = .ok (.lcmp, 1) := by decide +kernel
theorem dX7_in_3 : decode cX7_in 3 = .ok (.ifCond .lt 14, 3) := by decide +kernel
theorem dX7_in_6 : decode cX7_in 6 = .ok (.lload_n 0, 1) := by decide +kernel
theorem dX7_in_7 : decode cX7_in 7 = .ok (.lload 4, 2) := by decide +kernel
theorem dX7_in_9 : decode cX7_in 9 = .ok (.lcmp, 1) := by decide +kernel
theorem dX7_in_10 : decode cX7_in 10 = .ok (.ifCond .gt 7, 3) := by decide +kernel
theorem dX7_in_13 : decode cX7_in 13 = .ok (.iconst 1, 1) := by decide +kernel
theorem dX7_in_14 : decode cX7_in 14 = .ok (.goto 4, 3) := by decide +kernel
theorem dX7_in_17 : decode cX7_in 17 = .ok (.iconst 0, 1) := by decide +kernel
theorem dX7_in_18 : decode cX7_in 18 = .ok (.ireturn, 1) := by decide +kernel
theorem dX7_changes_0 : decode cX7_changes 0 = .ok (.aload_n 0, 1) := by decide +kernel
theorem dX7_changes_1 : decode cX7_changes 1 = .ok (.getfield 37, 3) := by decide +kernel
theorem dX7_changes_4 : decode cX7_changes 4 = .ok (.bipush 6, 2) := by decide +kernel
theorem dX7_changes_6 : decode cX7_changes 6 = .ok (.if_icmp .ne 44, 3) := by decide +kernel
theorem dX7_changes_9 : decode cX7_changes 9 = .ok (.iconst 0, 1) := by decide +kernel
theorem dX7_changes_10 : decode cX7_changes 10 = .ok (.istore_n 1, 1) := by decide +kernel
theorem dX7_changes_11 : decode cX7_changes 11 = .ok (.iload_n 1, 1) := by decide +kernel
theorem dX7_changes_12 : decode cX7_changes 12 = .ok (.sipush 1630, 3) := by decide +kernel
theorem dX7_changes_15 : decode cX7_changes 15 = .ok (.if_icmp .ge 25, 3) := by decide +kernel
theorem dX7_changes_18 : decode cX7_changes 18 = .ok (.aload_n 0, 1) := by decide +kernel
theorem dX7_changes_19 : decode cX7_changes 19 = .ok (.getfield 16, 3) := by decide +kernel
theorem dX7_changes_22 : decode cX7_changes 22 = .ok (.iload_n 1, 1) := by decide +kernel
theorem dX7_changes_23 : decode cX7_changes 23 = .ok (.aload_n 0, 1) := by decide +kernel
theorem dX7_changes_24 : decode cX7_changes 24 = .ok (.getfield 16, 3) := by decide +kernel
theorem dX7_changes_27 : decode cX7_changes 27 = .ok (.iload_n 1, 1) := by decide +kernel
theorem dX7_changes_28 : decode cX7_changes 28 = .ok (.sipush 326, 3) := by decide +kernel
theorem dX7_changes_31 : decode cX7_changes 31 = .ok (.iadd, 1) := by decide +kernel
theorem dX7_changes_32 : decode cX7_changes 32 = .ok (.iaload, 1) := by decide +kernel
theorem dX7_changes_33 : decode cX7_changes 33 = .ok (.iastore, 1) := by decide +kernel
theorem dX7_changes_34 : decode cX7_changes 34 = .ok (.iinc 1 1, 3) := by decide +kernel
theorem dX7_changes_37 : decode cX7_changes 37 = .ok (.goto (-26), 3) := by decide +kernel
theorem dX7_changes_40 : decode cX7_changes 40 = .ok (.aload_n 0, 1) := by decide +kernel
theorem dX7_changes_41 : decode cX7_changes 41 = .ok (.dup, 1) := by decide +kernel
theorem dX7_changes_42 : decode cX7_changes 42 = .ok (.getfield 37, 3) := by decide +kernel
theorem dX7_changes_45 : decode cX7_changes 45 = .ok (.iconst 1, 1) := by decide +kernel
theorem dX7_changes_46 : decode cX7_changes 46 = .ok (.isub, 1) := by decide +kernel
theorem dX7_changes_47 : decode cX7_changes 47 = .ok (.putfield 37, 3) := by decide +kernel
theorem dX7_changes_50 : decode cX7_changes 50 = .ok (.iconst 0, 1) := by decide +kernel
theorem dX7_changes_51 : decode cX7_changes 51 = .ok (.istore_n 1, 1) := by decide +kernel
theorem dX7_changes_52 : decode cX7_changes 52 = .ok (.iload_n 1, 1) := by decide +kernel
theorem dX7_changes_53 : decode cX7_changes 53 = .ok (.sipush 326, 3) := by decide +kernel
theorem dX7_changes_56 : decode cX7_changes 56 = .ok (.if_icmp .ge 30, 3) := by decide +kernel
theorem dX7_changes_59 : decode cX7_changes 59 = .ok (.aload_n 0, 1) := by decide +kernel
theorem dX7_changes_60 : decode cX7_changes 60 = .ok (.getfield 16, 3) := by decide +kernel
theorem dX7_changes_63 : decode cX7_changes 63 = .ok (.sipush 326, 3) := by decide +kernel
theorem dX7_changes_66 : decode cX7_changes 66 = .ok (.aload_n 0, 1) := by decide +kernel
theorem dX7_changes_67 : decode cX7_changes 67 = .ok (.getfield 37, 3) := by decide +kernel
theorem dX7_changes_70 : decode cX7_changes 70 = .ok (.imul, 1) := by decide +kernel
theorem dX7_changes_71 : decode cX7_changes 71 = .ok (.iload_n 1, 1) := by decide +kernel
theorem dX7_changes_72 : decode cX7_changes 72 = .ok (.iadd, 1) := by decide +kernel
theorem dX7_changes_73 : decode cX7_changes 73 = .ok (.aload_n 0, 1) := by decide +kernel
theorem dX7_changes_74 : decode cX7_changes 74 = .ok (.getfield 7, 3) := by decide +kernel
theorem dX7_changes_77 : decode cX7_changes 77 = .ok (.iload_n 1, 1) := by decide +kernel
theorem dX7_changes_78 : decode cX7_changes 78 = .ok (.iaload, 1) := by decide +kernel
theorem dX7_changes_79 : decode cX7_changes 79 = .ok (.iastore, 1) := by decide +kernel
theorem dX7_changes_80 : decode cX7_changes 80 = .ok (.iinc 1 1, 3) := by decide +kernel
theorem dX7_changes_83 : decode cX7_changes 83 = .ok (.goto (-31), 3) := by decide +kernel
theorem dX7_changes_86 : decode cX7_changes 86 = .ok (.aload_n 0, 1) := by decide +kernel
theorem dX7_changes_87 : decode cX7_changes 87 = .ok (.dup, 1) := by decide +kernel
theorem dX7_changes_88 : decode cX7_changes 88 = .ok (.getfield 37, 3) := by decide +kernel
theorem dX7_changes_91 : decode cX7_changes 91 = .ok (.iconst 1, 1) := by decide +kernel
theorem dX7_changes_92 : decode cX7_changes 92 = .ok (.iadd, 1) := by decide +kernel
theorem dX7_changes_93 : decode cX7_changes 93 = .ok (.putfield 37, 3) := by decide +kernel
theorem dX7_changes_96 : decode cX7_changes 96 = .ok (.return_, 1) := by decide +kernel
theorem dX7_keeps_0 : decode cX7_keeps 0 = .ok (.iconst 0, 1) := by decide +kernel
theorem dX7_keeps_1 : decode cX7_keeps 1 = .ok (.istore_n 1, 1) := by decide +kernel
theorem dX7_keeps_2 : decode cX7_keeps 2 = .ok (.iload_n 1, 1) := by decide +kernel
theorem dX7_keeps_3 : decode cX7_keeps 3 = .ok (.sipush 326, 3) := by decide +kernel
theorem dX7_keeps_6 : decode cX7_keeps 6 = .ok (.if_icmp .ge 21, 3) := by decide +kernel
theorem dX7_keeps_9 : decode cX7_keeps 9 = .ok (.aload_n 0, 1) := by decide +kernel
theorem dX7_keeps_10 : decode cX7_keeps 10 = .ok (.getfield 13, 3) := by decide +kernel
theorem dX7_keeps_13 : decode cX7_keeps 13 = .ok (.iload_n 1, 1) := by decide +kernel
theorem dX7_keeps_14 : decode cX7_keeps 14 = .ok (.aload_n 0, 1) := by decide +kernel
theorem dX7_keeps_15 : decode cX7_keeps 15 = .ok (.getfield 7, 3) := by decide +kernel
theorem dX7_keeps_18 : decode cX7_keeps 18 = .ok (.iload_n 1, 1) := by decide +kernel
theorem dX7_keeps_19 : decode cX7_keeps 19 = .ok (.iaload, 1) := by decide +kernel
theorem dX7_keeps_20 : decode cX7_keeps 20 = .ok (.iastore, 1) := by decide +kernel
theorem dX7_keeps_21 : decode cX7_keeps 21 = .ok (.iinc 1 1, 3) := by decide +kernel
theorem dX7_keeps_24 : decode cX7_keeps 24 = .ok (.goto (-22), 3) := by decide +kernel
theorem dX7_keeps_27 : decode cX7_keeps 27 = .ok (.return_, 1) := by decide +kernel
theorem dX7_comesBack_0 : decode cX7_comesBack 0 = .ok (.iconst 0, 1) := by decide +kernel
theorem dX7_comesBack_1 : decode cX7_comesBack 1 = .ok (.istore_n 1, 1) := by decide +kernel
theorem dX7_comesBack_2 : decode cX7_comesBack 2 = .ok (.iload_n 1, 1) := by decide +kernel
theorem dX7_comesBack_3 : decode cX7_comesBack 3 = .ok (.sipush 326, 3) := by decide +kernel
theorem dX7_comesBack_6 : decode cX7_comesBack 6 = .ok (.if_icmp .ge 21, 3) := by decide +kernel
theorem dX7_comesBack_9 : decode cX7_comesBack 9 = .ok (.aload_n 0, 1) := by decide +kernel
theorem dX7_comesBack_10 : decode cX7_comesBack 10 = .ok (.getfield 7, 3) := by decide +kernel
theorem dX7_comesBack_13 : decode cX7_comesBack 13 = .ok (.iload_n 1, 1) := by decide +kernel
theorem dX7_comesBack_14 : decode cX7_comesBack 14 = .ok (.aload_n 0, 1) := by decide +kernel
theorem dX7_comesBack_15 : decode cX7_comesBack 15 = .ok (.getfield 13, 3) := by decide +kernel
theorem dX7_comesBack_18 : decode cX7_comesBack 18 = .ok (.iload_n 1, 1) := by decide +kernel
theorem dX7_comesBack_19 : decode cX7_comesBack 19 = .ok (.iaload, 1) := by decide +kernel
theorem dX7_comesBack_20 : decode cX7_comesBack 20 = .ok (.iastore, 1) := by decide +kernel
theorem dX7_comesBack_21 : decode cX7_comesBack 21 = .ok (.iinc 1 1, 3) := by decide +kernel
theorem dX7_comesBack_24 : decode cX7_comesBack 24 = .ok (.goto (-22), 3) := by decide +kernel
theorem dX7_comesBack_27 : decode cX7_comesBack 27 = .ok (.return_, 1) := by decide +kernel
theorem ggX7_isWindow_X7_in : GoodIn wsX7_isWindow wsX7_in := goodIn_r _ [5] (by decide +kernel) (by decide +kernel)
theorem gX7_isWindow_X7_in : GoodIn wsX7_isWindow (va_wsS RX7 43 yX7_in wsX7_in) := goodIn_app (goodIn_of _ (by decide +kernel)) ggX7_isWindow_X7_in
theorem dX7_isWindow_0 : decode cX7_isWindow 0 = .ok (.iload_n 0, 1) := by decide +kernel
theorem dX7_isWindow_1 : decode cX7_isWindow 1 = .ok (.i2l, 1) := by decide +kernel
theorem dX7_isWindow_2 : decode cX7_isWindow 2 = .ok (.lconst 0, 1) := by decide +kernel
theorem dX7_isWindow_3 : decode cX7_isWindow 3 = .ok (.ldc2_w 41, 3) := by decide +kernel
theorem dX7_isWindow_6 : decode cX7_isWindow 6 = .ok (.invokestatic 43, 3) := by decide +kernel
theorem dX7_isWindow_9 : decode cX7_isWindow 9 = .ok (.ireturn, 1) := by decide +kernel
theorem ggX7_isPerson_X7_in : GoodIn wsX7_isPerson wsX7_in := goodIn_r _ [5] (by decide +kernel) (by decide +kernel)
theorem gX7_isPerson_X7_in : GoodIn wsX7_isPerson (va_wsS RX7 43 yX7_in wsX7_in) := goodIn_app (goodIn_of _ (by decide +kernel)) ggX7_isPerson_X7_in
theorem dX7_isPerson_0 : decode cX7_isPerson 0 = .ok (.iload_n 1, 1) := by decide +kernel
theorem dX7_isPerson_1 : decode cX7_isPerson 1 = .ok (.i2l, 1) := by decide +kernel
theorem dX7_isPerson_2 : decode cX7_isPerson 2 = .ok (.lconst 0, 1) := by decide +kernel
theorem dX7_isPerson_3 : decode cX7_isPerson 3 = .ok (.aload_n 0, 1) := by decide +kernel
theorem dX7_isPerson_4 : decode cX7_isPerson 4 = .ok (.getfield 7, 3) := by decide +kernel
theorem dX7_isPerson_7 : decode cX7_isPerson 7 = .ok (.iconst 4, 1) := by decide +kernel
theorem dX7_isPerson_8 : decode cX7_isPerson 8 = .ok (.iaload, 1) := by decide +kernel
theorem dX7_isPerson_9 : decode cX7_isPerson 9 = .ok (.i2l, 1) := by decide +kernel
theorem dX7_isPerson_10 : decode cX7_isPerson 10 = .ok (.lconst 1, 1) := by decide +kernel
theorem dX7_isPerson_11 : decode cX7_isPerson 11 = .ok (.lsub, 1) := by decide +kernel
theorem dX7_isPerson_12 : decode cX7_isPerson 12 = .ok (.invokestatic 43, 3) := by decide +kernel
theorem dX7_isPerson_15 : decode cX7_isPerson 15 = .ok (.ireturn, 1) := by decide +kernel
theorem dX7_get_0 : decode cX7_get 0 = .ok (.aload_n 0, 1) := by decide +kernel
theorem dX7_get_1 : decode cX7_get 1 = .ok (.getfield 7, 3) := by decide +kernel
theorem dX7_get_4 : decode cX7_get 4 = .ok (.bipush 38, 2) := by decide +kernel
theorem dX7_get_6 : decode cX7_get 6 = .ok (.bipush 12, 2) := by decide +kernel
theorem dX7_get_8 : decode cX7_get 8 = .ok (.iload_n 1, 1) := by decide +kernel
theorem dX7_get_9 : decode cX7_get 9 = .ok (.imul, 1) := by decide +kernel
theorem dX7_get_10 : decode cX7_get 10 = .ok (.iadd, 1) := by decide +kernel
theorem dX7_get_11 : decode cX7_get 11 = .ok (.iload_n 2, 1) := by decide +kernel
theorem dX7_get_12 : decode cX7_get 12 = .ok (.iadd, 1) := by decide +kernel
theorem dX7_get_13 : decode cX7_get 13 = .ok (.iaload, 1) := by decide +kernel
theorem dX7_get_14 : decode cX7_get 14 = .ok (.ireturn, 1) := by decide +kernel
theorem dX7_lays_0 : decode cX7_lays 0 = .ok (.aload_n 0, 1) := by decide +kernel
theorem dX7_lays_1 : decode cX7_lays 1 = .ok (.getfield 7, 3) := by decide +kernel
theorem dX7_lays_4 : decode cX7_lays 4 = .ok (.bipush 38, 2) := by decide +kernel
theorem dX7_lays_6 : decode cX7_lays 6 = .ok (.bipush 12, 2) := by decide +kernel
theorem dX7_lays_8 : decode cX7_lays 8 = .ok (.iload_n 1, 1) := by decide +kernel
theorem dX7_lays_9 : decode cX7_lays 9 = .ok (.imul, 1) := by decide +kernel
theorem dX7_lays_10 : decode cX7_lays 10 = .ok (.iadd, 1) := by decide +kernel
theorem dX7_lays_11 : decode cX7_lays 11 = .ok (.iload_n 2, 1) := by decide +kernel
theorem dX7_lays_12 : decode cX7_lays 12 = .ok (.iadd, 1) := by decide +kernel
theorem dX7_lays_13 : decode cX7_lays 13 = .ok (.iload_n 3, 1) := by decide +kernel
theorem dX7_lays_14 : decode cX7_lays 14 = .ok (.iastore, 1) := by decide +kernel
theorem dX7_lays_15 : decode cX7_lays 15 = .ok (.return_, 1) := by decide +kernel
theorem dX7_more_0 : decode cX7_more 0 = .ok (.aload_n 0, 1) := by decide +kernel
theorem dX7_more_1 : decode cX7_more 1 = .ok (.getfield 7, 3) := by decide +kernel
theorem dX7_more_4 : decode cX7_more 4 = .ok (.bipush 38, 2) := by decide +kernel
theorem dX7_more_6 : decode cX7_more 6 = .ok (.bipush 12, 2) := by decide +kernel
theorem dX7_more_8 : decode cX7_more 8 = .ok (.iload_n 1, 1) := by decide +kernel
theorem dX7_more_9 : decode cX7_more 9 = .ok (.imul, 1) := by decide +kernel
theorem dX7_more_10 : decode cX7_more 10 = .ok (.iadd, 1) := by decide +kernel
theorem dX7_more_11 : decode cX7_more 11 = .ok (.iload_n 2, 1) := by decide +kernel
theorem dX7_more_12 : decode cX7_more 12 = .ok (.iadd, 1) := by decide +kernel
theorem dX7_more_13 : decode cX7_more 13 = .ok (.dup2, 1) := by decide +kernel
theorem dX7_more_14 : decode cX7_more 14 = .ok (.iaload, 1) := by decide +kernel
theorem dX7_more_15 : decode cX7_more 15 = .ok (.iconst 1, 1) := by decide +kernel
theorem dX7_more_16 : decode cX7_more 16 = .ok (.iadd, 1) := by decide +kernel
theorem dX7_more_17 : decode cX7_more 17 = .ok (.iastore, 1) := by decide +kernel
theorem dX7_more_18 : decode cX7_more 18 = .ok (.return_, 1) := by decide +kernel
theorem ggX7_windowAt_X7_get : GoodIn wsX7_windowAt wsX7_get := goodIn_r _ [5, 6, 7, 8, 9, 10, 11, 12, 13, 14, 15, 16, 17, 18] (by decide +kernel) (by decide +kernel)
theorem gX7_windowAt_X7_get : GoodIn wsX7_windowAt (wsV RX7 47 RX7 yX7_get wsX7_get) := goodIn_app (goodIn_of _ (by decide +kernel)) ggX7_windowAt_X7_get
theorem dX7_windowAt_0 : decode cX7_windowAt 0 = .ok (.aload_n 0, 1) := by decide +kernel
theorem dX7_windowAt_1 : decode cX7_windowAt 1 = .ok (.iload_n 1, 1) := by decide +kernel
theorem dX7_windowAt_2 : decode cX7_windowAt 2 = .ok (.iconst 3, 1) := by decide +kernel
theorem dX7_windowAt_3 : decode cX7_windowAt 3 = .ok (.invokevirtual 47, 3) := by decide +kernel
theorem dX7_windowAt_6 : decode cX7_windowAt 6 = .ok (.iconst 3, 1) := by decide +kernel
theorem dX7_windowAt_7 : decode cX7_windowAt 7 = .ok (.aload_n 0, 1) := by decide +kernel
theorem dX7_windowAt_8 : decode cX7_windowAt 8 = .ok (.iload_n 1, 1) := by decide +kernel
theorem dX7_windowAt_9 : decode cX7_windowAt 9 = .ok (.iconst 1, 1) := by decide +kernel
theorem dX7_windowAt_10 : decode cX7_windowAt 10 = .ok (.invokevirtual 47, 3) := by decide +kernel
theorem dX7_windowAt_13 : decode cX7_windowAt 13 = .ok (.imul, 1) := by decide +kernel
theorem dX7_windowAt_14 : decode cX7_windowAt 14 = .ok (.ishr, 1) := by decide +kernel
theorem dX7_windowAt_15 : decode cX7_windowAt 15 = .ok (.bipush 7, 2) := by decide +kernel
theorem dX7_windowAt_17 : decode cX7_windowAt 17 = .ok (.iand, 1) := by decide +kernel
theorem dX7_windowAt_18 : decode cX7_windowAt 18 = .ok (.ireturn, 1) := by decide +kernel
theorem ggX7_isAt_X7_get : GoodIn wsX7_isAt wsX7_get := goodIn_r _ [5, 6, 11, 12, 13, 14, 15, 16, 17, 18, 19, 20, 21, 22] (by decide +kernel) (by decide +kernel)
theorem gX7_isAt_X7_get : GoodIn wsX7_isAt (wsV RX7 47 RX7 yX7_get wsX7_get) := goodIn_app (goodIn_of _ (by decide +kernel)) ggX7_isAt_X7_get
theorem ggX7_isAt_X7_windowAt : GoodIn wsX7_isAt wsX7_windowAt := goodIn_r _ [10, 1, 2, 3, 4, 5, 6, 11, 12, 13, 14, 15, 16, 17, 18, 19, 20, 21, 22] (by decide +kernel) (by decide +kernel)
theorem gX7_isAt_X7_windowAt : GoodIn wsX7_isAt (wsV RX7 51 RX7 yX7_windowAt wsX7_windowAt) := goodIn_app (goodIn_of _ (by decide +kernel)) ggX7_isAt_X7_windowAt
theorem dX7_isAt_0 : decode cX7_isAt 0 = .ok (.aload_n 0, 1) := by decide +kernel
theorem dX7_isAt_1 : decode cX7_isAt 1 = .ok (.iload_n 1, 1) := by decide +kernel
theorem dX7_isAt_2 : decode cX7_isAt 2 = .ok (.iconst 0, 1) := by decide +kernel
theorem dX7_isAt_3 : decode cX7_isAt 3 = .ok (.invokevirtual 47, 3) := by decide +kernel
theorem dX7_isAt_6 : decode cX7_isAt 6 = .ok (.iload_n 2, 1) := by decide +kernel
theorem dX7_isAt_7 : decode cX7_isAt 7 = .ok (.if_icmp .ne 16, 3) := by decide +kernel
theorem dX7_isAt_10 : decode cX7_isAt 10 = .ok (.aload_n 0, 1) := by decide +kernel
theorem dX7_isAt_11 : decode cX7_isAt 11 = .ok (.iload_n 1, 1) := by decide +kernel
theorem dX7_isAt_12 : decode cX7_isAt 12 = .ok (.invokevirtual 51, 3) := by decide +kernel
theorem dX7_isAt_15 : decode cX7_isAt 15 = .ok (.iload_n 3, 1) := by decide +kernel
theorem dX7_isAt_16 : decode cX7_isAt 16 = .ok (.if_icmp .ne 7, 3) := by decide +kernel
theorem dX7_isAt_19 : decode cX7_isAt 19 = .ok (.iconst 1, 1) := by decide +kernel
theorem dX7_isAt_20 : decode cX7_isAt 20 = .ok (.goto 4, 3) := by decide +kernel
theorem dX7_isAt_23 : decode cX7_isAt 23 = .ok (.iconst 0, 1) := by decide +kernel
theorem dX7_isAt_24 : decode cX7_isAt 24 = .ok (.ireturn, 1) := by decide +kernel
theorem ggX7_manyAt_X7_isAt : GoodIn wsX7_manyAt wsX7_isAt := goodIn_r _ [6, 7, 8, 9, 5, 10, 1, 11, 12, 13, 14, 15, 16, 17, 18, 19, 20, 21, 22, 23, 24, 25, 26] (by decide +kernel) (by decide +kernel)
theorem gX7_manyAt_X7_isAt : GoodIn wsX7_manyAt (wsV RX7 55 RX7 yX7_isAt wsX7_isAt) := goodIn_app (goodIn_of _ (by decide +kernel)) ggX7_manyAt_X7_isAt
theorem dX7_manyAt_0 : decode cX7_manyAt 0 = .ok (.iconst 0, 1) := by decide +kernel
theorem dX7_manyAt_1 : decode cX7_manyAt 1 = .ok (.istore_n 3, 1) := by decide +kernel
theorem dX7_manyAt_2 : decode cX7_manyAt 2 = .ok (.iconst 0, 1) := by decide +kernel
theorem dX7_manyAt_3 : decode cX7_manyAt 3 = .ok (.istore 4, 2) := by decide +kernel
theorem dX7_manyAt_5 : decode cX7_manyAt 5 = .ok (.iload 4, 2) := by decide +kernel
theorem dX7_manyAt_7 : decode cX7_manyAt 7 = .ok (.aload_n 0, 1) := by decide +kernel
theorem dX7_manyAt_8 : decode cX7_manyAt 8 = .ok (.getfield 7, 3) := by decide +kernel
theorem dX7_manyAt_11 : decode cX7_manyAt 11 = .ok (.iconst 4, 1) := by decide +kernel
theorem dX7_manyAt_12 : decode cX7_manyAt 12 = .ok (.iaload, 1) := by decide +kernel
theorem dX7_manyAt_13 : decode cX7_manyAt 13 = .ok (.if_icmp .ge 28, 3) := by decide +kernel
theorem dX7_manyAt_16 : decode cX7_manyAt 16 = .ok (.iload_n 3, 1) := by decide +kernel
theorem dX7_manyAt_17 : decode cX7_manyAt 17 = .ok (.aload_n 0, 1) := by decide +kernel
theorem dX7_manyAt_18 : decode cX7_manyAt 18 = .ok (.iload 4, 2) := by decide +kernel
theorem dX7_manyAt_20 : decode cX7_manyAt 20 = .ok (.iload_n 1, 1) := by decide +kernel
theorem dX7_manyAt_21 : decode cX7_manyAt 21 = .ok (.iload_n 2, 1) := by decide +kernel
theorem dX7_manyAt_22 : decode cX7_manyAt 22 = .ok (.invokevirtual 55, 3) := by decide +kernel
theorem dX7_manyAt_25 : decode cX7_manyAt 25 = .ok (.ifCond .eq 7, 3) := by decide +kernel
theorem dX7_manyAt_28 : decode cX7_manyAt 28 = .ok (.iconst 1, 1) := by decide +kernel
theorem dX7_manyAt_29 : decode cX7_manyAt 29 = .ok (.goto 4, 3) := by decide +kernel
theorem dX7_manyAt_32 : decode cX7_manyAt 32 = .ok (.iconst 0, 1) := by decide +kernel
theorem dX7_manyAt_33 : decode cX7_manyAt 33 = .ok (.iadd, 1) := by decide +kernel
theorem dX7_manyAt_34 : decode cX7_manyAt 34 = .ok (.istore_n 3, 1) := by decide +kernel
theorem dX7_manyAt_35 : decode cX7_manyAt 35 = .ok (.iinc 4 1, 3) := by decide +kernel
theorem dX7_manyAt_38 : decode cX7_manyAt 38 = .ok (.goto (-33), 3) := by decide +kernel
theorem dX7_manyAt_41 : decode cX7_manyAt 41 = .ok (.iload_n 3, 1) := by decide +kernel
theorem dX7_manyAt_42 : decode cX7_manyAt 42 = .ok (.ireturn, 1) := by decide +kernel
theorem ggX7_thatAre_X7_get : GoodIn wsX7_thatAre wsX7_get := goodIn_r _ [6, 1, 7, 8, 9, 10, 11, 12, 13, 14, 15, 16, 17, 18] (by decide +kernel) (by decide +kernel)
theorem gX7_thatAre_X7_get : GoodIn wsX7_thatAre (wsV RX7 47 RX7 yX7_get wsX7_get) := goodIn_app (goodIn_of _ (by decide +kernel)) ggX7_thatAre_X7_get
theorem dX7_thatAre_0 : decode cX7_thatAre 0 = .ok (.iconst 0, 1) := by decide +kernel
theorem dX7_thatAre_1 : decode cX7_thatAre 1 = .ok (.istore_n 2, 1) := by decide +kernel
theorem dX7_thatAre_2 : decode cX7_thatAre 2 = .ok (.iconst 0, 1) := by decide +kernel
theorem dX7_thatAre_3 : decode cX7_thatAre 3 = .ok (.istore_n 3, 1) := by decide +kernel
theorem dX7_thatAre_4 : decode cX7_thatAre 4 = .ok (.iload_n 3, 1) := by decide +kernel
theorem dX7_thatAre_5 : decode cX7_thatAre 5 = .ok (.aload_n 0, 1) := by decide +kernel
theorem dX7_thatAre_6 : decode cX7_thatAre 6 = .ok (.getfield 7, 3) := by decide +kernel
theorem dX7_thatAre_9 : decode cX7_thatAre 9 = .ok (.iconst 4, 1) := by decide +kernel
theorem dX7_thatAre_10 : decode cX7_thatAre 10 = .ok (.iaload, 1) := by decide +kernel
theorem dX7_thatAre_11 : decode cX7_thatAre 11 = .ok (.if_icmp .ge 27, 3) := by decide +kernel
theorem dX7_thatAre_14 : decode cX7_thatAre 14 = .ok (.iload_n 2, 1) := by decide +kernel
theorem dX7_thatAre_15 : decode cX7_thatAre 15 = .ok (.aload_n 0, 1) := by decide +kernel
theorem dX7_thatAre_16 : decode cX7_thatAre 16 = .ok (.iload_n 3, 1) := by decide +kernel
theorem dX7_thatAre_17 : decode cX7_thatAre 17 = .ok (.iconst 0, 1) := by decide +kernel
theorem dX7_thatAre_18 : decode cX7_thatAre 18 = .ok (.invokevirtual 47, 3) := by decide +kernel
theorem dX7_thatAre_21 : decode cX7_thatAre 21 = .ok (.iload_n 1, 1) := by decide +kernel
theorem dX7_thatAre_22 : decode cX7_thatAre 22 = .ok (.if_icmp .ne 7, 3) := by decide +kernel
theorem dX7_thatAre_25 : decode cX7_thatAre 25 = .ok (.iconst 1, 1) := by decide +kernel
theorem dX7_thatAre_26 : decode cX7_thatAre 26 = .ok (.goto 4, 3) := by decide +kernel
theorem dX7_thatAre_29 : decode cX7_thatAre 29 = .ok (.iconst 0, 1) := by decide +kernel
theorem dX7_thatAre_30 : decode cX7_thatAre 30 = .ok (.iadd, 1) := by decide +kernel
theorem dX7_thatAre_31 : decode cX7_thatAre 31 = .ok (.istore_n 2, 1) := by decide +kernel
theorem dX7_thatAre_32 : decode cX7_thatAre 32 = .ok (.iinc 3 1, 3) := by decide +kernel
theorem dX7_thatAre_35 : decode cX7_thatAre 35 = .ok (.goto (-31), 3) := by decide +kernel
theorem dX7_thatAre_38 : decode cX7_thatAre 38 = .ok (.iload_n 2, 1) := by decide +kernel
theorem dX7_thatAre_39 : decode cX7_thatAre 39 = .ok (.ireturn, 1) := by decide +kernel
theorem ggX7_firstAt_X7_isAt : GoodIn wsX7_firstAt wsX7_isAt := goodIn_r _ [6, 7, 8, 9, 5, 10, 1, 11, 12, 13, 14, 15, 16, 17, 18, 19, 20, 21, 22, 23, 24, 25, 26] (by decide +kernel) (by decide +kernel)
theorem gX7_firstAt_X7_isAt : GoodIn wsX7_firstAt (wsV RX7 55 RX7 yX7_isAt wsX7_isAt) := goodIn_app (goodIn_of _ (by decide +kernel)) ggX7_firstAt_X7_isAt
theorem ggX7_firstAt_X7_get : GoodIn wsX7_firstAt wsX7_get := goodIn_r _ [10, 1, 15, 16, 17, 18, 19, 20, 21, 22, 23, 24, 25, 26] (by decide +kernel) (by decide +kernel)
theorem gX7_firstAt_X7_get : GoodIn wsX7_firstAt (wsV RX7 47 RX7 yX7_get wsX7_get) := goodIn_app (goodIn_of _ (by decide +kernel)) ggX7_firstAt_X7_get
theorem dX7_firstAt_0 : decode cX7_firstAt 0 = .ok (.bipush (-6), 2) := by decide +kernel
theorem dX7_firstAt_2 : decode cX7_firstAt 2 = .ok (.istore 4, 2) := by decide +kernel
theorem dX7_firstAt_4 : decode cX7_firstAt 4 = .ok (.iconst 0, 1) := by decide +kernel
theorem dX7_firstAt_5 : decode cX7_firstAt 5 = .ok (.istore 5, 2) := by decide +kernel
theorem dX7_firstAt_7 : decode cX7_firstAt 7 = .ok (.iload 5, 2) := by decide +kernel
theorem dX7_firstAt_9 : decode cX7_firstAt 9 = .ok (.aload_n 0, 1) := by decide +kernel
theorem dX7_firstAt_10 : decode cX7_firstAt 10 = .ok (.getfield 7, 3) := by decide +kernel
theorem dX7_firstAt_13 : decode cX7_firstAt 13 = .ok (.iconst 4, 1) := by decide +kernel
theorem dX7_firstAt_14 : decode cX7_firstAt 14 = .ok (.iaload, 1) := by decide +kernel
theorem dX7_firstAt_15 : decode cX7_firstAt 15 = .ok (.if_icmp .ge 67, 3) := by decide +kernel
theorem dX7_firstAt_18 : decode cX7_firstAt 18 = .ok (.aload_n 0, 1) := by decide +kernel
theorem dX7_firstAt_19 : decode cX7_firstAt 19 = .ok (.iload 5, 2) := by decide +kernel
theorem dX7_firstAt_21 : decode cX7_firstAt 21 = .ok (.iload_n 1, 1) := by decide +kernel
theorem dX7_firstAt_22 : decode cX7_firstAt 22 = .ok (.iload_n 2, 1) := by decide +kernel
theorem dX7_firstAt_23 : decode cX7_firstAt 23 = .ok (.invokevirtual 55, 3) := by decide +kernel
theorem dX7_firstAt_26 : decode cX7_firstAt 26 = .ok (.ifCond .eq 50, 3) := by decide +kernel
theorem dX7_firstAt_29 : decode cX7_firstAt 29 = .ok (.aload_n 0, 1) := by decide +kernel
theorem dX7_firstAt_30 : decode cX7_firstAt 30 = .ok (.iload 5, 2) := by decide +kernel
theorem dX7_firstAt_32 : decode cX7_firstAt 32 = .ok (.bipush 10, 2) := by decide +kernel
theorem dX7_firstAt_34 : decode cX7_firstAt 34 = .ok (.invokevirtual 47, 3) := by decide +kernel
theorem dX7_firstAt_37 : decode cX7_firstAt 37 = .ok (.iload_n 3, 1) := by decide +kernel
theorem dX7_firstAt_38 : decode cX7_firstAt 38 = .ok (.if_icmp .le 38, 3) := by decide +kernel
theorem dX7_firstAt_41 : decode cX7_firstAt 41 = .ok (.iload 4, 2) := by decide +kernel
theorem dX7_firstAt_43 : decode cX7_firstAt 43 = .ok (.bipush (-6), 2) := by decide +kernel
theorem dX7_firstAt_45 : decode cX7_firstAt 45 = .ok (.if_icmp .eq 22, 3) := by decide +kernel
theorem dX7_firstAt_48 : decode cX7_firstAt 48 = .ok (.aload_n 0, 1) := by decide +kernel
theorem dX7_firstAt_49 : decode cX7_firstAt 49 = .ok (.iload 5, 2) := by decide +kernel
theorem dX7_firstAt_51 : decode cX7_firstAt 51 = .ok (.bipush 10, 2) := by decide +kernel
theorem dX7_firstAt_53 : decode cX7_firstAt 53 = .ok (.invokevirtual 47, 3) := by decide +kernel
theorem dX7_firstAt_56 : decode cX7_firstAt 56 = .ok (.aload_n 0, 1) := by decide +kernel
theorem dX7_firstAt_57 : decode cX7_firstAt 57 = .ok (.iload 4, 2) := by decide +kernel
theorem dX7_firstAt_59 : decode cX7_firstAt 59 = .ok (.bipush 10, 2) := by decide +kernel
theorem dX7_firstAt_61 : decode cX7_firstAt 61 = .ok (.invokevirtual 47, 3) := by decide +kernel
theorem dX7_firstAt_64 : decode cX7_firstAt 64 = .ok (.if_icmp .ge 8, 3) := by decide +kernel
theorem dX7_firstAt_67 : decode cX7_firstAt 67 = .ok (.iload 5, 2) := by decide +kernel
theorem dX7_firstAt_69 : decode cX7_firstAt 69 = .ok (.goto 5, 3) := by decide +kernel
theorem dX7_firstAt_72 : decode cX7_firstAt 72 = .ok (.iload 4, 2) := by decide +kernel
theorem dX7_firstAt_74 : decode cX7_firstAt 74 = .ok (.istore 4, 2) := by decide +kernel
theorem dX7_firstAt_76 : decode cX7_firstAt 76 = .ok (.iinc 5 1, 3) := by decide +kernel
theorem dX7_firstAt_79 : decode cX7_firstAt 79 = .ok (.goto (-72), 3) := by decide +kernel
theorem dX7_firstAt_82 : decode cX7_firstAt 82 = .ok (.iload 4, 2) := by decide +kernel
theorem dX7_firstAt_84 : decode cX7_firstAt 84 = .ok (.ireturn, 1) := by decide +kernel
theorem ggX7_ranks_X7_lays : GoodIn wsX7_ranks wsX7_lays := goodIn_r _ [6, 1, 7, 8, 9, 10, 11, 12, 13, 14, 15, 16, 17, 18] (by decide +kernel) (by decide +kernel)
theorem gX7_ranks_X7_lays : GoodIn wsX7_ranks (wsV RX7 59 RX7 yX7_lays wsX7_lays) := goodIn_app (goodIn_of _ (by decide +kernel)) ggX7_ranks_X7_lays
theorem dX7_ranks_0 : decode cX7_ranks 0 = .ok (.aload_n 0, 1) := by decide +kernel
theorem dX7_ranks_1 : decode cX7_ranks 1 = .ok (.getfield 7, 3) := by decide +kernel
theorem dX7_ranks_4 : decode cX7_ranks 4 = .ok (.bipush 7, 2) := by decide +kernel
theorem dX7_ranks_6 : decode cX7_ranks 6 = .ok (.dup2, 1) := by decide +kernel
theorem dX7_ranks_7 : decode cX7_ranks 7 = .ok (.iaload, 1) := by decide +kernel
theorem dX7_ranks_8 : decode cX7_ranks 8 = .ok (.iconst 1, 1) := by decide +kernel
theorem dX7_ranks_9 : decode cX7_ranks 9 = .ok (.iadd, 1) := by decide +kernel
theorem dX7_ranks_10 : decode cX7_ranks 10 = .ok (.iastore, 1) := by decide +kernel
theorem dX7_ranks_11 : decode cX7_ranks 11 = .ok (.aload_n 0, 1) := by decide +kernel
theorem dX7_ranks_12 : decode cX7_ranks 12 = .ok (.iload_n 1, 1) := by decide +kernel
theorem dX7_ranks_13 : decode cX7_ranks 13 = .ok (.bipush 10, 2) := by decide +kernel
theorem dX7_ranks_15 : decode cX7_ranks 15 = .ok (.aload_n 0, 1) := by decide +kernel
theorem dX7_ranks_16 : decode cX7_ranks 16 = .ok (.getfield 7, 3) := by decide +kernel
theorem dX7_ranks_19 : decode cX7_ranks 19 = .ok (.bipush 7, 2) := by decide +kernel
theorem dX7_ranks_21 : decode cX7_ranks 21 = .ok (.iaload, 1) := by decide +kernel
theorem dX7_ranks_22 : decode cX7_ranks 22 = .ok (.invokevirtual 59, 3) := by decide +kernel
theorem dX7_ranks_25 : decode cX7_ranks 25 = .ok (.return_, 1) := by decide +kernel
theorem ggX7_queues_X7_lays : GoodIn wsX7_queues wsX7_lays := goodIn_r _ [6, 7, 12, 13, 14, 15, 16, 17, 18, 19, 20, 21, 22, 23] (by decide +kernel) (by decide +kernel)
theorem gX7_queues_X7_lays : GoodIn wsX7_queues (wsV RX7 59 RX7 yX7_lays wsX7_lays) := goodIn_app (goodIn_of _ (by decide +kernel)) ggX7_queues_X7_lays
theorem ggX7_queues_X7_ranks : GoodIn wsX7_queues wsX7_ranks := goodIn_r _ [11, 7, 2, 3, 4, 5, 6, 12, 13, 14, 15, 16, 17, 18, 19, 20, 21, 22, 23] (by decide +kernel) (by decide +kernel)
theorem gX7_queues_X7_ranks : GoodIn wsX7_queues (wsV RX7 63 RX7 yX7_ranks wsX7_ranks) := goodIn_app (goodIn_of _ (by decide +kernel)) ggX7_queues_X7_ranks
theorem dX7_queues_0 : decode cX7_queues 0 = .ok (.aload_n 0, 1) := by decide +kernel
theorem dX7_queues_1 : decode cX7_queues 1 = .ok (.iload_n 1, 1) := by decide +kernel
theorem dX7_queues_2 : decode cX7_queues 2 = .ok (.iconst 0, 1) := by decide +kernel
theorem dX7_queues_3 : decode cX7_queues 3 = .ok (.iconst 0, 1) := by decide +kernel
theorem dX7_queues_4 : decode cX7_queues 4 = .ok (.invokevirtual 59, 3) := by decide +kernel
theorem dX7_queues_7 : decode cX7_queues 7 = .ok (.aload_n 0, 1) := by decide +kernel
theorem dX7_queues_8 : decode cX7_queues 8 = .ok (.iload_n 1, 1) := by decide +kernel
theorem dX7_queues_9 : decode cX7_queues 9 = .ok (.bipush 8, 2) := by decide +kernel
theorem dX7_queues_11 : decode cX7_queues 11 = .ok (.iconst 0, 1) := by decide +kernel
theorem dX7_queues_12 : decode cX7_queues 12 = .ok (.invokevirtual 59, 3) := by decide +kernel
theorem dX7_queues_15 : decode cX7_queues 15 = .ok (.aload_n 0, 1) := by decide +kernel
theorem dX7_queues_16 : decode cX7_queues 16 = .ok (.iload_n 1, 1) := by decide +kernel
theorem dX7_queues_17 : decode cX7_queues 17 = .ok (.invokevirtual 63, 3) := by decide +kernel
theorem dX7_queues_20 : decode cX7_queues 20 = .ok (.aload_n 0, 1) := by decide +kernel
theorem dX7_queues_21 : decode cX7_queues 21 = .ok (.getfield 25, 3) := by decide +kernel
theorem dX7_queues_24 : decode cX7_queues 24 = .ok (.iload_n 1, 1) := by decide +kernel
theorem dX7_queues_25 : decode cX7_queues 25 = .ok (.iconst 1, 1) := by decide +kernel
theorem dX7_queues_26 : decode cX7_queues 26 = .ok (.iastore, 1) := by decide +kernel
theorem dX7_queues_27 : decode cX7_queues 27 = .ok (.return_, 1) := by decide +kernel
theorem ggX7_ends_X7_lays : GoodIn wsX7_ends wsX7_lays := goodIn_r _ [5, 6, 7, 8, 9, 10, 11, 12, 13, 14, 15, 16, 17, 18] (by decide +kernel) (by decide +kernel)
theorem gX7_ends_X7_lays : GoodIn wsX7_ends (wsV RX7 59 RX7 yX7_lays wsX7_lays) := goodIn_app (goodIn_of _ (by decide +kernel)) ggX7_ends_X7_lays
theorem dX7_ends_0 : decode cX7_ends 0 = .ok (.aload_n 0, 1) := by decide +kernel
theorem dX7_ends_1 : decode cX7_ends 1 = .ok (.iload_n 1, 1) := by decide +kernel
theorem dX7_ends_2 : decode cX7_ends 2 = .ok (.iconst 0, 1) := by decide +kernel
theorem dX7_ends_3 : decode cX7_ends 3 = .ok (.iload_n 2, 1) := by decide +kernel
theorem dX7_ends_4 : decode cX7_ends 4 = .ok (.invokevirtual 59, 3) := by decide +kernel
theorem dX7_ends_7 : decode cX7_ends 7 = .ok (.aload_n 0, 1) := by decide +kernel
theorem dX7_ends_8 : decode cX7_ends 8 = .ok (.iload_n 1, 1) := by decide +kernel
theorem dX7_ends_9 : decode cX7_ends 9 = .ok (.bipush 7, 2) := by decide +kernel
theorem dX7_ends_11 : decode cX7_ends 11 = .ok (.iload_n 3, 1) := by decide +kernel
theorem dX7_ends_12 : decode cX7_ends 12 = .ok (.invokevirtual 59, 3) := by decide +kernel
theorem dX7_ends_15 : decode cX7_ends 15 = .ok (.aload_n 0, 1) := by decide +kernel
theorem dX7_ends_16 : decode cX7_ends 16 = .ok (.iload_n 1, 1) := by decide +kernel
theorem dX7_ends_17 : decode cX7_ends 17 = .ok (.iconst 4, 1) := by decide +kernel
theorem dX7_ends_18 : decode cX7_ends 18 = .ok (.iconst 0, 1) := by decide +kernel
theorem dX7_ends_19 : decode cX7_ends 19 = .ok (.invokevirtual 59, 3) := by decide +kernel
theorem dX7_ends_22 : decode cX7_ends 22 = .ok (.return_, 1) := by decide +kernel
theorem ggX7_leavesFor_X7_get : GoodIn wsX7_leavesFor wsX7_get := goodIn_r _ [6, 1, 15, 16, 17, 18, 19, 20, 21, 22, 23, 24, 25, 26] (by decide +kernel) (by decide +kernel)
theorem gX7_leavesFor_X7_get : GoodIn wsX7_leavesFor (wsV RX7 47 RX7 yX7_get wsX7_get) := goodIn_app (goodIn_of _ (by decide +kernel)) ggX7_leavesFor_X7_get
theorem ggX7_leavesFor_X7_ends : GoodIn wsX7_leavesFor wsX7_ends := goodIn_r _ [10, 11, 12, 13, 5, 14, 1, 15, 16, 17, 18, 19, 20, 21, 22, 23, 24, 25, 26] (by decide +kernel) (by decide +kernel)
theorem gX7_leavesFor_X7_ends : GoodIn wsX7_leavesFor (wsV RX7 67 RX7 yX7_ends wsX7_ends) := goodIn_app (goodIn_of _ (by decide +kernel)) ggX7_leavesFor_X7_ends
theorem dX7_leavesFor_0 : decode cX7_leavesFor 0 = .ok (.aload_n 0, 1) := by decide +kernel
theorem dX7_leavesFor_1 : decode cX7_leavesFor 1 = .ok (.getfield 7, 3) := by decide +kernel
theorem dX7_leavesFor_4 : decode cX7_leavesFor 4 = .ok (.iconst 5, 1) := by decide +kernel
theorem dX7_leavesFor_5 : decode cX7_leavesFor 5 = .ok (.dup2, 1) := by decide +kernel
theorem dX7_leavesFor_6 : decode cX7_leavesFor 6 = .ok (.iaload, 1) := by decide +kernel
theorem dX7_leavesFor_7 : decode cX7_leavesFor 7 = .ok (.aload_n 0, 1) := by decide +kernel
theorem dX7_leavesFor_8 : decode cX7_leavesFor 8 = .ok (.iload_n 1, 1) := by decide +kernel
theorem dX7_leavesFor_9 : decode cX7_leavesFor 9 = .ok (.iconst 4, 1) := by decide +kernel
theorem dX7_leavesFor_10 : decode cX7_leavesFor 10 = .ok (.invokevirtual 47, 3) := by decide +kernel
theorem dX7_leavesFor_13 : decode cX7_leavesFor 13 = .ok (.iadd, 1) := by decide +kernel
theorem dX7_leavesFor_14 : decode cX7_leavesFor 14 = .ok (.iastore, 1) := by decide +kernel
theorem dX7_leavesFor_15 : decode cX7_leavesFor 15 = .ok (.aload_n 0, 1) := by decide +kernel
theorem dX7_leavesFor_16 : decode cX7_leavesFor 16 = .ok (.iload_n 1, 1) := by decide +kernel
theorem dX7_leavesFor_17 : decode cX7_leavesFor 17 = .ok (.iconst 3, 1) := by decide +kernel
theorem dX7_leavesFor_18 : decode cX7_leavesFor 18 = .ok (.iload_n 2, 1) := by decide +kernel
theorem dX7_leavesFor_19 : decode cX7_leavesFor 19 = .ok (.invokevirtual 67, 3) := by decide +kernel
theorem dX7_leavesFor_22 : decode cX7_leavesFor 22 = .ok (.return_, 1) := by decide +kernel
theorem ggX7_served_X7_get : GoodIn wsX7_served wsX7_get := goodIn_r _ [6, 1, 28, 29, 30, 31, 32, 33, 34, 35, 36, 37, 38, 39] (by decide +kernel) (by decide +kernel)
theorem gX7_served_X7_get : GoodIn wsX7_served (wsV RX7 47 RX7 yX7_get wsX7_get) := goodIn_app (goodIn_of _ (by decide +kernel)) ggX7_served_X7_get
theorem ggX7_served_X7_more : GoodIn wsX7_served wsX7_more := goodIn_r _ [10, 1, 28, 29, 30, 31, 32, 33, 34, 35, 36, 37, 38, 39] (by decide +kernel) (by decide +kernel)
theorem gX7_served_X7_more : GoodIn wsX7_served (wsV RX7 70 RX7 yX7_more wsX7_more) := goodIn_app (goodIn_of _ (by decide +kernel)) ggX7_served_X7_more
theorem ggX7_served_X7_ends : GoodIn wsX7_served wsX7_ends := goodIn_r _ [14, 15, 16, 17, 5, 18, 1, 28, 29, 30, 31, 32, 33, 34, 35, 36, 37, 38, 39] (by decide +kernel) (by decide +kernel)
theorem gX7_served_X7_ends : GoodIn wsX7_served (wsV RX7 67 RX7 yX7_ends wsX7_ends) := goodIn_app (goodIn_of _ (by decide +kernel)) ggX7_served_X7_ends
theorem ggX7_served_X7_lays : GoodIn wsX7_served wsX7_lays := goodIn_r _ [18, 1, 28, 29, 30, 31, 32, 33, 34, 35, 36, 37, 38, 39] (by decide +kernel) (by decide +kernel)
theorem gX7_served_X7_lays : GoodIn wsX7_served (wsV RX7 59 RX7 yX7_lays wsX7_lays) := goodIn_app (goodIn_of _ (by decide +kernel)) ggX7_served_X7_lays
theorem ggX7_served_X7_queues : GoodIn wsX7_served wsX7_queues := goodIn_r _ [22, 23, 15, 16, 17, 5, 18, 1, 24, 25, 26, 27, 28, 29, 30, 31, 32, 33, 34, 35, 36, 37, 38, 39] (by decide +kernel) (by decide +kernel)
theorem gX7_served_X7_queues : GoodIn wsX7_served (wsV RX7 74 RX7 yX7_queues wsX7_queues) := goodIn_app (goodIn_of _ (by decide +kernel)) ggX7_served_X7_queues
theorem dX7_served_0 : decode cX7_served 0 = .ok (.aload_n 0, 1) := by decide +kernel
theorem dX7_served_1 : decode cX7_served 1 = .ok (.getfield 7, 3) := by decide +kernel
theorem dX7_served_4 : decode cX7_served 4 = .ok (.bipush 26, 2) := by decide +kernel
theorem dX7_served_6 : decode cX7_served 6 = .ok (.iload_n 2, 1) := by decide +kernel
theorem dX7_served_7 : decode cX7_served 7 = .ok (.iadd, 1) := by decide +kernel
theorem dX7_served_8 : decode cX7_served 8 = .ok (.dup2, 1) := by decide +kernel
theorem dX7_served_9 : decode cX7_served 9 = .ok (.iaload, 1) := by decide +kernel
theorem dX7_served_10 : decode cX7_served 10 = .ok (.iconst 1, 1) := by decide +kernel
theorem dX7_served_11 : decode cX7_served 11 = .ok (.iadd, 1) := by decide +kernel
theorem dX7_served_12 : decode cX7_served 12 = .ok (.iastore, 1) := by decide +kernel
theorem dX7_served_13 : decode cX7_served 13 = .ok (.aload_n 0, 1) := by decide +kernel
theorem dX7_served_14 : decode cX7_served 14 = .ok (.iload_n 1, 1) := by decide +kernel
theorem dX7_served_15 : decode cX7_served 15 = .ok (.iconst 1, 1) := by decide +kernel
theorem dX7_served_16 : decode cX7_served 16 = .ok (.invokevirtual 47, 3) := by decide +kernel
theorem dX7_served_19 : decode cX7_served 19 = .ok (.aload_n 0, 1) := by decide +kernel
theorem dX7_served_20 : decode cX7_served 20 = .ok (.iload_n 1, 1) := by decide +kernel
theorem dX7_served_21 : decode cX7_served 21 = .ok (.iconst 2, 1) := by decide +kernel
theorem dX7_served_22 : decode cX7_served 22 = .ok (.invokevirtual 47, 3) := by decide +kernel
theorem dX7_served_25 : decode cX7_served 25 = .ok (.iconst 1, 1) := by decide +kernel
theorem dX7_served_26 : decode cX7_served 26 = .ok (.isub, 1) := by decide +kernel
theorem dX7_served_27 : decode cX7_served 27 = .ok (.if_icmp .ne 42, 3) := by decide +kernel
theorem dX7_served_30 : decode cX7_served 30 = .ok (.aload_n 0, 1) := by decide +kernel
theorem dX7_served_31 : decode cX7_served 31 = .ok (.getfield 7, 3) := by decide +kernel
theorem dX7_served_34 : decode cX7_served 34 = .ok (.bipush 20, 2) := by decide +kernel
theorem dX7_served_36 : decode cX7_served 36 = .ok (.iload_n 2, 1) := by decide +kernel
theorem dX7_served_37 : decode cX7_served 37 = .ok (.iadd, 1) := by decide +kernel
theorem dX7_served_38 : decode cX7_served 38 = .ok (.dup2, 1) := by decide +kernel
theorem dX7_served_39 : decode cX7_served 39 = .ok (.iaload, 1) := by decide +kernel
theorem dX7_served_40 : decode cX7_served 40 = .ok (.aload_n 0, 1) := by decide +kernel
theorem dX7_served_41 : decode cX7_served 41 = .ok (.iload_n 1, 1) := by decide +kernel
theorem dX7_served_42 : decode cX7_served 42 = .ok (.iconst 4, 1) := by decide +kernel
theorem dX7_served_43 : decode cX7_served 43 = .ok (.invokevirtual 47, 3) := by decide +kernel
theorem dX7_served_46 : decode cX7_served 46 = .ok (.iadd, 1) := by decide +kernel
theorem dX7_served_47 : decode cX7_served 47 = .ok (.iastore, 1) := by decide +kernel
theorem dX7_served_48 : decode cX7_served 48 = .ok (.aload_n 0, 1) := by decide +kernel
theorem dX7_served_49 : decode cX7_served 49 = .ok (.iload_n 1, 1) := by decide +kernel
theorem dX7_served_50 : decode cX7_served 50 = .ok (.iconst 1, 1) := by decide +kernel
theorem dX7_served_51 : decode cX7_served 51 = .ok (.invokevirtual 70, 3) := by decide +kernel
theorem dX7_served_54 : decode cX7_served 54 = .ok (.aload_n 0, 1) := by decide +kernel
theorem dX7_served_55 : decode cX7_served 55 = .ok (.iload_n 1, 1) := by decide +kernel
theorem dX7_served_56 : decode cX7_served 56 = .ok (.iconst 2, 1) := by decide +kernel
theorem dX7_served_57 : decode cX7_served 57 = .ok (.aload_n 0, 1) := by decide +kernel
theorem dX7_served_58 : decode cX7_served 58 = .ok (.getfield 7, 3) := by decide +kernel
theorem dX7_served_61 : decode cX7_served 61 = .ok (.iconst 3, 1) := by decide +kernel
theorem dX7_served_62 : decode cX7_served 62 = .ok (.iaload, 1) := by decide +kernel
theorem dX7_served_63 : decode cX7_served 63 = .ok (.iconst 1, 1) := by decide +kernel
theorem dX7_served_64 : decode cX7_served 64 = .ok (.iadd, 1) := by decide +kernel
theorem dX7_served_65 : decode cX7_served 65 = .ok (.invokevirtual 67, 3) := by decide +kernel
theorem dX7_served_68 : decode cX7_served 68 = .ok (.return_, 1) := by decide +kernel
theorem dX7_served_69 : decode cX7_served 69 = .ok (.aload_n 0, 1) := by decide +kernel
theorem dX7_served_70 : decode cX7_served 70 = .ok (.getfield 7, 3) := by decide +kernel
theorem dX7_served_73 : decode cX7_served 73 = .ok (.bipush 20, 2) := by decide +kernel
theorem dX7_served_75 : decode cX7_served 75 = .ok (.iload_n 2, 1) := by decide +kernel
theorem dX7_served_76 : decode cX7_served 76 = .ok (.iadd, 1) := by decide +kernel
theorem dX7_served_77 : decode cX7_served 77 = .ok (.iaload, 1) := by decide +kernel
theorem dX7_served_78 : decode cX7_served 78 = .ok (.ifCond .le 39, 3) := by decide +kernel
theorem dX7_served_81 : decode cX7_served 81 = .ok (.aload_n 0, 1) := by decide +kernel
theorem dX7_served_82 : decode cX7_served 82 = .ok (.getfield 7, 3) := by decide +kernel
theorem dX7_served_85 : decode cX7_served 85 = .ok (.bipush 20, 2) := by decide +kernel
theorem dX7_served_87 : decode cX7_served 87 = .ok (.iload_n 2, 1) := by decide +kernel
theorem dX7_served_88 : decode cX7_served 88 = .ok (.iadd, 1) := by decide +kernel
theorem dX7_served_89 : decode cX7_served 89 = .ok (.dup2, 1) := by decide +kernel
theorem dX7_served_90 : decode cX7_served 90 = .ok (.iaload, 1) := by decide +kernel
theorem dX7_served_91 : decode cX7_served 91 = .ok (.aload_n 0, 1) := by decide +kernel
theorem dX7_served_92 : decode cX7_served 92 = .ok (.iload_n 1, 1) := by decide +kernel
theorem dX7_served_93 : decode cX7_served 93 = .ok (.iconst 4, 1) := by decide +kernel
theorem dX7_served_94 : decode cX7_served 94 = .ok (.invokevirtual 47, 3) := by decide +kernel
theorem dX7_served_97 : decode cX7_served 97 = .ok (.iconst 1, 1) := by decide +kernel
theorem dX7_served_98 : decode cX7_served 98 = .ok (.isub, 1) := by decide +kernel
theorem dX7_served_99 : decode cX7_served 99 = .ok (.iadd, 1) := by decide +kernel
theorem dX7_served_100 : decode cX7_served 100 = .ok (.iastore, 1) := by decide +kernel
theorem dX7_served_101 : decode cX7_served 101 = .ok (.aload_n 0, 1) := by decide +kernel
theorem dX7_served_102 : decode cX7_served 102 = .ok (.iload_n 1, 1) := by decide +kernel
theorem dX7_served_103 : decode cX7_served 103 = .ok (.iconst 4, 1) := by decide +kernel
theorem dX7_served_104 : decode cX7_served 104 = .ok (.iconst 1, 1) := by decide +kernel
theorem dX7_served_105 : decode cX7_served 105 = .ok (.invokevirtual 59, 3) := by decide +kernel
theorem dX7_served_108 : decode cX7_served 108 = .ok (.aload_n 0, 1) := by decide +kernel
theorem dX7_served_109 : decode cX7_served 109 = .ok (.iload_n 1, 1) := by decide +kernel
theorem dX7_served_110 : decode cX7_served 110 = .ok (.iconst 1, 1) := by decide +kernel
theorem dX7_served_111 : decode cX7_served 111 = .ok (.invokevirtual 70, 3) := by decide +kernel
theorem dX7_served_114 : decode cX7_served 114 = .ok (.goto 42, 3) := by decide +kernel
theorem dX7_served_117 : decode cX7_served 117 = .ok (.aload_n 0, 1) := by decide +kernel
theorem dX7_served_118 : decode cX7_served 118 = .ok (.iload_n 1, 1) := by decide +kernel
theorem dX7_served_119 : decode cX7_served 119 = .ok (.iconst 4, 1) := by decide +kernel
theorem dX7_served_120 : decode cX7_served 120 = .ok (.invokevirtual 47, 3) := by decide +kernel
theorem dX7_served_123 : decode cX7_served 123 = .ok (.iconst 1, 1) := by decide +kernel
theorem dX7_served_124 : decode cX7_served 124 = .ok (.if_icmp .ne 12, 3) := by decide +kernel
theorem dX7_served_127 : decode cX7_served 127 = .ok (.aload_n 0, 1) := by decide +kernel
theorem dX7_served_128 : decode cX7_served 128 = .ok (.iload_n 1, 1) := by decide +kernel
theorem dX7_served_129 : decode cX7_served 129 = .ok (.iconst 1, 1) := by decide +kernel
theorem dX7_served_130 : decode cX7_served 130 = .ok (.invokevirtual 70, 3) := by decide +kernel
theorem dX7_served_133 : decode cX7_served 133 = .ok (.goto 23, 3) := by decide +kernel
theorem dX7_served_136 : decode cX7_served 136 = .ok (.aload_n 0, 1) := by decide +kernel
theorem dX7_served_137 : decode cX7_served 137 = .ok (.iload_n 1, 1) := by decide +kernel
theorem dX7_served_138 : decode cX7_served 138 = .ok (.bipush 6, 2) := by decide +kernel
theorem dX7_served_140 : decode cX7_served 140 = .ok (.invokevirtual 70, 3) := by decide +kernel
theorem dX7_served_143 : decode cX7_served 143 = .ok (.aload_n 0, 1) := by decide +kernel
theorem dX7_served_144 : decode cX7_served 144 = .ok (.getfield 7, 3) := by decide +kernel
theorem dX7_served_147 : decode cX7_served 147 = .ok (.bipush 32, 2) := by decide +kernel
theorem dX7_served_149 : decode cX7_served 149 = .ok (.iload_n 2, 1) := by decide +kernel
theorem dX7_served_150 : decode cX7_served 150 = .ok (.iadd, 1) := by decide +kernel
theorem dX7_served_151 : decode cX7_served 151 = .ok (.dup2, 1) := by decide +kernel
theorem dX7_served_152 : decode cX7_served 152 = .ok (.iaload, 1) := by decide +kernel
theorem dX7_served_153 : decode cX7_served 153 = .ok (.iconst 1, 1) := by decide +kernel
theorem dX7_served_154 : decode cX7_served 154 = .ok (.iadd, 1) := by decide +kernel
theorem dX7_served_155 : decode cX7_served 155 = .ok (.iastore, 1) := by decide +kernel
theorem dX7_served_156 : decode cX7_served 156 = .ok (.aload_n 0, 1) := by decide +kernel
theorem dX7_served_157 : decode cX7_served 157 = .ok (.iload_n 1, 1) := by decide +kernel
theorem dX7_served_158 : decode cX7_served 158 = .ok (.invokevirtual 74, 3) := by decide +kernel
theorem dX7_served_161 : decode cX7_served 161 = .ok (.return_, 1) := by decide +kernel
theorem ggX7_acts_X7_firstAt : GoodIn wsX7_acts wsX7_firstAt := goodIn_r _ [7, 1, 8, 9, 10, 6, 11, 12, 13, 14, 15, 16, 17, 18, 19, 48, 49, 50, 51, 52, 53, 54, 55, 56, 57, 58, 59] (by decide +kernel) (by decide +kernel)
theorem gX7_acts_X7_firstAt : GoodIn wsX7_acts (wsV RX7 77 RX7 yX7_firstAt wsX7_firstAt) := goodIn_app (goodIn_of _ (by decide +kernel)) ggX7_acts_X7_firstAt
theorem ggX7_acts_X7_get : GoodIn wsX7_acts wsX7_get := goodIn_r _ [15, 1, 48, 49, 50, 51, 52, 53, 54, 55, 56, 57, 58, 59] (by decide +kernel) (by decide +kernel)
theorem gX7_acts_X7_get : GoodIn wsX7_acts (wsV RX7 47 RX7 yX7_get wsX7_get) := goodIn_app (goodIn_of _ (by decide +kernel)) ggX7_acts_X7_get
theorem ggX7_acts_X7_more : GoodIn wsX7_acts wsX7_more := goodIn_r _ [23, 1, 48, 49, 50, 51, 52, 53, 54, 55, 56, 57, 58, 59] (by decide +kernel) (by decide +kernel)
theorem gX7_acts_X7_more : GoodIn wsX7_acts (wsV RX7 70 RX7 yX7_more wsX7_more) := goodIn_app (goodIn_of _ (by decide +kernel)) ggX7_acts_X7_more
theorem ggX7_acts_X7_served : GoodIn wsX7_acts wsX7_served := goodIn_r _ [27, 1, 12, 13, 14, 6, 15, 20, 21, 22, 23, 28, 29, 30, 31, 32, 33, 34, 35, 36, 37, 38, 39, 2, 40, 41, 42, 43, 48, 49, 50, 51, 52, 53, 54, 55, 56, 57, 58, 59] (by decide +kernel) (by decide +kernel)
theorem gX7_acts_X7_served : GoodIn wsX7_acts (wsV RX7 81 RX7 yX7_served wsX7_served) := goodIn_app (goodIn_of _ (by decide +kernel)) ggX7_acts_X7_served
theorem ggX7_acts_X7_manyAt : GoodIn wsX7_acts wsX7_manyAt := goodIn_r _ [47, 1, 8, 9, 10, 6, 11, 12, 13, 14, 15, 16, 17, 18, 19, 48, 49, 50, 51, 52, 53, 54, 55, 56, 57, 58, 59] (by decide +kernel) (by decide +kernel)
theorem gX7_acts_X7_manyAt : GoodIn wsX7_acts (wsV RX7 84 RX7 yX7_manyAt wsX7_manyAt) := goodIn_app (goodIn_of _ (by decide +kernel)) ggX7_acts_X7_manyAt
theorem ggX7_acts_X7_lays : GoodIn wsX7_acts wsX7_lays := goodIn_r _ [35, 1, 48, 49, 50, 51, 52, 53, 54, 55, 56, 57, 58, 59] (by decide +kernel) (by decide +kernel)
theorem gX7_acts_X7_lays : GoodIn wsX7_acts (wsV RX7 59 RX7 yX7_lays wsX7_lays) := goodIn_app (goodIn_of _ (by decide +kernel)) ggX7_acts_X7_lays
theorem ggX7_acts_X7_ranks : GoodIn wsX7_acts wsX7_ranks := goodIn_r _ [43, 1, 32, 33, 34, 6, 35, 48, 49, 50, 51, 52, 53, 54, 55, 56, 57, 58, 59] (by decide +kernel) (by decide +kernel)
theorem gX7_acts_X7_ranks : GoodIn wsX7_acts (wsV RX7 63 RX7 yX7_ranks wsX7_ranks) := goodIn_app (goodIn_of _ (by decide +kernel)) ggX7_acts_X7_ranks
theorem dX7_acts_0 : decode cX7_acts 0 = .ok (.aload_n 0, 1) := by decide +kernel
theorem dX7_acts_1 : decode cX7_acts 1 = .ok (.iconst 1, 1) := by decide +kernel
theorem dX7_acts_2 : decode cX7_acts 2 = .ok (.iload_n 1, 1) := by decide +kernel
theorem dX7_acts_3 : decode cX7_acts 3 = .ok (.iconst 0, 1) := by decide +kernel
theorem dX7_acts_4 : decode cX7_acts 4 = .ok (.invokevirtual 77, 3) := by decide +kernel
theorem dX7_acts_7 : decode cX7_acts 7 = .ok (.istore_n 2, 1) := by decide +kernel
theorem dX7_acts_8 : decode cX7_acts 8 = .ok (.iload_n 2, 1) := by decide +kernel
theorem dX7_acts_9 : decode cX7_acts 9 = .ok (.bipush (-6), 2) := by decide +kernel
theorem dX7_acts_11 : decode cX7_acts 11 = .ok (.if_icmp .eq 51, 3) := by decide +kernel
theorem dX7_acts_14 : decode cX7_acts 14 = .ok (.aload_n 0, 1) := by decide +kernel
theorem dX7_acts_15 : decode cX7_acts 15 = .ok (.iload_n 2, 1) := by decide +kernel
theorem dX7_acts_16 : decode cX7_acts 16 = .ok (.bipush 10, 2) := by decide +kernel
theorem dX7_acts_18 : decode cX7_acts 18 = .ok (.invokevirtual 47, 3) := by decide +kernel
theorem dX7_acts_21 : decode cX7_acts 21 = .ok (.istore_n 3, 1) := by decide +kernel
theorem dX7_acts_22 : decode cX7_acts 22 = .ok (.aload_n 0, 1) := by decide +kernel
theorem dX7_acts_23 : decode cX7_acts 23 = .ok (.iload_n 2, 1) := by decide +kernel
theorem dX7_acts_24 : decode cX7_acts 24 = .ok (.bipush 9, 2) := by decide +kernel
theorem dX7_acts_26 : decode cX7_acts 26 = .ok (.invokevirtual 70, 3) := by decide +kernel
theorem dX7_acts_29 : decode cX7_acts 29 = .ok (.aload_n 0, 1) := by decide +kernel
theorem dX7_acts_30 : decode cX7_acts 30 = .ok (.iload_n 2, 1) := by decide +kernel
theorem dX7_acts_31 : decode cX7_acts 31 = .ok (.bipush 9, 2) := by decide +kernel
theorem dX7_acts_33 : decode cX7_acts 33 = .ok (.invokevirtual 47, 3) := by decide +kernel
theorem dX7_acts_36 : decode cX7_acts 36 = .ok (.aload_n 0, 1) := by decide +kernel
theorem dX7_acts_37 : decode cX7_acts 37 = .ok (.getfield 7, 3) := by decide +kernel
theorem dX7_acts_40 : decode cX7_acts 40 = .ok (.iconst 0, 1) := by decide +kernel
theorem dX7_acts_41 : decode cX7_acts 41 = .ok (.iaload, 1) := by decide +kernel
theorem dX7_acts_42 : decode cX7_acts 42 = .ok (.if_icmp .lt 9, 3) := by decide +kernel
theorem dX7_acts_45 : decode cX7_acts 45 = .ok (.aload_n 0, 1) := by decide +kernel
theorem dX7_acts_46 : decode cX7_acts 46 = .ok (.iload_n 2, 1) := by decide +kernel
theorem dX7_acts_47 : decode cX7_acts 47 = .ok (.iload_n 1, 1) := by decide +kernel
theorem dX7_acts_48 : decode cX7_acts 48 = .ok (.invokevirtual 81, 3) := by decide +kernel
theorem dX7_acts_51 : decode cX7_acts 51 = .ok (.aload_n 0, 1) := by decide +kernel
theorem dX7_acts_52 : decode cX7_acts 52 = .ok (.iconst 1, 1) := by decide +kernel
theorem dX7_acts_53 : decode cX7_acts 53 = .ok (.iload_n 1, 1) := by decide +kernel
theorem dX7_acts_54 : decode cX7_acts 54 = .ok (.iload_n 3, 1) := by decide +kernel
theorem dX7_acts_55 : decode cX7_acts 55 = .ok (.invokevirtual 77, 3) := by decide +kernel
theorem dX7_acts_58 : decode cX7_acts 58 = .ok (.istore_n 2, 1) := by decide +kernel
theorem dX7_acts_59 : decode cX7_acts 59 = .ok (.goto (-51), 3) := by decide +kernel
theorem dX7_acts_62 : decode cX7_acts 62 = .ok (.aload_n 0, 1) := by decide +kernel
theorem dX7_acts_63 : decode cX7_acts 63 = .ok (.iconst 0, 1) := by decide +kernel
theorem dX7_acts_64 : decode cX7_acts 64 = .ok (.iload_n 1, 1) := by decide +kernel
theorem dX7_acts_65 : decode cX7_acts 65 = .ok (.iconst 0, 1) := by decide +kernel
theorem dX7_acts_66 : decode cX7_acts 66 = .ok (.invokevirtual 77, 3) := by decide +kernel
theorem dX7_acts_69 : decode cX7_acts 69 = .ok (.istore_n 2, 1) := by decide +kernel
theorem dX7_acts_70 : decode cX7_acts 70 = .ok (.iload_n 2, 1) := by decide +kernel
theorem dX7_acts_71 : decode cX7_acts 71 = .ok (.bipush (-6), 2) := by decide +kernel
theorem dX7_acts_73 : decode cX7_acts 73 = .ok (.if_icmp .eq 61, 3) := by decide +kernel
theorem dX7_acts_76 : decode cX7_acts 76 = .ok (.aload_n 0, 1) := by decide +kernel
theorem dX7_acts_77 : decode cX7_acts 77 = .ok (.getfield 25, 3) := by decide +kernel
theorem dX7_acts_80 : decode cX7_acts 80 = .ok (.iload_n 2, 1) := by decide +kernel
theorem dX7_acts_81 : decode cX7_acts 81 = .ok (.iaload, 1) := by decide +kernel
theorem dX7_acts_82 : decode cX7_acts 82 = .ok (.ifCond .ne 52, 3) := by decide +kernel
theorem dX7_acts_85 : decode cX7_acts 85 = .ok (.aload_n 0, 1) := by decide +kernel
theorem dX7_acts_86 : decode cX7_acts 86 = .ok (.iconst 1, 1) := by decide +kernel
theorem dX7_acts_87 : decode cX7_acts 87 = .ok (.iload_n 1, 1) := by decide +kernel
theorem dX7_acts_88 : decode cX7_acts 88 = .ok (.invokevirtual 84, 3) := by decide +kernel
theorem dX7_acts_91 : decode cX7_acts 91 = .ok (.aload_n 0, 1) := by decide +kernel
theorem dX7_acts_92 : decode cX7_acts 92 = .ok (.getfield 7, 3) := by decide +kernel
theorem dX7_acts_95 : decode cX7_acts 95 = .ok (.bipush 14, 2) := by decide +kernel
theorem dX7_acts_97 : decode cX7_acts 97 = .ok (.iload_n 1, 1) := by decide +kernel
theorem dX7_acts_98 : decode cX7_acts 98 = .ok (.iadd, 1) := by decide +kernel
theorem dX7_acts_99 : decode cX7_acts 99 = .ok (.iaload, 1) := by decide +kernel
theorem dX7_acts_100 : decode cX7_acts 100 = .ok (.if_icmp .ge 34, 3) := by decide +kernel
theorem dX7_acts_103 : decode cX7_acts 103 = .ok (.aload_n 0, 1) := by decide +kernel
theorem dX7_acts_104 : decode cX7_acts 104 = .ok (.iload_n 2, 1) := by decide +kernel
theorem dX7_acts_105 : decode cX7_acts 105 = .ok (.iconst 0, 1) := by decide +kernel
theorem dX7_acts_106 : decode cX7_acts 106 = .ok (.iconst 1, 1) := by decide +kernel
theorem dX7_acts_107 : decode cX7_acts 107 = .ok (.invokevirtual 59, 3) := by decide +kernel
theorem dX7_acts_110 : decode cX7_acts 110 = .ok (.aload_n 0, 1) := by decide +kernel
theorem dX7_acts_111 : decode cX7_acts 111 = .ok (.iload_n 2, 1) := by decide +kernel
theorem dX7_acts_112 : decode cX7_acts 112 = .ok (.bipush 9, 2) := by decide +kernel
theorem dX7_acts_114 : decode cX7_acts 114 = .ok (.iconst 0, 1) := by decide +kernel
theorem dX7_acts_115 : decode cX7_acts 115 = .ok (.invokevirtual 59, 3) := by decide +kernel
theorem dX7_acts_118 : decode cX7_acts 118 = .ok (.aload_n 0, 1) := by decide +kernel
theorem dX7_acts_119 : decode cX7_acts 119 = .ok (.iload_n 2, 1) := by decide +kernel
theorem dX7_acts_120 : decode cX7_acts 120 = .ok (.invokevirtual 63, 3) := by decide +kernel
theorem dX7_acts_123 : decode cX7_acts 123 = .ok (.aload_n 0, 1) := by decide +kernel
theorem dX7_acts_124 : decode cX7_acts 124 = .ok (.iconst 0, 1) := by decide +kernel
theorem dX7_acts_125 : decode cX7_acts 125 = .ok (.iload_n 1, 1) := by decide +kernel
theorem dX7_acts_126 : decode cX7_acts 126 = .ok (.iconst 0, 1) := by decide +kernel
theorem dX7_acts_127 : decode cX7_acts 127 = .ok (.invokevirtual 77, 3) := by decide +kernel
theorem dX7_acts_130 : decode cX7_acts 130 = .ok (.istore_n 2, 1) := by decide +kernel
theorem dX7_acts_131 : decode cX7_acts 131 = .ok (.goto (-61), 3) := by decide +kernel
theorem dX7_acts_134 : decode cX7_acts 134 = .ok (.return_, 1) := by decide +kernel
theorem ggX7_waits_X7_more : GoodIn wsX7_waits wsX7_more := goodIn_r _ [6, 1, 23, 24, 25, 26, 27, 28, 29, 30, 31, 32, 33, 34] (by decide +kernel) (by decide +kernel)
theorem gX7_waits_X7_more : GoodIn wsX7_waits (wsV RX7 70 RX7 yX7_more wsX7_more) := goodIn_app (goodIn_of _ (by decide +kernel)) ggX7_waits_X7_more
theorem ggX7_waits_X7_get : GoodIn wsX7_waits wsX7_get := goodIn_r _ [10, 1, 23, 24, 25, 26, 27, 28, 29, 30, 31, 32, 33, 34] (by decide +kernel) (by decide +kernel)
theorem gX7_waits_X7_get : GoodIn wsX7_waits (wsV RX7 47 RX7 yX7_get wsX7_get) := goodIn_app (goodIn_of _ (by decide +kernel)) ggX7_waits_X7_get
theorem ggX7_waits_X7_leavesFor : GoodIn wsX7_waits wsX7_leavesFor := goodIn_r _ [14, 1, 7, 8, 9, 5, 10, 15, 16, 17, 18, 19, 20, 21, 22, 23, 24, 25, 26, 27, 28, 29, 30, 31, 32, 33, 34] (by decide +kernel) (by decide +kernel)
theorem gX7_waits_X7_leavesFor : GoodIn wsX7_waits (wsV RX7 87 RX7 yX7_leavesFor wsX7_leavesFor) := goodIn_app (goodIn_of _ (by decide +kernel)) ggX7_waits_X7_leavesFor
theorem dX7_waits_0 : decode cX7_waits 0 = .ok (.aload_n 0, 1) := by decide +kernel
theorem dX7_waits_1 : decode cX7_waits 1 = .ok (.iload_n 1, 1) := by decide +kernel
theorem dX7_waits_2 : decode cX7_waits 2 = .ok (.iconst 5, 1) := by decide +kernel
theorem dX7_waits_3 : decode cX7_waits 3 = .ok (.invokevirtual 70, 3) := by decide +kernel
theorem dX7_waits_6 : decode cX7_waits 6 = .ok (.aload_n 0, 1) := by decide +kernel
theorem dX7_waits_7 : decode cX7_waits 7 = .ok (.iload_n 1, 1) := by decide +kernel
theorem dX7_waits_8 : decode cX7_waits 8 = .ok (.bipush 8, 2) := by decide +kernel
theorem dX7_waits_10 : decode cX7_waits 10 = .ok (.invokevirtual 70, 3) := by decide +kernel
theorem dX7_waits_13 : decode cX7_waits 13 = .ok (.aload_n 0, 1) := by decide +kernel
theorem dX7_waits_14 : decode cX7_waits 14 = .ok (.getfield 7, 3) := by decide +kernel
theorem dX7_waits_17 : decode cX7_waits 17 = .ok (.iconst 2, 1) := by decide +kernel
theorem dX7_waits_18 : decode cX7_waits 18 = .ok (.iaload, 1) := by decide +kernel
theorem dX7_waits_19 : decode cX7_waits 19 = .ok (.ifCond .eq 32, 3) := by decide +kernel
theorem dX7_waits_22 : decode cX7_waits 22 = .ok (.aload_n 0, 1) := by decide +kernel
theorem dX7_waits_23 : decode cX7_waits 23 = .ok (.iload_n 1, 1) := by decide +kernel
theorem dX7_waits_24 : decode cX7_waits 24 = .ok (.bipush 8, 2) := by decide +kernel
theorem dX7_waits_26 : decode cX7_waits 26 = .ok (.invokevirtual 47, 3) := by decide +kernel
theorem dX7_waits_29 : decode cX7_waits 29 = .ok (.aload_n 0, 1) := by decide +kernel
theorem dX7_waits_30 : decode cX7_waits 30 = .ok (.getfield 7, 3) := by decide +kernel
theorem dX7_waits_33 : decode cX7_waits 33 = .ok (.iconst 2, 1) := by decide +kernel
theorem dX7_waits_34 : decode cX7_waits 34 = .ok (.iaload, 1) := by decide +kernel
theorem dX7_waits_35 : decode cX7_waits 35 = .ok (.if_icmp .lt 16, 3) := by decide +kernel
theorem dX7_waits_38 : decode cX7_waits 38 = .ok (.aload_n 0, 1) := by decide +kernel
theorem dX7_waits_39 : decode cX7_waits 39 = .ok (.iload_n 1, 1) := by decide +kernel
theorem dX7_waits_40 : decode cX7_waits 40 = .ok (.aload_n 0, 1) := by decide +kernel
theorem dX7_waits_41 : decode cX7_waits 41 = .ok (.getfield 7, 3) := by decide +kernel
theorem dX7_waits_44 : decode cX7_waits 44 = .ok (.iconst 3, 1) := by decide +kernel
theorem dX7_waits_45 : decode cX7_waits 45 = .ok (.iaload, 1) := by decide +kernel
theorem dX7_waits_46 : decode cX7_waits 46 = .ok (.iconst 1, 1) := by decide +kernel
theorem dX7_waits_47 : decode cX7_waits 47 = .ok (.iadd, 1) := by decide +kernel
theorem dX7_waits_48 : decode cX7_waits 48 = .ok (.invokevirtual 87, 3) := by decide +kernel
theorem dX7_waits_51 : decode cX7_waits 51 = .ok (.return_, 1) := by decide +kernel
theorem ggX7_ticks_X7_acts : GoodIn wsX7_ticks wsX7_acts := goodIn_r _ [7, 2, 1, 8, 9, 10, 6, 11, 12, 13, 14, 15, 16, 17, 18, 19, 20, 21, 22, 23, 24, 25, 26, 27, 28, 29, 30, 31, 32, 33, 34, 35, 36, 37, 38, 39, 40, 41, 42, 43, 44, 45, 46, 47, 48, 49, 50, 51, 60, 61, 62, 63, 64, 65, 66, 67, 68, 69, 70, 71] (by decide +kernel) (by decide +kernel)
theorem gX7_ticks_X7_acts : GoodIn wsX7_ticks (wsV RX7 90 RX7 yX7_acts wsX7_acts) := goodIn_app (goodIn_of _ (by decide +kernel)) ggX7_ticks_X7_acts
theorem ggX7_ticks_X7_get : GoodIn wsX7_ticks wsX7_get := goodIn_r _ [19, 2, 60, 61, 62, 63, 64, 65, 66, 67, 68, 69, 70, 71] (by decide +kernel) (by decide +kernel)
theorem gX7_ticks_X7_get : GoodIn wsX7_ticks (wsV RX7 47 RX7 yX7_get wsX7_get) := goodIn_app (goodIn_of _ (by decide +kernel)) ggX7_ticks_X7_get
theorem ggX7_ticks_X7_waits : GoodIn wsX7_ticks wsX7_waits := goodIn_r _ [55, 2, 24, 25, 26, 6, 27, 16, 17, 18, 19, 56, 57, 58, 59, 32, 33, 34, 35, 36, 37, 38, 39, 60, 61, 62, 63, 64, 65, 66, 67, 68, 69, 70, 71] (by decide +kernel) (by decide +kernel)
theorem gX7_ticks_X7_waits : GoodIn wsX7_ticks (wsV RX7 93 RX7 yX7_waits wsX7_waits) := goodIn_app (goodIn_of _ (by decide +kernel)) ggX7_ticks_X7_waits
theorem dX7_ticks_0 : decode cX7_ticks 0 = .ok (.iconst 0, 1) := by decide +kernel
theorem dX7_ticks_1 : decode cX7_ticks 1 = .ok (.istore_n 1, 1) := by decide +kernel
theorem dX7_ticks_2 : decode cX7_ticks 2 = .ok (.iload_n 1, 1) := by decide +kernel
theorem dX7_ticks_3 : decode cX7_ticks 3 = .ok (.bipush 24, 2) := by decide +kernel
theorem dX7_ticks_5 : decode cX7_ticks 5 = .ok (.if_icmp .ge 16, 3) := by decide +kernel
theorem dX7_ticks_8 : decode cX7_ticks 8 = .ok (.aload_n 0, 1) := by decide +kernel
theorem dX7_ticks_9 : decode cX7_ticks 9 = .ok (.getfield 25, 3) := by decide +kernel
theorem dX7_ticks_12 : decode cX7_ticks 12 = .ok (.iload_n 1, 1) := by decide +kernel
theorem dX7_ticks_13 : decode cX7_ticks 13 = .ok (.iconst 0, 1) := by decide +kernel
theorem dX7_ticks_14 : decode cX7_ticks 14 = .ok (.iastore, 1) := by decide +kernel
theorem dX7_ticks_15 : decode cX7_ticks 15 = .ok (.iinc 1 1, 3) := by decide +kernel
theorem dX7_ticks_18 : decode cX7_ticks 18 = .ok (.goto (-16), 3) := by decide +kernel
theorem dX7_ticks_21 : decode cX7_ticks 21 = .ok (.iconst 0, 1) := by decide +kernel
theorem dX7_ticks_22 : decode cX7_ticks 22 = .ok (.istore_n 1, 1) := by decide +kernel
theorem dX7_ticks_23 : decode cX7_ticks 23 = .ok (.iload_n 1, 1) := by decide +kernel
theorem dX7_ticks_24 : decode cX7_ticks 24 = .ok (.bipush 6, 2) := by decide +kernel
theorem dX7_ticks_26 : decode cX7_ticks 26 = .ok (.if_icmp .ge 27, 3) := by decide +kernel
theorem dX7_ticks_29 : decode cX7_ticks 29 = .ok (.aload_n 0, 1) := by decide +kernel
theorem dX7_ticks_30 : decode cX7_ticks 30 = .ok (.getfield 7, 3) := by decide +kernel
theorem dX7_ticks_33 : decode cX7_ticks 33 = .ok (.bipush 8, 2) := by decide +kernel
theorem dX7_ticks_35 : decode cX7_ticks 35 = .ok (.iload_n 1, 1) := by decide +kernel
theorem dX7_ticks_36 : decode cX7_ticks 36 = .ok (.iadd, 1) := by decide +kernel
theorem dX7_ticks_37 : decode cX7_ticks 37 = .ok (.iaload, 1) := by decide +kernel
theorem dX7_ticks_38 : decode cX7_ticks 38 = .ok (.iconst 1, 1) := by decide +kernel
theorem dX7_ticks_39 : decode cX7_ticks 39 = .ok (.if_icmp .ne 8, 3) := by decide +kernel
theorem dX7_ticks_42 : decode cX7_ticks 42 = .ok (.aload_n 0, 1) := by decide +kernel
theorem dX7_ticks_43 : decode cX7_ticks 43 = .ok (.iload_n 1, 1) := by decide +kernel
theorem dX7_ticks_44 : decode cX7_ticks 44 = .ok (.invokevirtual 90, 3) := by decide +kernel
theorem dX7_ticks_47 : decode cX7_ticks 47 = .ok (.iinc 1 1, 3) := by decide +kernel
theorem dX7_ticks_50 : decode cX7_ticks 50 = .ok (.goto (-27), 3) := by decide +kernel
theorem dX7_ticks_53 : decode cX7_ticks 53 = .ok (.iconst 0, 1) := by decide +kernel
theorem dX7_ticks_54 : decode cX7_ticks 54 = .ok (.istore_n 1, 1) := by decide +kernel
theorem dX7_ticks_55 : decode cX7_ticks 55 = .ok (.iload_n 1, 1) := by decide +kernel
theorem dX7_ticks_56 : decode cX7_ticks 56 = .ok (.aload_n 0, 1) := by decide +kernel
theorem dX7_ticks_57 : decode cX7_ticks 57 = .ok (.getfield 7, 3) := by decide +kernel
theorem dX7_ticks_60 : decode cX7_ticks 60 = .ok (.iconst 4, 1) := by decide +kernel
theorem dX7_ticks_61 : decode cX7_ticks 61 = .ok (.iaload, 1) := by decide +kernel
theorem dX7_ticks_62 : decode cX7_ticks 62 = .ok (.if_icmp .ge 23, 3) := by decide +kernel
theorem dX7_ticks_65 : decode cX7_ticks 65 = .ok (.aload_n 0, 1) := by decide +kernel
theorem dX7_ticks_66 : decode cX7_ticks 66 = .ok (.iload_n 1, 1) := by decide +kernel
theorem dX7_ticks_67 : decode cX7_ticks 67 = .ok (.iconst 0, 1) := by decide +kernel
theorem dX7_ticks_68 : decode cX7_ticks 68 = .ok (.invokevirtual 47, 3) := by decide +kernel
theorem dX7_ticks_71 : decode cX7_ticks 71 = .ok (.ifCond .ne 8, 3) := by decide +kernel
theorem dX7_ticks_74 : decode cX7_ticks 74 = .ok (.aload_n 0, 1) := by decide +kernel
theorem dX7_ticks_75 : decode cX7_ticks 75 = .ok (.iload_n 1, 1) := by decide +kernel
theorem dX7_ticks_76 : decode cX7_ticks 76 = .ok (.invokevirtual 93, 3) := by decide +kernel
theorem dX7_ticks_79 : decode cX7_ticks 79 = .ok (.iinc 1 1, 3) := by decide +kernel
theorem dX7_ticks_82 : decode cX7_ticks 82 = .ok (.goto (-27), 3) := by decide +kernel
theorem dX7_ticks_85 : decode cX7_ticks 85 = .ok (.aload_n 0, 1) := by decide +kernel
theorem dX7_ticks_86 : decode cX7_ticks 86 = .ok (.getfield 7, 3) := by decide +kernel
theorem dX7_ticks_89 : decode cX7_ticks 89 = .ok (.iconst 3, 1) := by decide +kernel
theorem dX7_ticks_90 : decode cX7_ticks 90 = .ok (.dup2, 1) := by decide +kernel
theorem dX7_ticks_91 : decode cX7_ticks 91 = .ok (.iaload, 1) := by decide +kernel
theorem dX7_ticks_92 : decode cX7_ticks 92 = .ok (.iconst 1, 1) := by decide +kernel
theorem dX7_ticks_93 : decode cX7_ticks 93 = .ok (.iadd, 1) := by decide +kernel
theorem dX7_ticks_94 : decode cX7_ticks 94 = .ok (.iastore, 1) := by decide +kernel
theorem dX7_ticks_95 : decode cX7_ticks 95 = .ok (.return_, 1) := by decide +kernel
theorem ggX7_isSetting_X7_in : GoodIn wsX7_isSetting wsX7_in := goodIn_r _ [7] (by decide +kernel) (by decide +kernel)
theorem gX7_isSetting_X7_in : GoodIn wsX7_isSetting (va_wsS RX7 43 yX7_in wsX7_in) := goodIn_app (goodIn_of _ (by decide +kernel)) ggX7_isSetting_X7_in
theorem dX7_isSetting_0 : decode cX7_isSetting 0 = .ok (.iload_n 0, 1) := by decide +kernel
theorem dX7_isSetting_1 : decode cX7_isSetting 1 = .ok (.tableswitch 57 0 2 #[27, 37, 47], 27) := by decide +kernel
theorem dX7_isSetting_28 : decode cX7_isSetting 28 = .ok (.iload_n 1, 1) := by decide +kernel
theorem dX7_isSetting_29 : decode cX7_isSetting 29 = .ok (.i2l, 1) := by decide +kernel
theorem dX7_isSetting_30 : decode cX7_isSetting 30 = .ok (.lconst 1, 1) := by decide +kernel
theorem dX7_isSetting_31 : decode cX7_isSetting 31 = .ok (.ldc2_w 96, 3) := by decide +kernel
theorem dX7_isSetting_34 : decode cX7_isSetting 34 = .ok (.invokestatic 43, 3) := by decide +kernel
theorem dX7_isSetting_37 : decode cX7_isSetting 37 = .ok (.ireturn, 1) := by decide +kernel
theorem dX7_isSetting_38 : decode cX7_isSetting 38 = .ok (.iload_n 1, 1) := by decide +kernel
theorem dX7_isSetting_39 : decode cX7_isSetting 39 = .ok (.i2l, 1) := by decide +kernel
theorem dX7_isSetting_40 : decode cX7_isSetting 40 = .ok (.lconst 0, 1) := by decide +kernel
theorem dX7_isSetting_41 : decode cX7_isSetting 41 = .ok (.ldc2_w 98, 3) := by decide +kernel
theorem dX7_isSetting_44 : decode cX7_isSetting 44 = .ok (.invokestatic 43, 3) := by decide +kernel
theorem dX7_isSetting_47 : decode cX7_isSetting 47 = .ok (.ireturn, 1) := by decide +kernel
theorem dX7_isSetting_48 : decode cX7_isSetting 48 = .ok (.iload_n 1, 1) := by decide +kernel
theorem dX7_isSetting_49 : decode cX7_isSetting 49 = .ok (.i2l, 1) := by decide +kernel
theorem dX7_isSetting_50 : decode cX7_isSetting 50 = .ok (.lconst 0, 1) := by decide +kernel
theorem dX7_isSetting_51 : decode cX7_isSetting 51 = .ok (.ldc2_w 100, 3) := by decide +kernel
theorem dX7_isSetting_54 : decode cX7_isSetting 54 = .ok (.invokestatic 43, 3) := by decide +kernel
theorem dX7_isSetting_57 : decode cX7_isSetting 57 = .ok (.ireturn, 1) := by decide +kernel
theorem dX7_isSetting_58 : decode cX7_isSetting 58 = .ok (.iconst 0, 1) := by decide +kernel
theorem dX7_isSetting_59 : decode cX7_isSetting 59 = .ok (.ireturn, 1) := by decide +kernel
theorem ggX7_set_X7_isSetting : GoodIn wsX7_set wsX7_isSetting := goodIn_r _ [5, 6, 7, 8, 9, 10, 4, 11] (by decide +kernel) (by decide +kernel)
theorem gX7_set_X7_isSetting : GoodIn wsX7_set (va_wsS RX7 102 yX7_isSetting wsX7_isSetting) := goodIn_app (goodIn_of _ (by decide +kernel)) ggX7_set_X7_isSetting
theorem ggX7_set_X7_changes : GoodIn wsX7_set wsX7_changes := goodIn_r _ [15, 16, 17, 1, 18, 19, 20, 21, 22, 23, 24, 25, 26, 27, 28, 29] (by decide +kernel) (by decide +kernel)
theorem gX7_set_X7_changes : GoodIn wsX7_set (wsV RX7 106 RX7 yX7_changes wsX7_changes) := goodIn_app (goodIn_of _ (by decide +kernel)) ggX7_set_X7_changes
theorem dX7_set_0 : decode cX7_set 0 = .ok (.iload_n 1, 1) := by decide +kernel
theorem dX7_set_1 : decode cX7_set 1 = .ok (.iload_n 2, 1) := by decide +kernel
theorem dX7_set_2 : decode cX7_set 2 = .ok (.invokestatic 102, 3) := by decide +kernel
theorem dX7_set_5 : decode cX7_set 5 = .ok (.ifCond .ne 6, 3) := by decide +kernel
theorem dX7_set_8 : decode cX7_set 8 = .ok (.bipush (-2), 2) := by decide +kernel
theorem dX7_set_10 : decode cX7_set 10 = .ok (.ireturn, 1) := by decide +kernel
theorem dX7_set_11 : decode cX7_set 11 = .ok (.aload_n 0, 1) := by decide +kernel
theorem dX7_set_12 : decode cX7_set 12 = .ok (.invokevirtual 106, 3) := by decide +kernel
theorem dX7_set_15 : decode cX7_set 15 = .ok (.aload_n 0, 1) := by decide +kernel
theorem dX7_set_16 : decode cX7_set 16 = .ok (.getfield 7, 3) := by decide +kernel
theorem dX7_set_19 : decode cX7_set 19 = .ok (.iload_n 1, 1) := by decide +kernel
theorem dX7_set_20 : decode cX7_set 20 = .ok (.iaload, 1) := by decide +kernel
theorem dX7_set_21 : decode cX7_set 21 = .ok (.istore_n 3, 1) := by decide +kernel
theorem dX7_set_22 : decode cX7_set 22 = .ok (.aload_n 0, 1) := by decide +kernel
theorem dX7_set_23 : decode cX7_set 23 = .ok (.getfield 7, 3) := by decide +kernel
theorem dX7_set_26 : decode cX7_set 26 = .ok (.iload_n 1, 1) := by decide +kernel
theorem dX7_set_27 : decode cX7_set 27 = .ok (.iload_n 2, 1) := by decide +kernel
theorem dX7_set_28 : decode cX7_set 28 = .ok (.iastore, 1) := by decide +kernel
theorem dX7_set_29 : decode cX7_set 29 = .ok (.iload_n 3, 1) := by decide +kernel
theorem dX7_set_30 : decode cX7_set 30 = .ok (.ireturn, 1) := by decide +kernel
theorem dX7_sum_0 : decode cX7_sum 0 = .ok (.iconst 0, 1) := by decide +kernel
theorem dX7_sum_1 : decode cX7_sum 1 = .ok (.istore_n 2, 1) := by decide +kernel
theorem dX7_sum_2 : decode cX7_sum 2 = .ok (.iconst 0, 1) := by decide +kernel
theorem dX7_sum_3 : decode cX7_sum 3 = .ok (.istore_n 3, 1) := by decide +kernel
theorem dX7_sum_4 : decode cX7_sum 4 = .ok (.iload_n 3, 1) := by decide +kernel
theorem dX7_sum_5 : decode cX7_sum 5 = .ok (.bipush 6, 2) := by decide +kernel
theorem dX7_sum_7 : decode cX7_sum 7 = .ok (.if_icmp .ge 20, 3) := by decide +kernel
theorem dX7_sum_10 : decode cX7_sum 10 = .ok (.iload_n 2, 1) := by decide +kernel
theorem dX7_sum_11 : decode cX7_sum 11 = .ok (.aload_n 0, 1) := by decide +kernel
theorem dX7_sum_12 : decode cX7_sum 12 = .ok (.getfield 7, 3) := by decide +kernel
theorem dX7_sum_15 : decode cX7_sum 15 = .ok (.iload_n 1, 1) := by decide +kernel
theorem dX7_sum_16 : decode cX7_sum 16 = .ok (.iload_n 3, 1) := by decide +kernel
theorem dX7_sum_17 : decode cX7_sum 17 = .ok (.iadd, 1) := by decide +kernel
theorem dX7_sum_18 : decode cX7_sum 18 = .ok (.iaload, 1) := by decide +kernel
theorem dX7_sum_19 : decode cX7_sum 19 = .ok (.iadd, 1) := by decide +kernel
theorem dX7_sum_20 : decode cX7_sum 20 = .ok (.istore_n 2, 1) := by decide +kernel
theorem dX7_sum_21 : decode cX7_sum 21 = .ok (.iinc 3 1, 3) := by decide +kernel
theorem dX7_sum_24 : decode cX7_sum 24 = .ok (.goto (-20), 3) := by decide +kernel
theorem dX7_sum_27 : decode cX7_sum 27 = .ok (.iload_n 2, 1) := by decide +kernel
theorem dX7_sum_28 : decode cX7_sum 28 = .ok (.ireturn, 1) := by decide +kernel
theorem ggX7_window_X7_isWindow : GoodIn wsX7_window wsX7_isWindow := goodIn_r _ [5, 6, 7, 8, 4, 9] (by decide +kernel) (by decide +kernel)
theorem gX7_window_X7_isWindow : GoodIn wsX7_window (va_wsS RX7 109 yX7_isWindow wsX7_isWindow) := goodIn_app (goodIn_of _ (by decide +kernel)) ggX7_window_X7_isWindow
theorem ggX7_window_X7_changes : GoodIn wsX7_window wsX7_changes := goodIn_r _ [13, 14, 15, 1, 20, 21, 22, 23, 24, 25, 26, 27, 28, 29, 30, 31] (by decide +kernel) (by decide +kernel)
theorem gX7_window_X7_changes : GoodIn wsX7_window (wsV RX7 106 RX7 yX7_changes wsX7_changes) := goodIn_app (goodIn_of _ (by decide +kernel)) ggX7_window_X7_changes
theorem ggX7_window_X7_sum : GoodIn wsX7_window wsX7_sum := goodIn_r _ [19, 1, 20, 21, 22, 23, 24, 25, 26, 27, 28, 29, 30, 31] (by decide +kernel) (by decide +kernel)
theorem gX7_window_X7_sum : GoodIn wsX7_window (wsV RX7 113 RX7 yX7_sum wsX7_sum) := goodIn_app (goodIn_of _ (by decide +kernel)) ggX7_window_X7_sum
theorem dX7_window_0 : decode cX7_window 0 = .ok (.iload_n 1, 1) := by decide +kernel
theorem dX7_window_1 : decode cX7_window 1 = .ok (.invokestatic 109, 3) := by decide +kernel
theorem dX7_window_4 : decode cX7_window 4 = .ok (.ifCond .ne 5, 3) := by decide +kernel
theorem dX7_window_7 : decode cX7_window 7 = .ok (.iconst (-1), 1) := by decide +kernel
theorem dX7_window_8 : decode cX7_window 8 = .ok (.ireturn, 1) := by decide +kernel
theorem dX7_window_9 : decode cX7_window 9 = .ok (.aload_n 0, 1) := by decide +kernel
theorem dX7_window_10 : decode cX7_window 10 = .ok (.getfield 7, 3) := by decide +kernel
theorem dX7_window_13 : decode cX7_window 13 = .ok (.bipush 8, 2) := by decide +kernel
theorem dX7_window_15 : decode cX7_window 15 = .ok (.iload_n 1, 1) := by decide +kernel
theorem dX7_window_16 : decode cX7_window 16 = .ok (.iadd, 1) := by decide +kernel
theorem dX7_window_17 : decode cX7_window 17 = .ok (.iaload, 1) := by decide +kernel
theorem dX7_window_18 : decode cX7_window 18 = .ok (.iconst 1, 1) := by decide +kernel
theorem dX7_window_19 : decode cX7_window 19 = .ok (.if_icmp .ne 7, 3) := by decide +kernel
theorem dX7_window_22 : decode cX7_window 22 = .ok (.iconst 1, 1) := by decide +kernel
theorem dX7_window_23 : decode cX7_window 23 = .ok (.goto 4, 3) := by decide +kernel
theorem dX7_window_26 : decode cX7_window 26 = .ok (.iconst 0, 1) := by decide +kernel
theorem dX7_window_27 : decode cX7_window 27 = .ok (.iload_n 2, 1) := by decide +kernel
theorem dX7_window_28 : decode cX7_window 28 = .ok (.if_icmp .ne 6, 3) := by decide +kernel
theorem dX7_window_31 : decode cX7_window 31 = .ok (.bipush (-5), 2) := by decide +kernel
theorem dX7_window_33 : decode cX7_window 33 = .ok (.ireturn, 1) := by decide +kernel
theorem dX7_window_34 : decode cX7_window 34 = .ok (.aload_n 0, 1) := by decide +kernel
theorem dX7_window_35 : decode cX7_window 35 = .ok (.invokevirtual 106, 3) := by decide +kernel
theorem dX7_window_38 : decode cX7_window 38 = .ok (.aload_n 0, 1) := by decide +kernel
theorem dX7_window_39 : decode cX7_window 39 = .ok (.getfield 7, 3) := by decide +kernel
theorem dX7_window_42 : decode cX7_window 42 = .ok (.bipush 8, 2) := by decide +kernel
theorem dX7_window_44 : decode cX7_window 44 = .ok (.iload_n 1, 1) := by decide +kernel
theorem dX7_window_45 : decode cX7_window 45 = .ok (.iadd, 1) := by decide +kernel
theorem dX7_window_46 : decode cX7_window 46 = .ok (.iload_n 2, 1) := by decide +kernel
theorem dX7_window_47 : decode cX7_window 47 = .ok (.ifCond .eq 7, 3) := by decide +kernel
theorem dX7_window_50 : decode cX7_window 50 = .ok (.iconst 1, 1) := by decide +kernel
theorem dX7_window_51 : decode cX7_window 51 = .ok (.goto 4, 3) := by decide +kernel
theorem dX7_window_54 : decode cX7_window 54 = .ok (.iconst 0, 1) := by decide +kernel
theorem dX7_window_55 : decode cX7_window 55 = .ok (.iastore, 1) := by decide +kernel
theorem dX7_window_56 : decode cX7_window 56 = .ok (.aload_n 0, 1) := by decide +kernel
theorem dX7_window_57 : decode cX7_window 57 = .ok (.bipush 8, 2) := by decide +kernel
theorem dX7_window_59 : decode cX7_window 59 = .ok (.invokevirtual 113, 3) := by decide +kernel
theorem dX7_window_62 : decode cX7_window 62 = .ok (.ireturn, 1) := by decide +kernel
theorem ggX7_clerks_X7_isWindow : GoodIn wsX7_clerks wsX7_isWindow := goodIn_r _ [6, 7, 8, 9, 5, 10] (by decide +kernel) (by decide +kernel)
theorem gX7_clerks_X7_isWindow : GoodIn wsX7_clerks (va_wsS RX7 109 yX7_isWindow wsX7_isWindow) := goodIn_app (goodIn_of _ (by decide +kernel)) ggX7_clerks_X7_isWindow
theorem ggX7_clerks_X7_in : GoodIn wsX7_clerks wsX7_in := goodIn_r _ [10] (by decide +kernel) (by decide +kernel)
theorem gX7_clerks_X7_in : GoodIn wsX7_clerks (va_wsS RX7 43 yX7_in wsX7_in) := goodIn_app (goodIn_of _ (by decide +kernel)) ggX7_clerks_X7_in
theorem ggX7_clerks_X7_changes : GoodIn wsX7_clerks wsX7_changes := goodIn_r _ [14, 15, 16, 2, 17, 18, 19, 20, 21, 22, 23, 24, 25, 26, 27, 28] (by decide +kernel) (by decide +kernel)
theorem gX7_clerks_X7_changes : GoodIn wsX7_clerks (wsV RX7 106 RX7 yX7_changes wsX7_changes) := goodIn_app (goodIn_of _ (by decide +kernel)) ggX7_clerks_X7_changes
theorem dX7_clerks_0 : decode cX7_clerks 0 = .ok (.iload_n 1, 1) := by decide +kernel
theorem dX7_clerks_1 : decode cX7_clerks 1 = .ok (.invokestatic 109, 3) := by decide +kernel
theorem dX7_clerks_4 : decode cX7_clerks 4 = .ok (.ifCond .ne 5, 3) := by decide +kernel
theorem dX7_clerks_7 : decode cX7_clerks 7 = .ok (.iconst (-1), 1) := by decide +kernel
theorem dX7_clerks_8 : decode cX7_clerks 8 = .ok (.ireturn, 1) := by decide +kernel
theorem dX7_clerks_9 : decode cX7_clerks 9 = .ok (.iload_n 2, 1) := by decide +kernel
theorem dX7_clerks_10 : decode cX7_clerks 10 = .ok (.i2l, 1) := by decide +kernel
theorem dX7_clerks_11 : decode cX7_clerks 11 = .ok (.lconst 0, 1) := by decide +kernel
theorem dX7_clerks_12 : decode cX7_clerks 12 = .ok (.ldc2_w 116, 3) := by decide +kernel
theorem dX7_clerks_15 : decode cX7_clerks 15 = .ok (.invokestatic 43, 3) := by decide +kernel
theorem dX7_clerks_18 : decode cX7_clerks 18 = .ok (.ifCond .ne 6, 3) := by decide +kernel
theorem dX7_clerks_21 : decode cX7_clerks 21 = .ok (.bipush (-2), 2) := by decide +kernel
theorem dX7_clerks_23 : decode cX7_clerks 23 = .ok (.ireturn, 1) := by decide +kernel
theorem dX7_clerks_24 : decode cX7_clerks 24 = .ok (.aload_n 0, 1) := by decide +kernel
theorem dX7_clerks_25 : decode cX7_clerks 25 = .ok (.invokevirtual 106, 3) := by decide +kernel
theorem dX7_clerks_28 : decode cX7_clerks 28 = .ok (.aload_n 0, 1) := by decide +kernel
theorem dX7_clerks_29 : decode cX7_clerks 29 = .ok (.getfield 7, 3) := by decide +kernel
theorem dX7_clerks_32 : decode cX7_clerks 32 = .ok (.bipush 14, 2) := by decide +kernel
theorem dX7_clerks_34 : decode cX7_clerks 34 = .ok (.iload_n 1, 1) := by decide +kernel
theorem dX7_clerks_35 : decode cX7_clerks 35 = .ok (.iadd, 1) := by decide +kernel
theorem dX7_clerks_36 : decode cX7_clerks 36 = .ok (.iaload, 1) := by decide +kernel
theorem dX7_clerks_37 : decode cX7_clerks 37 = .ok (.istore_n 3, 1) := by decide +kernel
theorem dX7_clerks_38 : decode cX7_clerks 38 = .ok (.aload_n 0, 1) := by decide +kernel
theorem dX7_clerks_39 : decode cX7_clerks 39 = .ok (.getfield 7, 3) := by decide +kernel
theorem dX7_clerks_42 : decode cX7_clerks 42 = .ok (.bipush 14, 2) := by decide +kernel
theorem dX7_clerks_44 : decode cX7_clerks 44 = .ok (.iload_n 1, 1) := by decide +kernel
theorem dX7_clerks_45 : decode cX7_clerks 45 = .ok (.iadd, 1) := by decide +kernel
theorem dX7_clerks_46 : decode cX7_clerks 46 = .ok (.iload_n 2, 1) := by decide +kernel
theorem dX7_clerks_47 : decode cX7_clerks 47 = .ok (.iastore, 1) := by decide +kernel
theorem dX7_clerks_48 : decode cX7_clerks 48 = .ok (.iload_n 3, 1) := by decide +kernel
theorem dX7_clerks_49 : decode cX7_clerks 49 = .ok (.ireturn, 1) := by decide +kernel
theorem ggX7_bring_X7_isWindow : GoodIn wsX7_bring wsX7_isWindow := goodIn_r _ [5, 6, 7, 8, 4, 9] (by decide +kernel) (by decide +kernel)
theorem gX7_bring_X7_isWindow : GoodIn wsX7_bring (va_wsS RX7 109 yX7_isWindow wsX7_isWindow) := goodIn_app (goodIn_of _ (by decide +kernel)) ggX7_bring_X7_isWindow
theorem ggX7_bring_X7_changes : GoodIn wsX7_bring wsX7_changes := goodIn_r _ [13, 14, 15, 1, 16, 17, 18, 19, 20, 21, 22, 23, 24, 25, 26, 27] (by decide +kernel) (by decide +kernel)
theorem gX7_bring_X7_changes : GoodIn wsX7_bring (wsV RX7 106 RX7 yX7_changes wsX7_changes) := goodIn_app (goodIn_of _ (by decide +kernel)) ggX7_bring_X7_changes
theorem dX7_bring_0 : decode cX7_bring 0 = .ok (.iload_n 1, 1) := by decide +kernel
theorem dX7_bring_1 : decode cX7_bring 1 = .ok (.invokestatic 109, 3) := by decide +kernel
theorem dX7_bring_4 : decode cX7_bring 4 = .ok (.ifCond .ne 5, 3) := by decide +kernel
theorem dX7_bring_7 : decode cX7_bring 7 = .ok (.iconst (-1), 1) := by decide +kernel
theorem dX7_bring_8 : decode cX7_bring 8 = .ok (.ireturn, 1) := by decide +kernel
theorem dX7_bring_9 : decode cX7_bring 9 = .ok (.aload_n 0, 1) := by decide +kernel
theorem dX7_bring_10 : decode cX7_bring 10 = .ok (.invokevirtual 106, 3) := by decide +kernel
theorem dX7_bring_13 : decode cX7_bring 13 = .ok (.aload_n 0, 1) := by decide +kernel
theorem dX7_bring_14 : decode cX7_bring 14 = .ok (.getfield 7, 3) := by decide +kernel
theorem dX7_bring_17 : decode cX7_bring 17 = .ok (.iconst 1, 1) := by decide +kernel
theorem dX7_bring_18 : decode cX7_bring 18 = .ok (.iaload, 1) := by decide +kernel
theorem dX7_bring_19 : decode cX7_bring 19 = .ok (.aload_n 0, 1) := by decide +kernel
theorem dX7_bring_20 : decode cX7_bring 20 = .ok (.getfield 7, 3) := by decide +kernel
theorem dX7_bring_23 : decode cX7_bring 23 = .ok (.bipush 20, 2) := by decide +kernel
theorem dX7_bring_25 : decode cX7_bring 25 = .ok (.iload_n 1, 1) := by decide +kernel
theorem dX7_bring_26 : decode cX7_bring 26 = .ok (.iadd, 1) := by decide +kernel
theorem dX7_bring_27 : decode cX7_bring 27 = .ok (.iaload, 1) := by decide +kernel
theorem dX7_bring_28 : decode cX7_bring 28 = .ok (.isub, 1) := by decide +kernel
theorem dX7_bring_29 : decode cX7_bring 29 = .ok (.istore_n 2, 1) := by decide +kernel
theorem dX7_bring_30 : decode cX7_bring 30 = .ok (.iload_n 2, 1) := by decide +kernel
theorem dX7_bring_31 : decode cX7_bring 31 = .ok (.ifCond .le 7, 3) := by decide +kernel
theorem dX7_bring_34 : decode cX7_bring 34 = .ok (.iload_n 2, 1) := by decide +kernel
theorem dX7_bring_35 : decode cX7_bring 35 = .ok (.goto 4, 3) := by decide +kernel
theorem dX7_bring_38 : decode cX7_bring 38 = .ok (.iconst 0, 1) := by decide +kernel
theorem dX7_bring_39 : decode cX7_bring 39 = .ok (.istore_n 3, 1) := by decide +kernel
theorem dX7_bring_40 : decode cX7_bring 40 = .ok (.aload_n 0, 1) := by decide +kernel
theorem dX7_bring_41 : decode cX7_bring 41 = .ok (.getfield 7, 3) := by decide +kernel
theorem dX7_bring_44 : decode cX7_bring 44 = .ok (.bipush 20, 2) := by decide +kernel
theorem dX7_bring_46 : decode cX7_bring 46 = .ok (.iload_n 1, 1) := by decide +kernel
theorem dX7_bring_47 : decode cX7_bring 47 = .ok (.iadd, 1) := by decide +kernel
theorem dX7_bring_48 : decode cX7_bring 48 = .ok (.dup2, 1) := by decide +kernel
theorem dX7_bring_49 : decode cX7_bring 49 = .ok (.iaload, 1) := by decide +kernel
theorem dX7_bring_50 : decode cX7_bring 50 = .ok (.iload_n 3, 1) := by decide +kernel
theorem dX7_bring_51 : decode cX7_bring 51 = .ok (.iadd, 1) := by decide +kernel
theorem dX7_bring_52 : decode cX7_bring 52 = .ok (.iastore, 1) := by decide +kernel
theorem dX7_bring_53 : decode cX7_bring 53 = .ok (.aload_n 0, 1) := by decide +kernel
theorem dX7_bring_54 : decode cX7_bring 54 = .ok (.getfield 7, 3) := by decide +kernel
theorem dX7_bring_57 : decode cX7_bring 57 = .ok (.bipush 6, 2) := by decide +kernel
theorem dX7_bring_59 : decode cX7_bring 59 = .ok (.dup2, 1) := by decide +kernel
theorem dX7_bring_60 : decode cX7_bring 60 = .ok (.iaload, 1) := by decide +kernel
theorem dX7_bring_61 : decode cX7_bring 61 = .ok (.iload_n 3, 1) := by decide +kernel
theorem dX7_bring_62 : decode cX7_bring 62 = .ok (.iadd, 1) := by decide +kernel
theorem dX7_bring_63 : decode cX7_bring 63 = .ok (.iastore, 1) := by decide +kernel
theorem dX7_bring_64 : decode cX7_bring 64 = .ok (.iload_n 3, 1) := by decide +kernel
theorem dX7_bring_65 : decode cX7_bring 65 = .ok (.ireturn, 1) := by decide +kernel
theorem ggX7_comes_X7_lays : GoodIn wsX7_comes wsX7_lays := goodIn_r _ [6, 1, 11, 12, 13, 14, 15, 16, 17, 18, 19, 20, 21, 22] (by decide +kernel) (by decide +kernel)
theorem gX7_comes_X7_lays : GoodIn wsX7_comes (wsV RX7 59 RX7 yX7_lays wsX7_lays) := goodIn_app (goodIn_of _ (by decide +kernel)) ggX7_comes_X7_lays
theorem ggX7_comes_X7_ranks : GoodIn wsX7_comes wsX7_ranks := goodIn_r _ [10, 1, 2, 3, 4, 5, 6, 11, 12, 13, 14, 15, 16, 17, 18, 19, 20, 21, 22] (by decide +kernel) (by decide +kernel)
theorem gX7_comes_X7_ranks : GoodIn wsX7_comes (wsV RX7 63 RX7 yX7_ranks wsX7_ranks) := goodIn_app (goodIn_of _ (by decide +kernel)) ggX7_comes_X7_ranks
theorem dX7_comes_0 : decode cX7_comes 0 = .ok (.aload_n 0, 1) := by decide +kernel
theorem dX7_comes_1 : decode cX7_comes 1 = .ok (.getfield 7, 3) := by decide +kernel
theorem dX7_comes_4 : decode cX7_comes 4 = .ok (.iconst 4, 1) := by decide +kernel
theorem dX7_comes_5 : decode cX7_comes 5 = .ok (.iaload, 1) := by decide +kernel
theorem dX7_comes_6 : decode cX7_comes 6 = .ok (.istore_n 3, 1) := by decide +kernel
theorem dX7_comes_7 : decode cX7_comes 7 = .ok (.aload_n 0, 1) := by decide +kernel
theorem dX7_comes_8 : decode cX7_comes 8 = .ok (.getfield 7, 3) := by decide +kernel
theorem dX7_comes_11 : decode cX7_comes 11 = .ok (.iconst 4, 1) := by decide +kernel
theorem dX7_comes_12 : decode cX7_comes 12 = .ok (.dup2, 1) := by decide +kernel
theorem dX7_comes_13 : decode cX7_comes 13 = .ok (.iaload, 1) := by decide +kernel
theorem dX7_comes_14 : decode cX7_comes 14 = .ok (.iconst 1, 1) := by decide +kernel
theorem dX7_comes_15 : decode cX7_comes 15 = .ok (.iadd, 1) := by decide +kernel
theorem dX7_comes_16 : decode cX7_comes 16 = .ok (.iastore, 1) := by decide +kernel
theorem dX7_comes_17 : decode cX7_comes 17 = .ok (.iconst 0, 1) := by decide +kernel
theorem dX7_comes_18 : decode cX7_comes 18 = .ok (.istore 4, 2) := by decide +kernel
theorem dX7_comes_20 : decode cX7_comes 20 = .ok (.iload 4, 2) := by decide +kernel
theorem dX7_comes_22 : decode cX7_comes 22 = .ok (.bipush 12, 2) := by decide +kernel
theorem dX7_comes_24 : decode cX7_comes 24 = .ok (.if_icmp .ge 17, 3) := by decide +kernel
theorem dX7_comes_27 : decode cX7_comes 27 = .ok (.aload_n 0, 1) := by decide +kernel
theorem dX7_comes_28 : decode cX7_comes 28 = .ok (.iload_n 3, 1) := by decide +kernel
theorem dX7_comes_29 : decode cX7_comes 29 = .ok (.iload 4, 2) := by decide +kernel
theorem dX7_comes_31 : decode cX7_comes 31 = .ok (.iconst 0, 1) := by decide +kernel
theorem dX7_comes_32 : decode cX7_comes 32 = .ok (.invokevirtual 59, 3) := by decide +kernel
theorem dX7_comes_35 : decode cX7_comes 35 = .ok (.iinc 4 1, 3) := by decide +kernel
theorem dX7_comes_38 : decode cX7_comes 38 = .ok (.goto (-18), 3) := by decide +kernel
theorem dX7_comes_41 : decode cX7_comes 41 = .ok (.aload_n 0, 1) := by decide +kernel
theorem dX7_comes_42 : decode cX7_comes 42 = .ok (.iload_n 3, 1) := by decide +kernel
theorem dX7_comes_43 : decode cX7_comes 43 = .ok (.iconst 3, 1) := by decide +kernel
theorem dX7_comes_44 : decode cX7_comes 44 = .ok (.iload_n 1, 1) := by decide +kernel
theorem dX7_comes_45 : decode cX7_comes 45 = .ok (.invokevirtual 59, 3) := by decide +kernel
theorem dX7_comes_48 : decode cX7_comes 48 = .ok (.aload_n 0, 1) := by decide +kernel
theorem dX7_comes_49 : decode cX7_comes 49 = .ok (.iload_n 3, 1) := by decide +kernel
theorem dX7_comes_50 : decode cX7_comes 50 = .ok (.iconst 2, 1) := by decide +kernel
theorem dX7_comes_51 : decode cX7_comes 51 = .ok (.iload_n 2, 1) := by decide +kernel
theorem dX7_comes_52 : decode cX7_comes 52 = .ok (.invokevirtual 59, 3) := by decide +kernel
theorem dX7_comes_55 : decode cX7_comes 55 = .ok (.aload_n 0, 1) := by decide +kernel
theorem dX7_comes_56 : decode cX7_comes 56 = .ok (.iload_n 3, 1) := by decide +kernel
theorem dX7_comes_57 : decode cX7_comes 57 = .ok (.bipush 7, 2) := by decide +kernel
theorem dX7_comes_59 : decode cX7_comes 59 = .ok (.bipush (-6), 2) := by decide +kernel
theorem dX7_comes_61 : decode cX7_comes 61 = .ok (.invokevirtual 59, 3) := by decide +kernel
theorem dX7_comes_64 : decode cX7_comes 64 = .ok (.aload_n 0, 1) := by decide +kernel
theorem dX7_comes_65 : decode cX7_comes 65 = .ok (.iload_n 3, 1) := by decide +kernel
theorem dX7_comes_66 : decode cX7_comes 66 = .ok (.invokevirtual 63, 3) := by decide +kernel
theorem dX7_comes_69 : decode cX7_comes 69 = .ok (.return_, 1) := by decide +kernel
theorem ggX7_leave_X7_isPerson : GoodIn wsX7_leave wsX7_isPerson := goodIn_r _ [6, 1, 7, 8, 5, 9, 32, 33, 34, 35, 36, 37, 38, 39, 40, 41, 42, 43] (by decide +kernel) (by decide +kernel)
theorem gX7_leave_X7_isPerson : GoodIn wsX7_leave (wsV RX7 118 RX7 yX7_isPerson wsX7_isPerson) := goodIn_app (goodIn_of _ (by decide +kernel)) ggX7_leave_X7_isPerson
theorem ggX7_leave_X7_get : GoodIn wsX7_leave wsX7_get := goodIn_r _ [13, 1, 32, 33, 34, 35, 36, 37, 38, 39, 40, 41, 42, 43] (by decide +kernel) (by decide +kernel)
theorem gX7_leave_X7_get : GoodIn wsX7_leave (wsV RX7 47 RX7 yX7_get wsX7_get) := goodIn_app (goodIn_of _ (by decide +kernel)) ggX7_leave_X7_get
theorem ggX7_leave_X7_changes : GoodIn wsX7_leave wsX7_changes := goodIn_r _ [17, 18, 19, 1, 32, 33, 34, 35, 36, 37, 38, 39, 40, 41, 42, 43] (by decide +kernel) (by decide +kernel)
theorem gX7_leave_X7_changes : GoodIn wsX7_leave (wsV RX7 106 RX7 yX7_changes wsX7_changes) := goodIn_app (goodIn_of _ (by decide +kernel)) ggX7_leave_X7_changes
theorem ggX7_leave_X7_leavesFor : GoodIn wsX7_leave wsX7_leavesFor := goodIn_r _ [23, 1, 10, 11, 12, 5, 13, 24, 25, 26, 27, 28, 29, 30, 31, 32, 33, 34, 35, 36, 37, 38, 39, 40, 41, 42, 43] (by decide +kernel) (by decide +kernel)
theorem gX7_leave_X7_leavesFor : GoodIn wsX7_leave (wsV RX7 87 RX7 yX7_leavesFor wsX7_leavesFor) := goodIn_app (goodIn_of _ (by decide +kernel)) ggX7_leave_X7_leavesFor
theorem dX7_leave_0 : decode cX7_leave 0 = .ok (.aload_n 0, 1) := by decide +kernel
theorem dX7_leave_1 : decode cX7_leave 1 = .ok (.iload_n 1, 1) := by decide +kernel
theorem dX7_leave_2 : decode cX7_leave 2 = .ok (.invokevirtual 118, 3) := by decide +kernel
theorem dX7_leave_5 : decode cX7_leave 5 = .ok (.ifCond .ne 5, 3) := by decide +kernel
theorem dX7_leave_8 : decode cX7_leave 8 = .ok (.iconst (-1), 1) := by decide +kernel
theorem dX7_leave_9 : decode cX7_leave 9 = .ok (.ireturn, 1) := by decide +kernel
theorem dX7_leave_10 : decode cX7_leave 10 = .ok (.aload_n 0, 1) := by decide +kernel
theorem dX7_leave_11 : decode cX7_leave 11 = .ok (.iload_n 1, 1) := by decide +kernel
theorem dX7_leave_12 : decode cX7_leave 12 = .ok (.iconst 0, 1) := by decide +kernel
theorem dX7_leave_13 : decode cX7_leave 13 = .ok (.invokevirtual 47, 3) := by decide +kernel
theorem dX7_leave_16 : decode cX7_leave 16 = .ok (.ifCond .eq 6, 3) := by decide +kernel
theorem dX7_leave_19 : decode cX7_leave 19 = .ok (.bipush (-5), 2) := by decide +kernel
theorem dX7_leave_21 : decode cX7_leave 21 = .ok (.ireturn, 1) := by decide +kernel
theorem dX7_leave_22 : decode cX7_leave 22 = .ok (.aload_n 0, 1) := by decide +kernel
theorem dX7_leave_23 : decode cX7_leave 23 = .ok (.invokevirtual 106, 3) := by decide +kernel
theorem dX7_leave_26 : decode cX7_leave 26 = .ok (.aload_n 0, 1) := by decide +kernel
theorem dX7_leave_27 : decode cX7_leave 27 = .ok (.iload_n 1, 1) := by decide +kernel
theorem dX7_leave_28 : decode cX7_leave 28 = .ok (.aload_n 0, 1) := by decide +kernel
theorem dX7_leave_29 : decode cX7_leave 29 = .ok (.getfield 7, 3) := by decide +kernel
theorem dX7_leave_32 : decode cX7_leave 32 = .ok (.iconst 3, 1) := by decide +kernel
theorem dX7_leave_33 : decode cX7_leave 33 = .ok (.iaload, 1) := by decide +kernel
theorem dX7_leave_34 : decode cX7_leave 34 = .ok (.invokevirtual 87, 3) := by decide +kernel
theorem dX7_leave_37 : decode cX7_leave 37 = .ok (.aload_n 0, 1) := by decide +kernel
theorem dX7_leave_38 : decode cX7_leave 38 = .ok (.iload_n 1, 1) := by decide +kernel
theorem dX7_leave_39 : decode cX7_leave 39 = .ok (.iconst 1, 1) := by decide +kernel
theorem dX7_leave_40 : decode cX7_leave 40 = .ok (.invokevirtual 47, 3) := by decide +kernel
theorem dX7_leave_43 : decode cX7_leave 43 = .ok (.ireturn, 1) := by decide +kernel
theorem ggX7_pass_X7_in : GoodIn wsX7_pass wsX7_in := goodIn_r _ [6] (by decide +kernel) (by decide +kernel)
theorem gX7_pass_X7_in : GoodIn wsX7_pass (va_wsS RX7 43 yX7_in wsX7_in) := goodIn_app (goodIn_of _ (by decide +kernel)) ggX7_pass_X7_in
theorem ggX7_pass_X7_changes : GoodIn wsX7_pass wsX7_changes := goodIn_r _ [10, 11, 12, 2, 78, 79, 80, 81, 82, 83, 84, 85, 86, 87, 88, 89] (by decide +kernel) (by decide +kernel)
theorem gX7_pass_X7_changes : GoodIn wsX7_pass (wsV RX7 106 RX7 yX7_changes wsX7_changes) := goodIn_app (goodIn_of _ (by decide +kernel)) ggX7_pass_X7_changes
theorem ggX7_pass_X7_thatAre : GoodIn wsX7_pass wsX7_thatAre := goodIn_r _ [16, 2, 17, 18, 19, 5, 20, 78, 79, 80, 81, 82, 83, 84, 85, 86, 87, 88, 89] (by decide +kernel) (by decide +kernel)
theorem gX7_pass_X7_thatAre : GoodIn wsX7_pass (wsV RX7 123 RX7 yX7_thatAre wsX7_thatAre) := goodIn_app (goodIn_of _ (by decide +kernel)) ggX7_pass_X7_thatAre
theorem ggX7_pass_X7_ticks : GoodIn wsX7_pass wsX7_ticks := goodIn_r _ [24, 25, 2, 26, 27, 28, 5, 29, 30, 31, 32, 33, 34, 35, 36, 37, 17, 18, 19, 20, 38, 39, 40, 41, 42, 43, 44, 45, 46, 47, 48, 49, 50, 51, 52, 53, 54, 55, 56, 57, 58, 59, 60, 61, 62, 63, 64, 65, 66, 67, 68, 69, 70, 71, 72, 73, 74, 75, 76, 77, 78, 79, 80, 81, 82, 83, 84, 85, 86, 87, 88, 89] (by decide +kernel) (by decide +kernel)
theorem gX7_pass_X7_ticks : GoodIn wsX7_pass (wsV RX7 126 RX7 yX7_ticks wsX7_ticks) := goodIn_app (goodIn_of _ (by decide +kernel)) ggX7_pass_X7_ticks
theorem dX7_pass_0 : decode cX7_pass 0 = .ok (.iload_n 1, 1) := by decide +kernel
theorem dX7_pass_1 : decode cX7_pass 1 = .ok (.i2l, 1) := by decide +kernel
theorem dX7_pass_2 : decode cX7_pass 2 = .ok (.lconst 1, 1) := by decide +kernel
theorem dX7_pass_3 : decode cX7_pass 3 = .ok (.ldc2_w 121, 3) := by decide +kernel
theorem dX7_pass_6 : decode cX7_pass 6 = .ok (.invokestatic 43, 3) := by decide +kernel
theorem dX7_pass_9 : decode cX7_pass 9 = .ok (.ifCond .ne 6, 3) := by decide +kernel
theorem dX7_pass_12 : decode cX7_pass 12 = .ok (.bipush (-2), 2) := by decide +kernel
theorem dX7_pass_14 : decode cX7_pass 14 = .ok (.ireturn, 1) := by decide +kernel
theorem dX7_pass_15 : decode cX7_pass 15 = .ok (.aload_n 0, 1) := by decide +kernel
theorem dX7_pass_16 : decode cX7_pass 16 = .ok (.getfield 7, 3) := by decide +kernel
theorem dX7_pass_19 : decode cX7_pass 19 = .ok (.iconst 3, 1) := by decide +kernel
theorem dX7_pass_20 : decode cX7_pass 20 = .ok (.iaload, 1) := by decide +kernel
theorem dX7_pass_21 : decode cX7_pass 21 = .ok (.iload_n 1, 1) := by decide +kernel
theorem dX7_pass_22 : decode cX7_pass 22 = .ok (.iadd, 1) := by decide +kernel
theorem dX7_pass_23 : decode cX7_pass 23 = .ok (.sipush 9999, 3) := by decide +kernel
theorem dX7_pass_26 : decode cX7_pass 26 = .ok (.if_icmp .le 6, 3) := by decide +kernel
theorem dX7_pass_29 : decode cX7_pass 29 = .ok (.bipush (-4), 2) := by decide +kernel
theorem dX7_pass_31 : decode cX7_pass 31 = .ok (.ireturn, 1) := by decide +kernel
theorem dX7_pass_32 : decode cX7_pass 32 = .ok (.aload_n 0, 1) := by decide +kernel
theorem dX7_pass_33 : decode cX7_pass 33 = .ok (.invokevirtual 106, 3) := by decide +kernel
theorem dX7_pass_36 : decode cX7_pass 36 = .ok (.aload_n 0, 1) := by decide +kernel
theorem dX7_pass_37 : decode cX7_pass 37 = .ok (.iconst 2, 1) := by decide +kernel
theorem dX7_pass_38 : decode cX7_pass 38 = .ok (.invokevirtual 123, 3) := by decide +kernel
theorem dX7_pass_41 : decode cX7_pass 41 = .ok (.istore_n 2, 1) := by decide +kernel
theorem dX7_pass_42 : decode cX7_pass 42 = .ok (.iconst 0, 1) := by decide +kernel
theorem dX7_pass_43 : decode cX7_pass 43 = .ok (.istore_n 3, 1) := by decide +kernel
theorem dX7_pass_44 : decode cX7_pass 44 = .ok (.iload_n 3, 1) := by decide +kernel
theorem dX7_pass_45 : decode cX7_pass 45 = .ok (.iload_n 1, 1) := by decide +kernel
theorem dX7_pass_46 : decode cX7_pass 46 = .ok (.if_icmp .ge 13, 3) := by decide +kernel
theorem dX7_pass_49 : decode cX7_pass 49 = .ok (.aload_n 0, 1) := by decide +kernel
theorem dX7_pass_50 : decode cX7_pass 50 = .ok (.invokevirtual 126, 3) := by decide +kernel
theorem dX7_pass_53 : decode cX7_pass 53 = .ok (.iinc 3 1, 3) := by decide +kernel
theorem dX7_pass_56 : decode cX7_pass 56 = .ok (.goto (-12), 3) := by decide +kernel
theorem dX7_pass_59 : decode cX7_pass 59 = .ok (.aload_n 0, 1) := by decide +kernel
theorem dX7_pass_60 : decode cX7_pass 60 = .ok (.iconst 2, 1) := by decide +kernel
theorem dX7_pass_61 : decode cX7_pass 61 = .ok (.invokevirtual 123, 3) := by decide +kernel
theorem dX7_pass_64 : decode cX7_pass 64 = .ok (.iload_n 2, 1) := by decide +kernel
theorem dX7_pass_65 : decode cX7_pass 65 = .ok (.isub, 1) := by decide +kernel
theorem dX7_pass_66 : decode cX7_pass 66 = .ok (.ireturn, 1) := by decide +kernel
theorem ggX7_placeOf_X7_get : GoodIn wsX7_placeOf wsX7_get := goodIn_r _ [6, 1, 15, 16, 17, 18, 19, 20, 21, 22, 23, 24, 25, 26] (by decide +kernel) (by decide +kernel)
theorem gX7_placeOf_X7_get : GoodIn wsX7_placeOf (wsV RX7 47 RX7 yX7_get wsX7_get) := goodIn_app (goodIn_of _ (by decide +kernel)) ggX7_placeOf_X7_get
theorem ggX7_placeOf_X7_windowAt : GoodIn wsX7_placeOf wsX7_windowAt := goodIn_r _ [10, 2, 3, 4, 5, 6, 1, 15, 16, 17, 18, 19, 20, 21, 22, 23, 24, 25, 26] (by decide +kernel) (by decide +kernel)
theorem gX7_placeOf_X7_windowAt : GoodIn wsX7_placeOf (wsV RX7 51 RX7 yX7_windowAt wsX7_windowAt) := goodIn_app (goodIn_of _ (by decide +kernel)) ggX7_placeOf_X7_windowAt
theorem ggX7_placeOf_X7_isAt : GoodIn wsX7_placeOf wsX7_isAt := goodIn_r _ [14, 2, 3, 4, 5, 6, 1, 7, 8, 9, 10, 15, 16, 17, 18, 19, 20, 21, 22, 23, 24, 25, 26] (by decide +kernel) (by decide +kernel)
theorem gX7_placeOf_X7_isAt : GoodIn wsX7_placeOf (wsV RX7 55 RX7 yX7_isAt wsX7_isAt) := goodIn_app (goodIn_of _ (by decide +kernel)) ggX7_placeOf_X7_isAt
theorem dX7_placeOf_0 : decode cX7_placeOf 0 = .ok (.aload_n 0, 1) := by decide +kernel
theorem dX7_placeOf_1 : decode cX7_placeOf 1 = .ok (.iload_n 1, 1) := by decide +kernel
theorem dX7_placeOf_2 : decode cX7_placeOf 2 = .ok (.iconst 0, 1) := by decide +kernel
theorem dX7_placeOf_3 : decode cX7_placeOf 3 = .ok (.invokevirtual 47, 3) := by decide +kernel
theorem dX7_placeOf_6 : decode cX7_placeOf 6 = .ok (.ifCond .eq 6, 3) := by decide +kernel
theorem dX7_placeOf_9 : decode cX7_placeOf 9 = .ok (.bipush (-6), 2) := by decide +kernel
theorem dX7_placeOf_11 : decode cX7_placeOf 11 = .ok (.ireturn, 1) := by decide +kernel
theorem dX7_placeOf_12 : decode cX7_placeOf 12 = .ok (.iconst 0, 1) := by decide +kernel
theorem dX7_placeOf_13 : decode cX7_placeOf 13 = .ok (.istore_n 2, 1) := by decide +kernel
theorem dX7_placeOf_14 : decode cX7_placeOf 14 = .ok (.iconst 0, 1) := by decide +kernel
theorem dX7_placeOf_15 : decode cX7_placeOf 15 = .ok (.istore_n 3, 1) := by decide +kernel
theorem dX7_placeOf_16 : decode cX7_placeOf 16 = .ok (.iload_n 3, 1) := by decide +kernel
theorem dX7_placeOf_17 : decode cX7_placeOf 17 = .ok (.aload_n 0, 1) := by decide +kernel
theorem dX7_placeOf_18 : decode cX7_placeOf 18 = .ok (.getfield 7, 3) := by decide +kernel
theorem dX7_placeOf_21 : decode cX7_placeOf 21 = .ok (.iconst 4, 1) := by decide +kernel
theorem dX7_placeOf_22 : decode cX7_placeOf 22 = .ok (.iaload, 1) := by decide +kernel
theorem dX7_placeOf_23 : decode cX7_placeOf 23 = .ok (.if_icmp .ge 48, 3) := by decide +kernel
theorem dX7_placeOf_26 : decode cX7_placeOf 26 = .ok (.iload_n 2, 1) := by decide +kernel
theorem dX7_placeOf_27 : decode cX7_placeOf 27 = .ok (.aload_n 0, 1) := by decide +kernel
theorem dX7_placeOf_28 : decode cX7_placeOf 28 = .ok (.iload_n 3, 1) := by decide +kernel
theorem dX7_placeOf_29 : decode cX7_placeOf 29 = .ok (.iconst 0, 1) := by decide +kernel
theorem dX7_placeOf_30 : decode cX7_placeOf 30 = .ok (.aload_n 0, 1) := by decide +kernel
theorem dX7_placeOf_31 : decode cX7_placeOf 31 = .ok (.iload_n 1, 1) := by decide +kernel
theorem dX7_placeOf_32 : decode cX7_placeOf 32 = .ok (.invokevirtual 51, 3) := by decide +kernel
theorem dX7_placeOf_35 : decode cX7_placeOf 35 = .ok (.invokevirtual 55, 3) := by decide +kernel
theorem dX7_placeOf_38 : decode cX7_placeOf 38 = .ok (.ifCond .eq 24, 3) := by decide +kernel
theorem dX7_placeOf_41 : decode cX7_placeOf 41 = .ok (.aload_n 0, 1) := by decide +kernel
theorem dX7_placeOf_42 : decode cX7_placeOf 42 = .ok (.iload_n 3, 1) := by decide +kernel
theorem dX7_placeOf_43 : decode cX7_placeOf 43 = .ok (.bipush 10, 2) := by decide +kernel
theorem dX7_placeOf_45 : decode cX7_placeOf 45 = .ok (.invokevirtual 47, 3) := by decide +kernel
theorem dX7_placeOf_48 : decode cX7_placeOf 48 = .ok (.aload_n 0, 1) := by decide +kernel
theorem dX7_placeOf_49 : decode cX7_placeOf 49 = .ok (.iload_n 1, 1) := by decide +kernel
theorem dX7_placeOf_50 : decode cX7_placeOf 50 = .ok (.bipush 10, 2) := by decide +kernel
theorem dX7_placeOf_52 : decode cX7_placeOf 52 = .ok (.invokevirtual 47, 3) := by decide +kernel
theorem dX7_placeOf_55 : decode cX7_placeOf 55 = .ok (.if_icmp .ge 7, 3) := by decide +kernel
theorem dX7_placeOf_58 : decode cX7_placeOf 58 = .ok (.iconst 1, 1) := by decide +kernel
theorem dX7_placeOf_59 : decode cX7_placeOf 59 = .ok (.goto 4, 3) := by decide +kernel
theorem dX7_placeOf_62 : decode cX7_placeOf 62 = .ok (.iconst 0, 1) := by decide +kernel
theorem dX7_placeOf_63 : decode cX7_placeOf 63 = .ok (.iadd, 1) := by decide +kernel
theorem dX7_placeOf_64 : decode cX7_placeOf 64 = .ok (.istore_n 2, 1) := by decide +kernel
theorem dX7_placeOf_65 : decode cX7_placeOf 65 = .ok (.iinc 3 1, 3) := by decide +kernel
theorem dX7_placeOf_68 : decode cX7_placeOf 68 = .ok (.goto (-52), 3) := by decide +kernel
theorem dX7_placeOf_71 : decode cX7_placeOf 71 = .ok (.iload_n 2, 1) := by decide +kernel
theorem dX7_placeOf_72 : decode cX7_placeOf 72 = .ok (.ireturn, 1) := by decide +kernel
theorem ggX7_person_X7_isPerson : GoodIn wsX7_person wsX7_isPerson := goodIn_r _ [5, 6, 7, 8, 4, 9, 26, 27, 28, 29, 30, 31, 32, 33, 34, 35, 36, 37] (by decide +kernel) (by decide +kernel)
theorem gX7_person_X7_isPerson : GoodIn wsX7_person (wsV RX7 118 RX7 yX7_isPerson wsX7_isPerson) := goodIn_app (goodIn_of _ (by decide +kernel)) ggX7_person_X7_isPerson
theorem ggX7_person_X7_get : GoodIn wsX7_person wsX7_get := goodIn_r _ [13, 6, 26, 27, 28, 29, 30, 31, 32, 33, 34, 35, 36, 37] (by decide +kernel) (by decide +kernel)
theorem gX7_person_X7_get : GoodIn wsX7_person (wsV RX7 47 RX7 yX7_get wsX7_get) := goodIn_app (goodIn_of _ (by decide +kernel)) ggX7_person_X7_get
theorem ggX7_person_X7_windowAt : GoodIn wsX7_person wsX7_windowAt := goodIn_r _ [17, 10, 11, 12, 4, 13, 6, 26, 27, 28, 29, 30, 31, 32, 33, 34, 35, 36, 37] (by decide +kernel) (by decide +kernel)
theorem gX7_person_X7_windowAt : GoodIn wsX7_person (wsV RX7 51 RX7 yX7_windowAt wsX7_windowAt) := goodIn_app (goodIn_of _ (by decide +kernel)) ggX7_person_X7_windowAt
theorem ggX7_person_X7_placeOf : GoodIn wsX7_person wsX7_placeOf := goodIn_r _ [21, 6, 10, 11, 12, 4, 13, 14, 15, 16, 17, 22, 23, 24, 25, 26, 27, 28, 29, 30, 31, 32, 33, 34, 35, 36, 37] (by decide +kernel) (by decide +kernel)
theorem gX7_person_X7_placeOf : GoodIn wsX7_person (wsV RX7 129 RX7 yX7_placeOf wsX7_placeOf) := goodIn_app (goodIn_of _ (by decide +kernel)) ggX7_person_X7_placeOf
theorem dX7_person_0 : decode cX7_person 0 = .ok (.aload_n 0, 1) := by decide +kernel
theorem dX7_person_1 : decode cX7_person 1 = .ok (.iload_n 1, 1) := by decide +kernel
theorem dX7_person_2 : decode cX7_person 2 = .ok (.invokevirtual 118, 3) := by decide +kernel
theorem dX7_person_5 : decode cX7_person 5 = .ok (.ifCond .ne 5, 3) := by decide +kernel
theorem dX7_person_8 : decode cX7_person 8 = .ok (.iconst (-1), 1) := by decide +kernel
theorem dX7_person_9 : decode cX7_person 9 = .ok (.ireturn, 1) := by decide +kernel
theorem dX7_person_10 : decode cX7_person 10 = .ok (.iload_n 2, 1) := by decide +kernel
theorem dX7_person_11 : decode cX7_person 11 = .ok (.tableswitch 116 0 8 #[49, 56, 77, 83, 90, 97, 104, 104, 104], 49) := by decide +kernel
theorem dX7_person_60 : decode cX7_person 60 = .ok (.aload_n 0, 1) := by decide +kernel
theorem dX7_person_61 : decode cX7_person 61 = .ok (.iload_n 1, 1) := by decide +kernel
theorem dX7_person_62 : decode cX7_person 62 = .ok (.iconst 0, 1) := by decide +kernel
theorem dX7_person_63 : decode cX7_person 63 = .ok (.invokevirtual 47, 3) := by decide +kernel
theorem dX7_person_66 : decode cX7_person 66 = .ok (.ireturn, 1) := by decide +kernel
theorem dX7_person_67 : decode cX7_person 67 = .ok (.aload_n 0, 1) := by decide +kernel
theorem dX7_person_68 : decode cX7_person 68 = .ok (.iload_n 1, 1) := by decide +kernel
theorem dX7_person_69 : decode cX7_person 69 = .ok (.iconst 0, 1) := by decide +kernel
theorem dX7_person_70 : decode cX7_person 70 = .ok (.invokevirtual 47, 3) := by decide +kernel
theorem dX7_person_73 : decode cX7_person 73 = .ok (.iconst 1, 1) := by decide +kernel
theorem dX7_person_74 : decode cX7_person 74 = .ok (.if_icmp .le 8, 3) := by decide +kernel
theorem dX7_person_77 : decode cX7_person 77 = .ok (.bipush (-6), 2) := by decide +kernel
theorem dX7_person_79 : decode cX7_person 79 = .ok (.goto 8, 3) := by decide +kernel
theorem dX7_person_82 : decode cX7_person 82 = .ok (.aload_n 0, 1) := by decide +kernel
theorem dX7_person_83 : decode cX7_person 83 = .ok (.iload_n 1, 1) := by decide +kernel
theorem dX7_person_84 : decode cX7_person 84 = .ok (.invokevirtual 51, 3) := by decide +kernel
theorem dX7_person_87 : decode cX7_person 87 = .ok (.ireturn, 1) := by decide +kernel
theorem dX7_person_88 : decode cX7_person 88 = .ok (.aload_n 0, 1) := by decide +kernel
theorem dX7_person_89 : decode cX7_person 89 = .ok (.iload_n 1, 1) := by decide +kernel
theorem dX7_person_90 : decode cX7_person 90 = .ok (.invokevirtual 129, 3) := by decide +kernel
theorem dX7_person_93 : decode cX7_person 93 = .ok (.ireturn, 1) := by decide +kernel
theorem dX7_person_94 : decode cX7_person 94 = .ok (.aload_n 0, 1) := by decide +kernel
theorem dX7_person_95 : decode cX7_person 95 = .ok (.iload_n 1, 1) := by decide +kernel
theorem dX7_person_96 : decode cX7_person 96 = .ok (.iconst 4, 1) := by decide +kernel
theorem dX7_person_97 : decode cX7_person 97 = .ok (.invokevirtual 47, 3) := by decide +kernel
theorem dX7_person_100 : decode cX7_person 100 = .ok (.ireturn, 1) := by decide +kernel
theorem dX7_person_101 : decode cX7_person 101 = .ok (.aload_n 0, 1) := by decide +kernel
theorem dX7_person_102 : decode cX7_person 102 = .ok (.iload_n 1, 1) := by decide +kernel
theorem dX7_person_103 : decode cX7_person 103 = .ok (.iconst 1, 1) := by decide +kernel
theorem dX7_person_104 : decode cX7_person 104 = .ok (.invokevirtual 47, 3) := by decide +kernel
theorem dX7_person_107 : decode cX7_person 107 = .ok (.ireturn, 1) := by decide +kernel
theorem dX7_person_108 : decode cX7_person 108 = .ok (.aload_n 0, 1) := by decide +kernel
theorem dX7_person_109 : decode cX7_person 109 = .ok (.iload_n 1, 1) := by decide +kernel
theorem dX7_person_110 : decode cX7_person 110 = .ok (.iconst 2, 1) := by decide +kernel
theorem dX7_person_111 : decode cX7_person 111 = .ok (.invokevirtual 47, 3) := by decide +kernel
theorem dX7_person_114 : decode cX7_person 114 = .ok (.ireturn, 1) := by decide +kernel
theorem dX7_person_115 : decode cX7_person 115 = .ok (.aload_n 0, 1) := by decide +kernel
theorem dX7_person_116 : decode cX7_person 116 = .ok (.iload_n 1, 1) := by decide +kernel
theorem dX7_person_117 : decode cX7_person 117 = .ok (.iconst 5, 1) := by decide +kernel
theorem dX7_person_118 : decode cX7_person 118 = .ok (.iload_n 2, 1) := by decide +kernel
theorem dX7_person_119 : decode cX7_person 119 = .ok (.iadd, 1) := by decide +kernel
theorem dX7_person_120 : decode cX7_person 120 = .ok (.bipush 6, 2) := by decide +kernel
theorem dX7_person_122 : decode cX7_person 122 = .ok (.isub, 1) := by decide +kernel
theorem dX7_person_123 : decode cX7_person 123 = .ok (.invokevirtual 47, 3) := by decide +kernel
theorem dX7_person_126 : decode cX7_person 126 = .ok (.ireturn, 1) := by decide +kernel
theorem dX7_person_127 : decode cX7_person 127 = .ok (.bipush (-2), 2) := by decide +kernel
theorem dX7_person_129 : decode cX7_person 129 = .ok (.ireturn, 1) := by decide +kernel
theorem ggX7_windowOf_X7_isWindow : GoodIn wsX7_windowOf wsX7_isWindow := goodIn_r _ [5, 6, 7, 8, 4, 9] (by decide +kernel) (by decide +kernel)
theorem gX7_windowOf_X7_isWindow : GoodIn wsX7_windowOf (va_wsS RX7 109 yX7_isWindow wsX7_isWindow) := goodIn_app (goodIn_of _ (by decide +kernel)) ggX7_windowOf_X7_isWindow
theorem ggX7_windowOf_X7_manyAt : GoodIn wsX7_windowOf wsX7_manyAt := goodIn_r _ [13, 1, 14, 15, 16, 4, 17, 18, 19, 20, 21, 22, 23, 24, 25, 26, 27, 28, 29, 30, 31, 32, 33, 34, 35, 36, 37] (by decide +kernel) (by decide +kernel)
theorem gX7_windowOf_X7_manyAt : GoodIn wsX7_windowOf (wsV RX7 84 RX7 yX7_manyAt wsX7_manyAt) := goodIn_app (goodIn_of _ (by decide +kernel)) ggX7_windowOf_X7_manyAt
theorem dX7_windowOf_0 : decode cX7_windowOf 0 = .ok (.iload_n 1, 1) := by decide +kernel
theorem dX7_windowOf_1 : decode cX7_windowOf 1 = .ok (.invokestatic 109, 3) := by decide +kernel
theorem dX7_windowOf_4 : decode cX7_windowOf 4 = .ok (.ifCond .ne 5, 3) := by decide +kernel
theorem dX7_windowOf_7 : decode cX7_windowOf 7 = .ok (.iconst (-1), 1) := by decide +kernel
theorem dX7_windowOf_8 : decode cX7_windowOf 8 = .ok (.ireturn, 1) := by decide +kernel
theorem dX7_windowOf_9 : decode cX7_windowOf 9 = .ok (.iload_n 2, 1) := by decide +kernel
theorem dX7_windowOf_10 : decode cX7_windowOf 10 = .ok (.tableswitch 83 0 6 #[42, 42, 42, 57, 57, 66, 66], 42) := by decide +kernel
theorem dX7_windowOf_52 : decode cX7_windowOf 52 = .ok (.aload_n 0, 1) := by decide +kernel
theorem dX7_windowOf_53 : decode cX7_windowOf 53 = .ok (.getfield 7, 3) := by decide +kernel
theorem dX7_windowOf_56 : decode cX7_windowOf 56 = .ok (.bipush 8, 2) := by decide +kernel
theorem dX7_windowOf_58 : decode cX7_windowOf 58 = .ok (.bipush 6, 2) := by decide +kernel
theorem dX7_windowOf_60 : decode cX7_windowOf 60 = .ok (.iload_n 2, 1) := by decide +kernel
theorem dX7_windowOf_61 : decode cX7_windowOf 61 = .ok (.imul, 1) := by decide +kernel
theorem dX7_windowOf_62 : decode cX7_windowOf 62 = .ok (.iadd, 1) := by decide +kernel
theorem dX7_windowOf_63 : decode cX7_windowOf 63 = .ok (.iload_n 1, 1) := by decide +kernel
theorem dX7_windowOf_64 : decode cX7_windowOf 64 = .ok (.iadd, 1) := by decide +kernel
theorem dX7_windowOf_65 : decode cX7_windowOf 65 = .ok (.iaload, 1) := by decide +kernel
theorem dX7_windowOf_66 : decode cX7_windowOf 66 = .ok (.ireturn, 1) := by decide +kernel
theorem dX7_windowOf_67 : decode cX7_windowOf 67 = .ok (.aload_n 0, 1) := by decide +kernel
theorem dX7_windowOf_68 : decode cX7_windowOf 68 = .ok (.iload_n 2, 1) := by decide +kernel
theorem dX7_windowOf_69 : decode cX7_windowOf 69 = .ok (.iconst 3, 1) := by decide +kernel
theorem dX7_windowOf_70 : decode cX7_windowOf 70 = .ok (.isub, 1) := by decide +kernel
theorem dX7_windowOf_71 : decode cX7_windowOf 71 = .ok (.iload_n 1, 1) := by decide +kernel
theorem dX7_windowOf_72 : decode cX7_windowOf 72 = .ok (.invokevirtual 84, 3) := by decide +kernel
theorem dX7_windowOf_75 : decode cX7_windowOf 75 = .ok (.ireturn, 1) := by decide +kernel
theorem dX7_windowOf_76 : decode cX7_windowOf 76 = .ok (.aload_n 0, 1) := by decide +kernel
theorem dX7_windowOf_77 : decode cX7_windowOf 77 = .ok (.getfield 7, 3) := by decide +kernel
theorem dX7_windowOf_80 : decode cX7_windowOf 80 = .ok (.bipush 26, 2) := by decide +kernel
theorem dX7_windowOf_82 : decode cX7_windowOf 82 = .ok (.bipush 6, 2) := by decide +kernel
theorem dX7_windowOf_84 : decode cX7_windowOf 84 = .ok (.iload_n 2, 1) := by decide +kernel
theorem dX7_windowOf_85 : decode cX7_windowOf 85 = .ok (.iconst 5, 1) := by decide +kernel
theorem dX7_windowOf_86 : decode cX7_windowOf 86 = .ok (.isub, 1) := by decide +kernel
theorem dX7_windowOf_87 : decode cX7_windowOf 87 = .ok (.imul, 1) := by decide +kernel
theorem dX7_windowOf_88 : decode cX7_windowOf 88 = .ok (.iadd, 1) := by decide +kernel
theorem dX7_windowOf_89 : decode cX7_windowOf 89 = .ok (.iload_n 1, 1) := by decide +kernel
theorem dX7_windowOf_90 : decode cX7_windowOf 90 = .ok (.iadd, 1) := by decide +kernel
theorem dX7_windowOf_91 : decode cX7_windowOf 91 = .ok (.iaload, 1) := by decide +kernel
theorem dX7_windowOf_92 : decode cX7_windowOf 92 = .ok (.ireturn, 1) := by decide +kernel
theorem dX7_windowOf_93 : decode cX7_windowOf 93 = .ok (.bipush (-2), 2) := by decide +kernel
theorem dX7_windowOf_95 : decode cX7_windowOf 95 = .ok (.ireturn, 1) := by decide +kernel
theorem ggX7_sumOf_X7_get : GoodIn wsX7_sumOf wsX7_get := goodIn_r _ [6, 1, 7, 8, 9, 10, 11, 12, 13, 14, 15, 16, 17, 18] (by decide +kernel) (by decide +kernel)
theorem gX7_sumOf_X7_get : GoodIn wsX7_sumOf (wsV RX7 47 RX7 yX7_get wsX7_get) := goodIn_app (goodIn_of _ (by decide +kernel)) ggX7_sumOf_X7_get
theorem dX7_sumOf_0 : decode cX7_sumOf 0 = .ok (.iconst 0, 1) := by decide +kernel
theorem dX7_sumOf_1 : decode cX7_sumOf 1 = .ok (.istore_n 2, 1) := by decide +kernel
theorem dX7_sumOf_2 : decode cX7_sumOf 2 = .ok (.iconst 0, 1) := by decide +kernel
theorem dX7_sumOf_3 : decode cX7_sumOf 3 = .ok (.istore_n 3, 1) := by decide +kernel
theorem dX7_sumOf_4 : decode cX7_sumOf 4 = .ok (.iload_n 3, 1) := by decide +kernel
theorem dX7_sumOf_5 : decode cX7_sumOf 5 = .ok (.aload_n 0, 1) := by decide +kernel
theorem dX7_sumOf_6 : decode cX7_sumOf 6 = .ok (.getfield 7, 3) := by decide +kernel
theorem dX7_sumOf_9 : decode cX7_sumOf 9 = .ok (.iconst 4, 1) := by decide +kernel
theorem dX7_sumOf_10 : decode cX7_sumOf 10 = .ok (.iaload, 1) := by decide +kernel
theorem dX7_sumOf_11 : decode cX7_sumOf 11 = .ok (.if_icmp .ge 18, 3) := by decide +kernel
theorem dX7_sumOf_14 : decode cX7_sumOf 14 = .ok (.iload_n 2, 1) := by decide +kernel
theorem dX7_sumOf_15 : decode cX7_sumOf 15 = .ok (.aload_n 0, 1) := by decide +kernel
theorem dX7_sumOf_16 : decode cX7_sumOf 16 = .ok (.iload_n 3, 1) := by decide +kernel
theorem dX7_sumOf_17 : decode cX7_sumOf 17 = .ok (.iload_n 1, 1) := by decide +kernel
theorem dX7_sumOf_18 : decode cX7_sumOf 18 = .ok (.invokevirtual 47, 3) := by decide +kernel
theorem dX7_sumOf_21 : decode cX7_sumOf 21 = .ok (.iadd, 1) := by decide +kernel
theorem dX7_sumOf_22 : decode cX7_sumOf 22 = .ok (.istore_n 2, 1) := by decide +kernel
theorem dX7_sumOf_23 : decode cX7_sumOf 23 = .ok (.iinc 3 1, 3) := by decide +kernel
theorem dX7_sumOf_26 : decode cX7_sumOf 26 = .ok (.goto (-22), 3) := by decide +kernel
theorem dX7_sumOf_29 : decode cX7_sumOf 29 = .ok (.iload_n 2, 1) := by decide +kernel
theorem dX7_sumOf_30 : decode cX7_sumOf 30 = .ok (.ireturn, 1) := by decide +kernel
theorem ggX7_count_X7_thatAre : GoodIn wsX7_count wsX7_thatAre := goodIn_r _ [9, 1, 10, 11, 12, 8, 13, 25, 26, 27, 28, 29, 30, 31, 32, 33, 34, 35, 36] (by decide +kernel) (by decide +kernel)
theorem gX7_count_X7_thatAre : GoodIn wsX7_count (wsV RX7 123 RX7 yX7_thatAre wsX7_thatAre) := goodIn_app (goodIn_of _ (by decide +kernel)) ggX7_count_X7_thatAre
theorem ggX7_count_X7_sum : GoodIn wsX7_count wsX7_sum := goodIn_r _ [17, 1, 25, 26, 27, 28, 29, 30, 31, 32, 33, 34, 35, 36] (by decide +kernel) (by decide +kernel)
theorem gX7_count_X7_sum : GoodIn wsX7_count (wsV RX7 113 RX7 yX7_sum wsX7_sum) := goodIn_app (goodIn_of _ (by decide +kernel)) ggX7_count_X7_sum
theorem ggX7_count_X7_sumOf : GoodIn wsX7_count wsX7_sumOf := goodIn_r _ [21, 1, 10, 11, 12, 8, 13, 25, 26, 27, 28, 29, 30, 31, 32, 33, 34, 35, 36] (by decide +kernel) (by decide +kernel)
theorem gX7_count_X7_sumOf : GoodIn wsX7_count (wsV RX7 132 RX7 yX7_sumOf wsX7_sumOf) := goodIn_app (goodIn_of _ (by decide +kernel)) ggX7_count_X7_sumOf
theorem ggX7_count_X7_in : GoodIn wsX7_count wsX7_in := goodIn_r _ [24] (by decide +kernel) (by decide +kernel)
theorem gX7_count_X7_in : GoodIn wsX7_count (va_wsS RX7 43 yX7_in wsX7_in) := goodIn_app (goodIn_of _ (by decide +kernel)) ggX7_count_X7_in
theorem dX7_count_0 : decode cX7_count 0 = .ok (.iload_n 1, 1) := by decide +kernel
theorem dX7_count_1 : decode cX7_count 1 = .ok (.tableswitch 119 5 16 #[63, 63, 63, 63, 71, 78, 84, 84, 96, 102, 109, 114], 63) := by decide +kernel
theorem dX7_count_64 : decode cX7_count 64 = .ok (.aload_n 0, 1) := by decide +kernel
theorem dX7_count_65 : decode cX7_count 65 = .ok (.iload_n 1, 1) := by decide +kernel
theorem dX7_count_66 : decode cX7_count 66 = .ok (.iconst 5, 1) := by decide +kernel
theorem dX7_count_67 : decode cX7_count 67 = .ok (.isub, 1) := by decide +kernel
theorem dX7_count_68 : decode cX7_count 68 = .ok (.invokevirtual 123, 3) := by decide +kernel
theorem dX7_count_71 : decode cX7_count 71 = .ok (.ireturn, 1) := by decide +kernel
theorem dX7_count_72 : decode cX7_count 72 = .ok (.aload_n 0, 1) := by decide +kernel
theorem dX7_count_73 : decode cX7_count 73 = .ok (.bipush 20, 2) := by decide +kernel
theorem dX7_count_75 : decode cX7_count 75 = .ok (.invokevirtual 113, 3) := by decide +kernel
theorem dX7_count_78 : decode cX7_count 78 = .ok (.ireturn, 1) := by decide +kernel
theorem dX7_count_79 : decode cX7_count 79 = .ok (.aload_n 0, 1) := by decide +kernel
theorem dX7_count_80 : decode cX7_count 80 = .ok (.iconst 4, 1) := by decide +kernel
theorem dX7_count_81 : decode cX7_count 81 = .ok (.invokevirtual 132, 3) := by decide +kernel
theorem dX7_count_84 : decode cX7_count 84 = .ok (.ireturn, 1) := by decide +kernel
theorem dX7_count_85 : decode cX7_count 85 = .ok (.aload_n 0, 1) := by decide +kernel
theorem dX7_count_86 : decode cX7_count 86 = .ok (.getfield 7, 3) := by decide +kernel
theorem dX7_count_89 : decode cX7_count 89 = .ok (.iconst 5, 1) := by decide +kernel
theorem dX7_count_90 : decode cX7_count 90 = .ok (.iload_n 1, 1) := by decide +kernel
theorem dX7_count_91 : decode cX7_count 91 = .ok (.iadd, 1) := by decide +kernel
theorem dX7_count_92 : decode cX7_count 92 = .ok (.bipush 11, 2) := by decide +kernel
theorem dX7_count_94 : decode cX7_count 94 = .ok (.isub, 1) := by decide +kernel
theorem dX7_count_95 : decode cX7_count 95 = .ok (.iaload, 1) := by decide +kernel
theorem dX7_count_96 : decode cX7_count 96 = .ok (.ireturn, 1) := by decide +kernel
theorem dX7_count_97 : decode cX7_count 97 = .ok (.aload_n 0, 1) := by decide +kernel
theorem dX7_count_98 : decode cX7_count 98 = .ok (.iconst 5, 1) := by decide +kernel
theorem dX7_count_99 : decode cX7_count 99 = .ok (.invokevirtual 132, 3) := by decide +kernel
theorem dX7_count_102 : decode cX7_count 102 = .ok (.ireturn, 1) := by decide +kernel
theorem dX7_count_103 : decode cX7_count 103 = .ok (.aload_n 0, 1) := by decide +kernel
theorem dX7_count_104 : decode cX7_count 104 = .ok (.bipush 32, 2) := by decide +kernel
theorem dX7_count_106 : decode cX7_count 106 = .ok (.invokevirtual 113, 3) := by decide +kernel
theorem dX7_count_109 : decode cX7_count 109 = .ok (.ireturn, 1) := by decide +kernel
theorem dX7_count_110 : decode cX7_count 110 = .ok (.aload_n 0, 1) := by decide +kernel
theorem dX7_count_111 : decode cX7_count 111 = .ok (.getfield 135, 3) := by decide +kernel
theorem dX7_count_114 : decode cX7_count 114 = .ok (.ireturn, 1) := by decide +kernel
theorem dX7_count_115 : decode cX7_count 115 = .ok (.aload_n 0, 1) := by decide +kernel
theorem dX7_count_116 : decode cX7_count 116 = .ok (.getfield 37, 3) := by decide +kernel
theorem dX7_count_119 : decode cX7_count 119 = .ok (.ireturn, 1) := by decide +kernel
theorem dX7_count_120 : decode cX7_count 120 = .ok (.iload_n 1, 1) := by decide +kernel
theorem dX7_count_121 : decode cX7_count 121 = .ok (.i2l, 1) := by decide +kernel
theorem dX7_count_122 : decode cX7_count 122 = .ok (.lconst 0, 1) := by decide +kernel
theorem dX7_count_123 : decode cX7_count 123 = .ok (.ldc2_w 138, 3) := by decide +kernel
theorem dX7_count_126 : decode cX7_count 126 = .ok (.invokestatic 43, 3) := by decide +kernel
theorem dX7_count_129 : decode cX7_count 129 = .ok (.ifCond .eq 12, 3) := by decide +kernel
theorem dX7_count_132 : decode cX7_count 132 = .ok (.aload_n 0, 1) := by decide +kernel
theorem dX7_count_133 : decode cX7_count 133 = .ok (.getfield 7, 3) := by decide +kernel
theorem dX7_count_136 : decode cX7_count 136 = .ok (.iload_n 1, 1) := by decide +kernel
theorem dX7_count_137 : decode cX7_count 137 = .ok (.iaload, 1) := by decide +kernel
theorem dX7_count_138 : decode cX7_count 138 = .ok (.goto 5, 3) := by decide +kernel
theorem dX7_count_141 : decode cX7_count 141 = .ok (.bipush (-2), 2) := by decide +kernel
theorem dX7_count_143 : decode cX7_count 143 = .ok (.ireturn, 1) := by decide +kernel
theorem ggX7_untilDone_X7_isPerson : GoodIn wsX7_untilDone wsX7_isPerson := goodIn_r _ [5, 6, 7, 8, 4, 9, 80, 81, 82, 83, 84, 85, 86, 87, 88, 89, 90, 91] (by decide +kernel) (by decide +kernel)
theorem gX7_untilDone_X7_isPerson : GoodIn wsX7_untilDone (wsV RX7 118 RX7 yX7_isPerson wsX7_isPerson) := goodIn_app (goodIn_of _ (by decide +kernel)) ggX7_untilDone_X7_isPerson
theorem ggX7_untilDone_X7_keeps : GoodIn wsX7_untilDone wsX7_keeps := goodIn_r _ [13, 14, 6, 80, 81, 82, 83, 84, 85, 86, 87, 88, 89, 90, 91] (by decide +kernel) (by decide +kernel)
theorem gX7_untilDone_X7_keeps : GoodIn wsX7_untilDone (wsV RX7 140 RX7 yX7_keeps wsX7_keeps) := goodIn_app (goodIn_of _ (by decide +kernel)) ggX7_untilDone_X7_keeps
theorem ggX7_untilDone_X7_get : GoodIn wsX7_untilDone wsX7_get := goodIn_r _ [18, 6, 80, 81, 82, 83, 84, 85, 86, 87, 88, 89, 90, 91] (by decide +kernel) (by decide +kernel)
theorem gX7_untilDone_X7_get : GoodIn wsX7_untilDone (wsV RX7 47 RX7 yX7_get wsX7_get) := goodIn_app (goodIn_of _ (by decide +kernel)) ggX7_untilDone_X7_get
theorem ggX7_untilDone_X7_ticks : GoodIn wsX7_untilDone wsX7_ticks := goodIn_r _ [22, 23, 6, 24, 25, 26, 4, 27, 28, 29, 30, 31, 32, 33, 34, 35, 15, 16, 17, 18, 36, 37, 38, 39, 40, 41, 42, 43, 44, 45, 46, 47, 48, 49, 50, 51, 52, 53, 54, 55, 56, 57, 58, 59, 60, 61, 62, 63, 64, 65, 66, 67, 68, 69, 70, 71, 72, 73, 74, 75, 80, 81, 82, 83, 84, 85, 86, 87, 88, 89, 90, 91] (by decide +kernel) (by decide +kernel)
theorem gX7_untilDone_X7_ticks : GoodIn wsX7_untilDone (wsV RX7 126 RX7 yX7_ticks wsX7_ticks) := goodIn_app (goodIn_of _ (by decide +kernel)) ggX7_untilDone_X7_ticks
theorem ggX7_untilDone_X7_comesBack : GoodIn wsX7_untilDone wsX7_comesBack := goodIn_r _ [79, 6, 14, 80, 81, 82, 83, 84, 85, 86, 87, 88, 89, 90, 91] (by decide +kernel) (by decide +kernel)
theorem gX7_untilDone_X7_comesBack : GoodIn wsX7_untilDone (wsV RX7 143 RX7 yX7_comesBack wsX7_comesBack) := goodIn_app (goodIn_of _ (by decide +kernel)) ggX7_untilDone_X7_comesBack
theorem dX7_untilDone_0 : decode cX7_untilDone 0 = .ok (.aload_n 0, 1) := by decide +kernel
theorem dX7_untilDone_1 : decode cX7_untilDone 1 = .ok (.iload_n 1, 1) := by decide +kernel
theorem dX7_untilDone_2 : decode cX7_untilDone 2 = .ok (.invokevirtual 118, 3) := by decide +kernel
theorem dX7_untilDone_5 : decode cX7_untilDone 5 = .ok (.ifCond .ne 5, 3) := by decide +kernel
theorem dX7_untilDone_8 : decode cX7_untilDone 8 = .ok (.iconst (-1), 1) := by decide +kernel
theorem dX7_untilDone_9 : decode cX7_untilDone 9 = .ok (.ireturn, 1) := by decide +kernel
theorem dX7_untilDone_10 : decode cX7_untilDone 10 = .ok (.aload_n 0, 1) := by decide +kernel
theorem dX7_untilDone_11 : decode cX7_untilDone 11 = .ok (.invokevirtual 140, 3) := by decide +kernel
theorem dX7_untilDone_14 : decode cX7_untilDone 14 = .ok (.iconst 0, 1) := by decide +kernel
theorem dX7_untilDone_15 : decode cX7_untilDone 15 = .ok (.istore_n 2, 1) := by decide +kernel
theorem dX7_untilDone_16 : decode cX7_untilDone 16 = .ok (.iload_n 2, 1) := by decide +kernel
theorem dX7_untilDone_17 : decode cX7_untilDone 17 = .ok (.sipush 300, 3) := by decide +kernel
theorem dX7_untilDone_20 : decode cX7_untilDone 20 = .ok (.if_icmp .gt 23, 3) := by decide +kernel
theorem dX7_untilDone_23 : decode cX7_untilDone 23 = .ok (.aload_n 0, 1) := by decide +kernel
theorem dX7_untilDone_24 : decode cX7_untilDone 24 = .ok (.iload_n 1, 1) := by decide +kernel
theorem dX7_untilDone_25 : decode cX7_untilDone 25 = .ok (.iconst 0, 1) := by decide +kernel
theorem dX7_untilDone_26 : decode cX7_untilDone 26 = .ok (.invokevirtual 47, 3) := by decide +kernel
theorem dX7_untilDone_29 : decode cX7_untilDone 29 = .ok (.iconst 2, 1) := by decide +kernel
theorem dX7_untilDone_30 : decode cX7_untilDone 30 = .ok (.if_icmp .eq 13, 3) := by decide +kernel
theorem dX7_untilDone_33 : decode cX7_untilDone 33 = .ok (.aload_n 0, 1) := by decide +kernel
theorem dX7_untilDone_34 : decode cX7_untilDone 34 = .ok (.invokevirtual 126, 3) := by decide +kernel
theorem dX7_untilDone_37 : decode cX7_untilDone 37 = .ok (.iinc 2 1, 3) := by decide +kernel
theorem dX7_untilDone_40 : decode cX7_untilDone 40 = .ok (.goto (-24), 3) := by decide +kernel
theorem dX7_untilDone_43 : decode cX7_untilDone 43 = .ok (.aload_n 0, 1) := by decide +kernel
theorem dX7_untilDone_44 : decode cX7_untilDone 44 = .ok (.invokevirtual 143, 3) := by decide +kernel
theorem dX7_untilDone_47 : decode cX7_untilDone 47 = .ok (.iload_n 2, 1) := by decide +kernel
theorem dX7_untilDone_48 : decode cX7_untilDone 48 = .ok (.sipush 300, 3) := by decide +kernel
theorem dX7_untilDone_51 : decode cX7_untilDone 51 = .ok (.if_icmp .le 8, 3) := by decide +kernel
theorem dX7_untilDone_54 : decode cX7_untilDone 54 = .ok (.bipush (-6), 2) := by decide +kernel
theorem dX7_untilDone_56 : decode cX7_untilDone 56 = .ok (.goto 4, 3) := by decide +kernel
theorem dX7_untilDone_59 : decode cX7_untilDone 59 = .ok (.iload_n 2, 1) := by decide +kernel
theorem dX7_untilDone_60 : decode cX7_untilDone 60 = .ok (.ireturn, 1) := by decide +kernel
theorem ggX7_tally_X7_thatAre : GoodIn wsX7_tally wsX7_thatAre := goodIn_r _ [5, 6, 7, 8, 9, 4, 10, 19, 20, 21, 22, 23, 24, 25, 26, 27, 28, 29, 30] (by decide +kernel) (by decide +kernel)
theorem gX7_tally_X7_thatAre : GoodIn wsX7_tally (wsV RX7 123 RX7 yX7_thatAre wsX7_thatAre) := goodIn_app (goodIn_of _ (by decide +kernel)) ggX7_tally_X7_thatAre
theorem ggX7_tally_X7_sumOf : GoodIn wsX7_tally wsX7_sumOf := goodIn_r _ [14, 6, 7, 8, 9, 4, 10, 19, 20, 21, 22, 23, 24, 25, 26, 27, 28, 29, 30] (by decide +kernel) (by decide +kernel)
theorem gX7_tally_X7_sumOf : GoodIn wsX7_tally (wsV RX7 132 RX7 yX7_sumOf wsX7_sumOf) := goodIn_app (goodIn_of _ (by decide +kernel)) ggX7_tally_X7_sumOf
theorem ggX7_tally_X7_sum : GoodIn wsX7_tally wsX7_sum := goodIn_r _ [18, 6, 19, 20, 21, 22, 23, 24, 25, 26, 27, 28, 29, 30] (by decide +kernel) (by decide +kernel)
theorem gX7_tally_X7_sum : GoodIn wsX7_tally (wsV RX7 113 RX7 yX7_sum wsX7_sum) := goodIn_app (goodIn_of _ (by decide +kernel)) ggX7_tally_X7_sum
theorem dX7_tally_0 : decode cX7_tally 0 = .ok (.iload_n 1, 1) := by decide +kernel
theorem dX7_tally_1 : decode cX7_tally 1 = .ok (.iconst 2, 1) := by decide +kernel
theorem dX7_tally_2 : decode cX7_tally 2 = .ok (.if_icmp .ge 13, 3) := by decide +kernel
theorem dX7_tally_5 : decode cX7_tally 5 = .ok (.aload_n 0, 1) := by decide +kernel
theorem dX7_tally_6 : decode cX7_tally 6 = .ok (.iconst 2, 1) := by decide +kernel
theorem dX7_tally_7 : decode cX7_tally 7 = .ok (.iload_n 1, 1) := by decide +kernel
theorem dX7_tally_8 : decode cX7_tally 8 = .ok (.iadd, 1) := by decide +kernel
theorem dX7_tally_9 : decode cX7_tally 9 = .ok (.invokevirtual 123, 3) := by decide +kernel
theorem dX7_tally_12 : decode cX7_tally 12 = .ok (.goto 22, 3) := by decide +kernel
theorem dX7_tally_15 : decode cX7_tally 15 = .ok (.iload_n 1, 1) := by decide +kernel
theorem dX7_tally_16 : decode cX7_tally 16 = .ok (.iconst 2, 1) := by decide +kernel
theorem dX7_tally_17 : decode cX7_tally 17 = .ok (.if_icmp .ne 11, 3) := by decide +kernel
theorem dX7_tally_20 : decode cX7_tally 20 = .ok (.aload_n 0, 1) := by decide +kernel
theorem dX7_tally_21 : decode cX7_tally 21 = .ok (.iconst 5, 1) := by decide +kernel
theorem dX7_tally_22 : decode cX7_tally 22 = .ok (.invokevirtual 132, 3) := by decide +kernel
theorem dX7_tally_25 : decode cX7_tally 25 = .ok (.goto 9, 3) := by decide +kernel
theorem dX7_tally_28 : decode cX7_tally 28 = .ok (.aload_n 0, 1) := by decide +kernel
theorem dX7_tally_29 : decode cX7_tally 29 = .ok (.bipush 32, 2) := by decide +kernel
theorem dX7_tally_31 : decode cX7_tally 31 = .ok (.invokevirtual 113, 3) := by decide +kernel
theorem dX7_tally_34 : decode cX7_tally 34 = .ok (.ireturn, 1) := by decide +kernel
theorem ggX7_ifPassed_X7_in : GoodIn wsX7_ifPassed wsX7_in := goodIn_r _ [6] (by decide +kernel) (by decide +kernel)
theorem gX7_ifPassed_X7_in : GoodIn wsX7_ifPassed (va_wsS RX7 43 yX7_in wsX7_in) := goodIn_app (goodIn_of _ (by decide +kernel)) ggX7_ifPassed_X7_in
theorem ggX7_ifPassed_X7_tally : GoodIn wsX7_ifPassed wsX7_tally := goodIn_r _ [10, 11, 12, 13, 5, 14, 15, 16, 17, 18, 19, 20, 21, 22, 23, 24, 25, 26, 27, 94, 95, 96, 97, 98, 99, 100, 101, 102, 103, 104, 105] (by decide +kernel) (by decide +kernel)
theorem gX7_ifPassed_X7_tally : GoodIn wsX7_ifPassed (wsV RX7 148 RX7 yX7_tally wsX7_tally) := goodIn_app (goodIn_of _ (by decide +kernel)) ggX7_ifPassed_X7_tally
theorem ggX7_ifPassed_X7_keeps : GoodIn wsX7_ifPassed wsX7_keeps := goodIn_r _ [31, 32, 15, 94, 95, 96, 97, 98, 99, 100, 101, 102, 103, 104, 105] (by decide +kernel) (by decide +kernel)
theorem gX7_ifPassed_X7_keeps : GoodIn wsX7_ifPassed (wsV RX7 140 RX7 yX7_keeps wsX7_keeps) := goodIn_app (goodIn_of _ (by decide +kernel)) ggX7_ifPassed_X7_keeps
theorem ggX7_ifPassed_X7_ticks : GoodIn wsX7_ifPassed wsX7_ticks := goodIn_r _ [36, 37, 15, 38, 39, 40, 5, 41, 42, 43, 44, 45, 46, 47, 48, 49, 16, 17, 18, 19, 50, 51, 52, 53, 54, 55, 56, 57, 58, 59, 60, 61, 62, 63, 64, 65, 66, 67, 68, 69, 70, 71, 72, 73, 74, 75, 76, 77, 78, 79, 80, 81, 82, 83, 84, 85, 86, 87, 88, 89, 94, 95, 96, 97, 98, 99, 100, 101, 102, 103, 104, 105] (by decide +kernel) (by decide +kernel)
theorem gX7_ifPassed_X7_ticks : GoodIn wsX7_ifPassed (wsV RX7 126 RX7 yX7_ticks wsX7_ticks) := goodIn_app (goodIn_of _ (by decide +kernel)) ggX7_ifPassed_X7_ticks
theorem ggX7_ifPassed_X7_comesBack : GoodIn wsX7_ifPassed wsX7_comesBack := goodIn_r _ [93, 15, 32, 94, 95, 96, 97, 98, 99, 100, 101, 102, 103, 104, 105] (by decide +kernel) (by decide +kernel)
theorem gX7_ifPassed_X7_comesBack : GoodIn wsX7_ifPassed (wsV RX7 143 RX7 yX7_comesBack wsX7_comesBack) := goodIn_app (goodIn_of _ (by decide +kernel)) ggX7_ifPassed_X7_comesBack
theorem dX7_ifPassed_0 : decode cX7_ifPassed 0 = .ok (.iload_n 1, 1) := by decide +kernel
theorem dX7_ifPassed_1 : decode cX7_ifPassed 1 = .ok (.i2l, 1) := by decide +kernel
theorem dX7_ifPassed_2 : decode cX7_ifPassed 2 = .ok (.lconst 1, 1) := by decide +kernel
theorem dX7_ifPassed_3 : decode cX7_ifPassed 3 = .ok (.ldc2_w 146, 3) := by decide +kernel
theorem dX7_ifPassed_6 : decode cX7_ifPassed 6 = .ok (.invokestatic 43, 3) := by decide +kernel
theorem dX7_ifPassed_9 : decode cX7_ifPassed 9 = .ok (.ifCond .eq 15, 3) := by decide +kernel
theorem dX7_ifPassed_12 : decode cX7_ifPassed 12 = .ok (.iload_n 2, 1) := by decide +kernel
theorem dX7_ifPassed_13 : decode cX7_ifPassed 13 = .ok (.i2l, 1) := by decide +kernel
theorem dX7_ifPassed_14 : decode cX7_ifPassed 14 = .ok (.lconst 0, 1) := by decide +kernel
theorem dX7_ifPassed_15 : decode cX7_ifPassed 15 = .ok (.ldc2_w 116, 3) := by decide +kernel
theorem dX7_ifPassed_18 : decode cX7_ifPassed 18 = .ok (.invokestatic 43, 3) := by decide +kernel
theorem dX7_ifPassed_21 : decode cX7_ifPassed 21 = .ok (.ifCond .ne 6, 3) := by decide +kernel
theorem dX7_ifPassed_24 : decode cX7_ifPassed 24 = .ok (.bipush (-2), 2) := by decide +kernel
theorem dX7_ifPassed_26 : decode cX7_ifPassed 26 = .ok (.ireturn, 1) := by decide +kernel
theorem dX7_ifPassed_27 : decode cX7_ifPassed 27 = .ok (.aload_n 0, 1) := by decide +kernel
theorem dX7_ifPassed_28 : decode cX7_ifPassed 28 = .ok (.iload_n 2, 1) := by decide +kernel
theorem dX7_ifPassed_29 : decode cX7_ifPassed 29 = .ok (.invokevirtual 148, 3) := by decide +kernel
theorem dX7_ifPassed_32 : decode cX7_ifPassed 32 = .ok (.istore_n 3, 1) := by decide +kernel
theorem dX7_ifPassed_33 : decode cX7_ifPassed 33 = .ok (.aload_n 0, 1) := by decide +kernel
theorem dX7_ifPassed_34 : decode cX7_ifPassed 34 = .ok (.invokevirtual 140, 3) := by decide +kernel
theorem dX7_ifPassed_37 : decode cX7_ifPassed 37 = .ok (.iconst 0, 1) := by decide +kernel
theorem dX7_ifPassed_38 : decode cX7_ifPassed 38 = .ok (.istore 4, 2) := by decide +kernel
theorem dX7_ifPassed_40 : decode cX7_ifPassed 40 = .ok (.iload 4, 2) := by decide +kernel
theorem dX7_ifPassed_42 : decode cX7_ifPassed 42 = .ok (.iload_n 1, 1) := by decide +kernel
theorem dX7_ifPassed_43 : decode cX7_ifPassed 43 = .ok (.if_icmp .ge 13, 3) := by decide +kernel
theorem dX7_ifPassed_46 : decode cX7_ifPassed 46 = .ok (.aload_n 0, 1) := by decide +kernel
theorem dX7_ifPassed_47 : decode cX7_ifPassed 47 = .ok (.invokevirtual 126, 3) := by decide +kernel
theorem dX7_ifPassed_50 : decode cX7_ifPassed 50 = .ok (.iinc 4 1, 3) := by decide +kernel
theorem dX7_ifPassed_53 : decode cX7_ifPassed 53 = .ok (.goto (-13), 3) := by decide +kernel
theorem dX7_ifPassed_56 : decode cX7_ifPassed 56 = .ok (.aload_n 0, 1) := by decide +kernel
theorem dX7_ifPassed_57 : decode cX7_ifPassed 57 = .ok (.iload_n 2, 1) := by decide +kernel
theorem dX7_ifPassed_58 : decode cX7_ifPassed 58 = .ok (.invokevirtual 148, 3) := by decide +kernel
theorem dX7_ifPassed_61 : decode cX7_ifPassed 61 = .ok (.iload_n 3, 1) := by decide +kernel
theorem dX7_ifPassed_62 : decode cX7_ifPassed 62 = .ok (.isub, 1) := by decide +kernel
theorem dX7_ifPassed_63 : decode cX7_ifPassed 63 = .ok (.istore 4, 2) := by decide +kernel
theorem dX7_ifPassed_65 : decode cX7_ifPassed 65 = .ok (.aload_n 0, 1) := by decide +kernel
theorem dX7_ifPassed_66 : decode cX7_ifPassed 66 = .ok (.invokevirtual 143, 3) := by decide +kernel
theorem dX7_ifPassed_69 : decode cX7_ifPassed 69 = .ok (.iload 4, 2) := by decide +kernel
theorem dX7_ifPassed_71 : decode cX7_ifPassed 71 = .ok (.ireturn, 1) := by decide +kernel
theorem ggX7_bestClerk_X7_ifPassed : GoodIn wsX7_bestClerk wsX7_ifPassed := goodIn_r _ [6, 7, 8, 9, 10, 5, 11, 12, 13, 14, 15, 16, 17, 18, 19, 1, 20, 21, 22, 23, 24, 25, 26, 27, 28, 29, 30, 31, 32, 33, 34, 35, 36, 37, 38, 39, 40, 41, 42, 43, 44, 45, 46, 47, 48, 49, 50, 51, 52, 53, 54, 55, 56, 57, 58, 59, 60, 61, 62, 63, 64, 65, 66, 67, 68, 69, 70, 71, 72, 73, 74, 75, 76, 77, 78, 79, 80, 81, 82, 83, 84, 85, 86, 87, 88, 89, 90, 91, 92, 93, 94, 95, 96, 97, 98, 99, 100, 101, 102, 103, 104, 105, 106, 107, 108, 109] (by decide +kernel) (by decide +kernel)
theorem gX7_bestClerk_X7_ifPassed : GoodIn wsX7_bestClerk (wsV RX7 151 RX7 yX7_ifPassed wsX7_ifPassed) := goodIn_app (goodIn_of _ (by decide +kernel)) ggX7_bestClerk_X7_ifPassed
theorem dX7_bestClerk_0 : decode cX7_bestClerk 0 = .ok (.bipush (-6), 2) := by decide +kernel
theorem dX7_bestClerk_2 : decode cX7_bestClerk 2 = .ok (.istore_n 1, 1) := by decide +kernel
theorem dX7_bestClerk_3 : decode cX7_bestClerk 3 = .ok (.aload_n 0, 1) := by decide +kernel
theorem dX7_bestClerk_4 : decode cX7_bestClerk 4 = .ok (.bipush 50, 2) := by decide +kernel
theorem dX7_bestClerk_6 : decode cX7_bestClerk 6 = .ok (.iconst 0, 1) := by decide +kernel
theorem dX7_bestClerk_7 : decode cX7_bestClerk 7 = .ok (.invokevirtual 151, 3) := by decide +kernel
theorem dX7_bestClerk_10 : decode cX7_bestClerk 10 = .ok (.istore_n 2, 1) := by decide +kernel
theorem dX7_bestClerk_11 : decode cX7_bestClerk 11 = .ok (.iconst 0, 1) := by decide +kernel
theorem dX7_bestClerk_12 : decode cX7_bestClerk 12 = .ok (.istore_n 3, 1) := by decide +kernel
theorem dX7_bestClerk_13 : decode cX7_bestClerk 13 = .ok (.iload_n 3, 1) := by decide +kernel
theorem dX7_bestClerk_14 : decode cX7_bestClerk 14 = .ok (.bipush 6, 2) := by decide +kernel
theorem dX7_bestClerk_16 : decode cX7_bestClerk 16 = .ok (.if_icmp .ge 82, 3) := by decide +kernel
theorem dX7_bestClerk_19 : decode cX7_bestClerk 19 = .ok (.aload_n 0, 1) := by decide +kernel
theorem dX7_bestClerk_20 : decode cX7_bestClerk 20 = .ok (.getfield 7, 3) := by decide +kernel
theorem dX7_bestClerk_23 : decode cX7_bestClerk 23 = .ok (.bipush 14, 2) := by decide +kernel
theorem dX7_bestClerk_25 : decode cX7_bestClerk 25 = .ok (.iload_n 3, 1) := by decide +kernel
theorem dX7_bestClerk_26 : decode cX7_bestClerk 26 = .ok (.iadd, 1) := by decide +kernel
theorem dX7_bestClerk_27 : decode cX7_bestClerk 27 = .ok (.iaload, 1) := by decide +kernel
theorem dX7_bestClerk_28 : decode cX7_bestClerk 28 = .ok (.iconst 3, 1) := by decide +kernel
theorem dX7_bestClerk_29 : decode cX7_bestClerk 29 = .ok (.if_icmp .ge 63, 3) := by decide +kernel
theorem dX7_bestClerk_32 : decode cX7_bestClerk 32 = .ok (.aload_n 0, 1) := by decide +kernel
theorem dX7_bestClerk_33 : decode cX7_bestClerk 33 = .ok (.getfield 7, 3) := by decide +kernel
theorem dX7_bestClerk_36 : decode cX7_bestClerk 36 = .ok (.bipush 14, 2) := by decide +kernel
theorem dX7_bestClerk_38 : decode cX7_bestClerk 38 = .ok (.iload_n 3, 1) := by decide +kernel
theorem dX7_bestClerk_39 : decode cX7_bestClerk 39 = .ok (.iadd, 1) := by decide +kernel
theorem dX7_bestClerk_40 : decode cX7_bestClerk 40 = .ok (.dup2, 1) := by decide +kernel
theorem dX7_bestClerk_41 : decode cX7_bestClerk 41 = .ok (.iaload, 1) := by decide +kernel
theorem dX7_bestClerk_42 : decode cX7_bestClerk 42 = .ok (.iconst 1, 1) := by decide +kernel
theorem dX7_bestClerk_43 : decode cX7_bestClerk 43 = .ok (.iadd, 1) := by decide +kernel
theorem dX7_bestClerk_44 : decode cX7_bestClerk 44 = .ok (.iastore, 1) := by decide +kernel
theorem dX7_bestClerk_45 : decode cX7_bestClerk 45 = .ok (.aload_n 0, 1) := by decide +kernel
theorem dX7_bestClerk_46 : decode cX7_bestClerk 46 = .ok (.bipush 50, 2) := by decide +kernel
theorem dX7_bestClerk_48 : decode cX7_bestClerk 48 = .ok (.iconst 0, 1) := by decide +kernel
theorem dX7_bestClerk_49 : decode cX7_bestClerk 49 = .ok (.invokevirtual 151, 3) := by decide +kernel
theorem dX7_bestClerk_52 : decode cX7_bestClerk 52 = .ok (.istore 4, 2) := by decide +kernel
theorem dX7_bestClerk_54 : decode cX7_bestClerk 54 = .ok (.aload_n 0, 1) := by decide +kernel
theorem dX7_bestClerk_55 : decode cX7_bestClerk 55 = .ok (.getfield 7, 3) := by decide +kernel
theorem dX7_bestClerk_58 : decode cX7_bestClerk 58 = .ok (.bipush 14, 2) := by decide +kernel
theorem dX7_bestClerk_60 : decode cX7_bestClerk 60 = .ok (.iload_n 3, 1) := by decide +kernel
theorem dX7_bestClerk_61 : decode cX7_bestClerk 61 = .ok (.iadd, 1) := by decide +kernel
theorem dX7_bestClerk_62 : decode cX7_bestClerk 62 = .ok (.dup2, 1) := by decide +kernel
theorem dX7_bestClerk_63 : decode cX7_bestClerk 63 = .ok (.iaload, 1) := by decide +kernel
theorem dX7_bestClerk_64 : decode cX7_bestClerk 64 = .ok (.iconst 1, 1) := by decide +kernel
theorem dX7_bestClerk_65 : decode cX7_bestClerk 65 = .ok (.isub, 1) := by decide +kernel
theorem dX7_bestClerk_66 : decode cX7_bestClerk 66 = .ok (.iastore, 1) := by decide +kernel
theorem dX7_bestClerk_67 : decode cX7_bestClerk 67 = .ok (.iload 4, 2) := by decide +kernel
theorem dX7_bestClerk_69 : decode cX7_bestClerk 69 = .ok (.iload_n 2, 1) := by decide +kernel
theorem dX7_bestClerk_70 : decode cX7_bestClerk 70 = .ok (.if_icmp .le 7, 3) := by decide +kernel
theorem dX7_bestClerk_73 : decode cX7_bestClerk 73 = .ok (.iload_n 3, 1) := by decide +kernel
theorem dX7_bestClerk_74 : decode cX7_bestClerk 74 = .ok (.goto 4, 3) := by decide +kernel
theorem dX7_bestClerk_77 : decode cX7_bestClerk 77 = .ok (.iload_n 1, 1) := by decide +kernel
theorem dX7_bestClerk_78 : decode cX7_bestClerk 78 = .ok (.istore_n 1, 1) := by decide +kernel
theorem dX7_bestClerk_79 : decode cX7_bestClerk 79 = .ok (.iload 4, 2) := by decide +kernel
theorem dX7_bestClerk_81 : decode cX7_bestClerk 81 = .ok (.iload_n 2, 1) := by decide +kernel
theorem dX7_bestClerk_82 : decode cX7_bestClerk 82 = .ok (.if_icmp .le 8, 3) := by decide +kernel
theorem dX7_bestClerk_85 : decode cX7_bestClerk 85 = .ok (.iload 4, 2) := by decide +kernel
theorem dX7_bestClerk_87 : decode cX7_bestClerk 87 = .ok (.goto 4, 3) := by decide +kernel
theorem dX7_bestClerk_90 : decode cX7_bestClerk 90 = .ok (.iload_n 2, 1) := by decide +kernel
theorem dX7_bestClerk_91 : decode cX7_bestClerk 91 = .ok (.istore_n 2, 1) := by decide +kernel
theorem dX7_bestClerk_92 : decode cX7_bestClerk 92 = .ok (.iinc 3 1, 3) := by decide +kernel
theorem dX7_bestClerk_95 : decode cX7_bestClerk 95 = .ok (.goto (-82), 3) := by decide +kernel
theorem dX7_bestClerk_98 : decode cX7_bestClerk 98 = .ok (.iload_n 1, 1) := by decide +kernel
theorem dX7_bestClerk_99 : decode cX7_bestClerk 99 = .ok (.ireturn, 1) := by decide +kernel
theorem ggX7_longest_X7_manyAt : GoodIn wsX7_longest wsX7_manyAt := goodIn_r _ [5, 6, 7, 8, 9, 4, 10, 11, 12, 13, 14, 15, 16, 17, 18, 19, 20, 21, 22, 23, 24, 25, 26, 27, 28, 29, 30] (by decide +kernel) (by decide +kernel)
theorem gX7_longest_X7_manyAt : GoodIn wsX7_longest (wsV RX7 84 RX7 yX7_manyAt wsX7_manyAt) := goodIn_app (goodIn_of _ (by decide +kernel)) ggX7_longest_X7_manyAt
theorem dX7_longest_0 : decode cX7_longest 0 = .ok (.bipush (-6), 2) := by decide +kernel
theorem dX7_longest_2 : decode cX7_longest 2 = .ok (.istore_n 1, 1) := by decide +kernel
theorem dX7_longest_3 : decode cX7_longest 3 = .ok (.iconst 0, 1) := by decide +kernel
theorem dX7_longest_4 : decode cX7_longest 4 = .ok (.istore_n 2, 1) := by decide +kernel
theorem dX7_longest_5 : decode cX7_longest 5 = .ok (.iconst 0, 1) := by decide +kernel
theorem dX7_longest_6 : decode cX7_longest 6 = .ok (.istore_n 3, 1) := by decide +kernel
theorem dX7_longest_7 : decode cX7_longest 7 = .ok (.iload_n 3, 1) := by decide +kernel
theorem dX7_longest_8 : decode cX7_longest 8 = .ok (.bipush 6, 2) := by decide +kernel
theorem dX7_longest_10 : decode cX7_longest 10 = .ok (.if_icmp .ge 42, 3) := by decide +kernel
theorem dX7_longest_13 : decode cX7_longest 13 = .ok (.aload_n 0, 1) := by decide +kernel
theorem dX7_longest_14 : decode cX7_longest 14 = .ok (.iconst 0, 1) := by decide +kernel
theorem dX7_longest_15 : decode cX7_longest 15 = .ok (.iload_n 3, 1) := by decide +kernel
theorem dX7_longest_16 : decode cX7_longest 16 = .ok (.invokevirtual 84, 3) := by decide +kernel
theorem dX7_longest_19 : decode cX7_longest 19 = .ok (.istore 4, 2) := by decide +kernel
theorem dX7_longest_21 : decode cX7_longest 21 = .ok (.iload 4, 2) := by decide +kernel
theorem dX7_longest_23 : decode cX7_longest 23 = .ok (.iload_n 2, 1) := by decide +kernel
theorem dX7_longest_24 : decode cX7_longest 24 = .ok (.if_icmp .le 7, 3) := by decide +kernel
theorem dX7_longest_27 : decode cX7_longest 27 = .ok (.iload_n 3, 1) := by decide +kernel
theorem dX7_longest_28 : decode cX7_longest 28 = .ok (.goto 4, 3) := by decide +kernel
theorem dX7_longest_31 : decode cX7_longest 31 = .ok (.iload_n 1, 1) := by decide +kernel
theorem dX7_longest_32 : decode cX7_longest 32 = .ok (.istore_n 1, 1) := by decide +kernel
theorem dX7_longest_33 : decode cX7_longest 33 = .ok (.iload 4, 2) := by decide +kernel
theorem dX7_longest_35 : decode cX7_longest 35 = .ok (.iload_n 2, 1) := by decide +kernel
theorem dX7_longest_36 : decode cX7_longest 36 = .ok (.if_icmp .le 8, 3) := by decide +kernel
theorem dX7_longest_39 : decode cX7_longest 39 = .ok (.iload 4, 2) := by decide +kernel
theorem dX7_longest_41 : decode cX7_longest 41 = .ok (.goto 4, 3) := by decide +kernel
theorem dX7_longest_44 : decode cX7_longest 44 = .ok (.iload_n 2, 1) := by decide +kernel
theorem dX7_longest_45 : decode cX7_longest 45 = .ok (.istore_n 2, 1) := by decide +kernel
theorem dX7_longest_46 : decode cX7_longest 46 = .ok (.iinc 3 1, 3) := by decide +kernel
theorem dX7_longest_49 : decode cX7_longest 49 = .ok (.goto (-42), 3) := by decide +kernel
theorem dX7_longest_52 : decode cX7_longest 52 = .ok (.iload_n 1, 1) := by decide +kernel
theorem dX7_longest_53 : decode cX7_longest 53 = .ok (.ireturn, 1) := by decide +kernel
theorem ggX7_charactersOf_X7_in : GoodIn wsX7_charactersOf wsX7_in := goodIn_r _ [7] (by decide +kernel) (by decide +kernel)
theorem gX7_charactersOf_X7_in : GoodIn wsX7_charactersOf (va_wsS RX7 43 yX7_in wsX7_in) := goodIn_app (goodIn_of _ (by decide +kernel)) ggX7_charactersOf_X7_in
theorem dX7_charactersOf_0 : decode cX7_charactersOf 0 = .ok (.lload_n 0, 1) := by decide +kernel
theorem dX7_charactersOf_1 : decode cX7_charactersOf 1 = .ok (.lstore_n 2, 1) := by decide +kernel
theorem dX7_charactersOf_2 : decode cX7_charactersOf 2 = .ok (.iconst 0, 1) := by decide +kernel
theorem dX7_charactersOf_3 : decode cX7_charactersOf 3 = .ok (.istore 4, 2) := by decide +kernel
theorem dX7_charactersOf_5 : decode cX7_charactersOf 5 = .ok (.iload 4, 2) := by decide +kernel
theorem dX7_charactersOf_7 : decode cX7_charactersOf 7 = .ok (.bipush 8, 2) := by decide +kernel
theorem dX7_charactersOf_9 : decode cX7_charactersOf 9 = .ok (.if_icmp .ge 31, 3) := by decide +kernel
theorem dX7_charactersOf_12 : decode cX7_charactersOf 12 = .ok (.lload_n 2, 1) := by decide +kernel
theorem dX7_charactersOf_13 : decode cX7_charactersOf 13 = .ok (.ldc2_w 154, 3) := by decide +kernel
theorem dX7_charactersOf_16 : decode cX7_charactersOf 16 = .ok (.land, 1) := by decide +kernel
theorem dX7_charactersOf_17 : decode cX7_charactersOf 17 = .ok (.ldc2_w 156, 3) := by decide +kernel
theorem dX7_charactersOf_20 : decode cX7_charactersOf 20 = .ok (.ldc2_w 158, 3) := by decide +kernel
theorem dX7_charactersOf_23 : decode cX7_charactersOf 23 = .ok (.invokestatic 43, 3) := by decide +kernel
theorem dX7_charactersOf_26 : decode cX7_charactersOf 26 = .ok (.ifCond .eq 14, 3) := by decide +kernel
theorem dX7_charactersOf_29 : decode cX7_charactersOf 29 = .ok (.lload_n 2, 1) := by decide +kernel
theorem dX7_charactersOf_30 : decode cX7_charactersOf 30 = .ok (.bipush 8, 2) := by decide +kernel
theorem dX7_charactersOf_32 : decode cX7_charactersOf 32 = .ok (.lushr, 1) := by decide +kernel
theorem dX7_charactersOf_33 : decode cX7_charactersOf 33 = .ok (.lstore_n 2, 1) := by decide +kernel
theorem dX7_charactersOf_34 : decode cX7_charactersOf 34 = .ok (.iinc 4 1, 3) := by decide +kernel
theorem dX7_charactersOf_37 : decode cX7_charactersOf 37 = .ok (.goto (-32), 3) := by decide +kernel
theorem dX7_charactersOf_40 : decode cX7_charactersOf 40 = .ok (.lload_n 2, 1) := by decide +kernel
theorem dX7_charactersOf_41 : decode cX7_charactersOf 41 = .ok (.lconst 0, 1) := by decide +kernel
theorem dX7_charactersOf_42 : decode cX7_charactersOf 42 = .ok (.lcmp, 1) := by decide +kernel
theorem dX7_charactersOf_43 : decode cX7_charactersOf 43 = .ok (.ifCond .ne 8, 3) := by decide +kernel
theorem dX7_charactersOf_46 : decode cX7_charactersOf 46 = .ok (.iload 4, 2) := by decide +kernel
theorem dX7_charactersOf_48 : decode cX7_charactersOf 48 = .ok (.goto 4, 3) := by decide +kernel
theorem dX7_charactersOf_51 : decode cX7_charactersOf 51 = .ok (.iconst 0, 1) := by decide +kernel
theorem dX7_charactersOf_52 : decode cX7_charactersOf 52 = .ok (.ireturn, 1) := by decide +kernel
theorem ggX7_put_X7_charactersOf : GoodIn wsX7_put wsX7_charactersOf := goodIn_r _ [7, 3, 8, 9, 10, 11, 6, 12] (by decide +kernel) (by decide +kernel)
theorem gX7_put_X7_charactersOf : GoodIn wsX7_put (va_wsS RX7 160 yX7_charactersOf wsX7_charactersOf) := goodIn_app (goodIn_of _ (by decide +kernel)) ggX7_put_X7_charactersOf
theorem dX7_put_0 : decode cX7_put 0 = .ok (.lload_n 1, 1) := by decide +kernel
theorem dX7_put_1 : decode cX7_put 1 = .ok (.invokestatic 160, 3) := by decide +kernel
theorem dX7_put_4 : decode cX7_put 4 = .ok (.istore_n 3, 1) := by decide +kernel
theorem dX7_put_5 : decode cX7_put 5 = .ok (.iload_n 3, 1) := by decide +kernel
theorem dX7_put_6 : decode cX7_put 6 = .ok (.ifCond .ne 6, 3) := by decide +kernel
theorem dX7_put_9 : decode cX7_put 9 = .ok (.bipush (-2), 2) := by decide +kernel
theorem dX7_put_11 : decode cX7_put 11 = .ok (.ireturn, 1) := by decide +kernel
theorem dX7_put_12 : decode cX7_put 12 = .ok (.aload_n 0, 1) := by decide +kernel
theorem dX7_put_13 : decode cX7_put 13 = .ok (.getfield 135, 3) := by decide +kernel
theorem dX7_put_16 : decode cX7_put 16 = .ok (.iload_n 3, 1) := by decide +kernel
theorem dX7_put_17 : decode cX7_put 17 = .ok (.iadd, 1) := by decide +kernel
theorem dX7_put_18 : decode cX7_put 18 = .ok (.bipush 60, 2) := by decide +kernel
theorem dX7_put_20 : decode cX7_put 20 = .ok (.if_icmp .le 6, 3) := by decide +kernel
theorem dX7_put_23 : decode cX7_put 23 = .ok (.bipush (-4), 2) := by decide +kernel
theorem dX7_put_25 : decode cX7_put 25 = .ok (.ireturn, 1) := by decide +kernel
theorem dX7_put_26 : decode cX7_put 26 = .ok (.iconst 0, 1) := by decide +kernel
theorem dX7_put_27 : decode cX7_put 27 = .ok (.istore 4, 2) := by decide +kernel
theorem dX7_put_29 : decode cX7_put 29 = .ok (.iload 4, 2) := by decide +kernel
theorem dX7_put_31 : decode cX7_put 31 = .ok (.iload_n 3, 1) := by decide +kernel
theorem dX7_put_32 : decode cX7_put 32 = .ok (.if_icmp .ge 37, 3) := by decide +kernel
theorem dX7_put_35 : decode cX7_put 35 = .ok (.aload_n 0, 1) := by decide +kernel
theorem dX7_put_36 : decode cX7_put 36 = .ok (.getfield 28, 3) := by decide +kernel
theorem dX7_put_39 : decode cX7_put 39 = .ok (.aload_n 0, 1) := by decide +kernel
theorem dX7_put_40 : decode cX7_put 40 = .ok (.getfield 135, 3) := by decide +kernel
theorem dX7_put_43 : decode cX7_put 43 = .ok (.iload 4, 2) := by decide +kernel
theorem dX7_put_45 : decode cX7_put 45 = .ok (.iadd, 1) := by decide +kernel
theorem dX7_put_46 : decode cX7_put 46 = .ok (.lload_n 1, 1) := by decide +kernel
theorem dX7_put_47 : decode cX7_put 47 = .ok (.bipush 8, 2) := by decide +kernel
theorem dX7_put_49 : decode cX7_put 49 = .ok (.iload_n 3, 1) := by decide +kernel
theorem dX7_put_50 : decode cX7_put 50 = .ok (.iconst 1, 1) := by decide +kernel
theorem dX7_put_51 : decode cX7_put 51 = .ok (.isub, 1) := by decide +kernel
theorem dX7_put_52 : decode cX7_put 52 = .ok (.iload 4, 2) := by decide +kernel
theorem dX7_put_54 : decode cX7_put 54 = .ok (.isub, 1) := by decide +kernel
theorem dX7_put_55 : decode cX7_put 55 = .ok (.imul, 1) := by decide +kernel
theorem dX7_put_56 : decode cX7_put 56 = .ok (.lushr, 1) := by decide +kernel
theorem dX7_put_57 : decode cX7_put 57 = .ok (.ldc2_w 154, 3) := by decide +kernel
theorem dX7_put_60 : decode cX7_put 60 = .ok (.land, 1) := by decide +kernel
theorem dX7_put_61 : decode cX7_put 61 = .ok (.l2i, 1) := by decide +kernel
theorem dX7_put_62 : decode cX7_put 62 = .ok (.iastore, 1) := by decide +kernel
theorem dX7_put_63 : decode cX7_put 63 = .ok (.iinc 4 1, 3) := by decide +kernel
theorem dX7_put_66 : decode cX7_put 66 = .ok (.goto (-37), 3) := by decide +kernel
theorem dX7_put_69 : decode cX7_put 69 = .ok (.aload_n 0, 1) := by decide +kernel
theorem dX7_put_70 : decode cX7_put 70 = .ok (.dup, 1) := by decide +kernel
theorem dX7_put_71 : decode cX7_put 71 = .ok (.getfield 135, 3) := by decide +kernel
theorem dX7_put_74 : decode cX7_put 74 = .ok (.iload_n 3, 1) := by decide +kernel
theorem dX7_put_75 : decode cX7_put 75 = .ok (.iadd, 1) := by decide +kernel
theorem dX7_put_76 : decode cX7_put 76 = .ok (.putfield 135, 3) := by decide +kernel
theorem dX7_put_79 : decode cX7_put 79 = .ok (.aload_n 0, 1) := by decide +kernel
theorem dX7_put_80 : decode cX7_put 80 = .ok (.getfield 135, 3) := by decide +kernel
theorem dX7_put_83 : decode cX7_put 83 = .ok (.ireturn, 1) := by decide +kernel
theorem dX7_wipe_0 : decode cX7_wipe 0 = .ok (.aload_n 0, 1) := by decide +kernel
theorem dX7_wipe_1 : decode cX7_wipe 1 = .ok (.getfield 135, 3) := by decide +kernel
theorem dX7_wipe_4 : decode cX7_wipe 4 = .ok (.istore_n 1, 1) := by decide +kernel
theorem dX7_wipe_5 : decode cX7_wipe 5 = .ok (.aload_n 0, 1) := by decide +kernel
theorem dX7_wipe_6 : decode cX7_wipe 6 = .ok (.iconst 0, 1) := by decide +kernel
theorem dX7_wipe_7 : decode cX7_wipe 7 = .ok (.putfield 135, 3) := by decide +kernel
theorem dX7_wipe_10 : decode cX7_wipe 10 = .ok (.iload_n 1, 1) := by decide +kernel
theorem dX7_wipe_11 : decode cX7_wipe 11 = .ok (.ireturn, 1) := by decide +kernel
theorem ggX7_errandEnd_X7_in : GoodIn wsX7_errandEnd wsX7_in := goodIn_r _ [11] (by decide +kernel) (by decide +kernel)
theorem gX7_errandEnd_X7_in : GoodIn wsX7_errandEnd (va_wsS RX7 43 yX7_in wsX7_in) := goodIn_app (goodIn_of _ (by decide +kernel)) ggX7_errandEnd_X7_in
theorem dX7_errandEnd_0 : decode cX7_errandEnd 0 = .ok (.iload_n 1, 1) := by decide +kernel
theorem dX7_errandEnd_1 : decode cX7_errandEnd 1 = .ok (.istore_n 2, 1) := by decide +kernel
theorem dX7_errandEnd_2 : decode cX7_errandEnd 2 = .ok (.aload_n 0, 1) := by decide +kernel
theorem dX7_errandEnd_3 : decode cX7_errandEnd 3 = .ok (.getfield 31, 3) := by decide +kernel
theorem dX7_errandEnd_6 : decode cX7_errandEnd 6 = .ok (.aload_n 0, 1) := by decide +kernel
theorem dX7_errandEnd_7 : decode cX7_errandEnd 7 = .ok (.getfield 164, 3) := by decide +kernel
theorem dX7_errandEnd_10 : decode cX7_errandEnd 10 = .ok (.iconst 0, 1) := by decide +kernel
theorem dX7_errandEnd_11 : decode cX7_errandEnd 11 = .ok (.iastore, 1) := by decide +kernel
theorem dX7_errandEnd_12 : decode cX7_errandEnd 12 = .ok (.iload_n 2, 1) := by decide +kernel
theorem dX7_errandEnd_13 : decode cX7_errandEnd 13 = .ok (.aload_n 0, 1) := by decide +kernel
theorem dX7_errandEnd_14 : decode cX7_errandEnd 14 = .ok (.getfield 135, 3) := by decide +kernel
theorem dX7_errandEnd_17 : decode cX7_errandEnd 17 = .ok (.if_icmp .ge 85, 3) := by decide +kernel
theorem dX7_errandEnd_20 : decode cX7_errandEnd 20 = .ok (.iload_n 2, 1) := by decide +kernel
theorem dX7_errandEnd_21 : decode cX7_errandEnd 21 = .ok (.iload_n 1, 1) := by decide +kernel
theorem dX7_errandEnd_22 : decode cX7_errandEnd 22 = .ok (.isub, 1) := by decide +kernel
theorem dX7_errandEnd_23 : decode cX7_errandEnd 23 = .ok (.bipush 8, 2) := by decide +kernel
theorem dX7_errandEnd_25 : decode cX7_errandEnd 25 = .ok (.if_icmp .ge 77, 3) := by decide +kernel
theorem dX7_errandEnd_28 : decode cX7_errandEnd 28 = .ok (.aload_n 0, 1) := by decide +kernel
theorem dX7_errandEnd_29 : decode cX7_errandEnd 29 = .ok (.getfield 28, 3) := by decide +kernel
theorem dX7_errandEnd_32 : decode cX7_errandEnd 32 = .ok (.iload_n 2, 1) := by decide +kernel
theorem dX7_errandEnd_33 : decode cX7_errandEnd 33 = .ok (.iaload, 1) := by decide +kernel
theorem dX7_errandEnd_34 : decode cX7_errandEnd 34 = .ok (.i2l, 1) := by decide +kernel
theorem dX7_errandEnd_35 : decode cX7_errandEnd 35 = .ok (.ldc2_w 167, 3) := by decide +kernel
theorem dX7_errandEnd_38 : decode cX7_errandEnd 38 = .ok (.ldc2_w 169, 3) := by decide +kernel
theorem dX7_errandEnd_41 : decode cX7_errandEnd 41 = .ok (.invokestatic 43, 3) := by decide +kernel
theorem dX7_errandEnd_44 : decode cX7_errandEnd 44 = .ok (.ifCond .eq 58, 3) := by decide +kernel
theorem dX7_errandEnd_47 : decode cX7_errandEnd 47 = .ok (.iload_n 2, 1) := by decide +kernel
theorem dX7_errandEnd_48 : decode cX7_errandEnd 48 = .ok (.iload_n 1, 1) := by decide +kernel
theorem dX7_errandEnd_49 : decode cX7_errandEnd 49 = .ok (.if_icmp .eq 20, 3) := by decide +kernel
theorem dX7_errandEnd_52 : decode cX7_errandEnd 52 = .ok (.aload_n 0, 1) := by decide +kernel
theorem dX7_errandEnd_53 : decode cX7_errandEnd 53 = .ok (.getfield 28, 3) := by decide +kernel
theorem dX7_errandEnd_56 : decode cX7_errandEnd 56 = .ok (.iload_n 2, 1) := by decide +kernel
theorem dX7_errandEnd_57 : decode cX7_errandEnd 57 = .ok (.iaload, 1) := by decide +kernel
theorem dX7_errandEnd_58 : decode cX7_errandEnd 58 = .ok (.aload_n 0, 1) := by decide +kernel
theorem dX7_errandEnd_59 : decode cX7_errandEnd 59 = .ok (.getfield 28, 3) := by decide +kernel
theorem dX7_errandEnd_62 : decode cX7_errandEnd 62 = .ok (.iload_n 2, 1) := by decide +kernel
theorem dX7_errandEnd_63 : decode cX7_errandEnd 63 = .ok (.iconst 1, 1) := by decide +kernel
theorem dX7_errandEnd_64 : decode cX7_errandEnd 64 = .ok (.isub, 1) := by decide +kernel
theorem dX7_errandEnd_65 : decode cX7_errandEnd 65 = .ok (.iaload, 1) := by decide +kernel
theorem dX7_errandEnd_66 : decode cX7_errandEnd 66 = .ok (.if_icmp .eq 36, 3) := by decide +kernel
theorem dX7_errandEnd_69 : decode cX7_errandEnd 69 = .ok (.aload_n 0, 1) := by decide +kernel
theorem dX7_errandEnd_70 : decode cX7_errandEnd 70 = .ok (.getfield 31, 3) := by decide +kernel
theorem dX7_errandEnd_73 : decode cX7_errandEnd 73 = .ok (.aload_n 0, 1) := by decide +kernel
theorem dX7_errandEnd_74 : decode cX7_errandEnd 74 = .ok (.getfield 164, 3) := by decide +kernel
theorem dX7_errandEnd_77 : decode cX7_errandEnd 77 = .ok (.dup2, 1) := by decide +kernel
theorem dX7_errandEnd_78 : decode cX7_errandEnd 78 = .ok (.iaload, 1) := by decide +kernel
theorem dX7_errandEnd_79 : decode cX7_errandEnd 79 = .ok (.aload_n 0, 1) := by decide +kernel
theorem dX7_errandEnd_80 : decode cX7_errandEnd 80 = .ok (.getfield 28, 3) := by decide +kernel
theorem dX7_errandEnd_83 : decode cX7_errandEnd 83 = .ok (.iload_n 2, 1) := by decide +kernel
theorem dX7_errandEnd_84 : decode cX7_errandEnd 84 = .ok (.iaload, 1) := by decide +kernel
theorem dX7_errandEnd_85 : decode cX7_errandEnd 85 = .ok (.bipush 48, 2) := by decide +kernel
theorem dX7_errandEnd_87 : decode cX7_errandEnd 87 = .ok (.isub, 1) := by decide +kernel
theorem dX7_errandEnd_88 : decode cX7_errandEnd 88 = .ok (.iconst 3, 1) := by decide +kernel
theorem dX7_errandEnd_89 : decode cX7_errandEnd 89 = .ok (.iload_n 2, 1) := by decide +kernel
theorem dX7_errandEnd_90 : decode cX7_errandEnd 90 = .ok (.iload_n 1, 1) := by decide +kernel
theorem dX7_errandEnd_91 : decode cX7_errandEnd 91 = .ok (.isub, 1) := by decide +kernel
theorem dX7_errandEnd_92 : decode cX7_errandEnd 92 = .ok (.imul, 1) := by decide +kernel
theorem dX7_errandEnd_93 : decode cX7_errandEnd 93 = .ok (.ishl, 1) := by decide +kernel
theorem dX7_errandEnd_94 : decode cX7_errandEnd 94 = .ok (.ior, 1) := by decide +kernel
theorem dX7_errandEnd_95 : decode cX7_errandEnd 95 = .ok (.iastore, 1) := by decide +kernel
theorem dX7_errandEnd_96 : decode cX7_errandEnd 96 = .ok (.iinc 2 1, 3) := by decide +kernel
theorem dX7_errandEnd_99 : decode cX7_errandEnd 99 = .ok (.goto (-87), 3) := by decide +kernel
theorem dX7_errandEnd_102 : decode cX7_errandEnd 102 = .ok (.aload_n 0, 1) := by decide +kernel
theorem dX7_errandEnd_103 : decode cX7_errandEnd 103 = .ok (.getfield 34, 3) := by decide +kernel
theorem dX7_errandEnd_106 : decode cX7_errandEnd 106 = .ok (.aload_n 0, 1) := by decide +kernel
theorem dX7_errandEnd_107 : decode cX7_errandEnd 107 = .ok (.getfield 164, 3) := by decide +kernel
theorem dX7_errandEnd_110 : decode cX7_errandEnd 110 = .ok (.iload_n 2, 1) := by decide +kernel
theorem dX7_errandEnd_111 : decode cX7_errandEnd 111 = .ok (.iload_n 1, 1) := by decide +kernel
theorem dX7_errandEnd_112 : decode cX7_errandEnd 112 = .ok (.isub, 1) := by decide +kernel
theorem dX7_errandEnd_113 : decode cX7_errandEnd 113 = .ok (.iastore, 1) := by decide +kernel
theorem dX7_errandEnd_114 : decode cX7_errandEnd 114 = .ok (.iload_n 2, 1) := by decide +kernel
theorem dX7_errandEnd_115 : decode cX7_errandEnd 115 = .ok (.ireturn, 1) := by decide +kernel
theorem ggX7_fault_X7_errandEnd : GoodIn wsX7_fault wsX7_errandEnd := goodIn_r _ [8, 9, 1, 2, 3, 10, 11, 12, 13, 14, 7, 15, 16, 17, 18, 19, 20, 21, 22, 23, 24, 25, 26, 27] (by decide +kernel) (by decide +kernel)
theorem gX7_fault_X7_errandEnd : GoodIn wsX7_fault (wsV RX7 171 RX7 yX7_errandEnd wsX7_errandEnd) := goodIn_app (goodIn_of _ (by decide +kernel)) ggX7_fault_X7_errandEnd
theorem dX7_fault_0 : decode cX7_fault 0 = .ok (.aload_n 0, 1) := by decide +kernel
theorem dX7_fault_1 : decode cX7_fault 1 = .ok (.iconst 0, 1) := by decide +kernel
theorem dX7_fault_2 : decode cX7_fault 2 = .ok (.putfield 164, 3) := by decide +kernel
theorem dX7_fault_5 : decode cX7_fault 5 = .ok (.iconst 0, 1) := by decide +kernel
theorem dX7_fault_6 : decode cX7_fault 6 = .ok (.istore_n 1, 1) := by decide +kernel
theorem dX7_fault_7 : decode cX7_fault 7 = .ok (.iconst 1, 1) := by decide +kernel
theorem dX7_fault_8 : decode cX7_fault 8 = .ok (.istore_n 2, 1) := by decide +kernel
theorem dX7_fault_9 : decode cX7_fault 9 = .ok (.iload_n 2, 1) := by decide +kernel
theorem dX7_fault_10 : decode cX7_fault 10 = .ok (.ifCond .eq 66, 3) := by decide +kernel
theorem dX7_fault_13 : decode cX7_fault 13 = .ok (.aload_n 0, 1) := by decide +kernel
theorem dX7_fault_14 : decode cX7_fault 14 = .ok (.iload_n 1, 1) := by decide +kernel
theorem dX7_fault_15 : decode cX7_fault 15 = .ok (.invokevirtual 171, 3) := by decide +kernel
theorem dX7_fault_18 : decode cX7_fault 18 = .ok (.istore_n 3, 1) := by decide +kernel
theorem dX7_fault_19 : decode cX7_fault 19 = .ok (.iload_n 3, 1) := by decide +kernel
theorem dX7_fault_20 : decode cX7_fault 20 = .ok (.iload_n 1, 1) := by decide +kernel
theorem dX7_fault_21 : decode cX7_fault 21 = .ok (.if_icmp .ne 5, 3) := by decide +kernel
theorem dX7_fault_24 : decode cX7_fault 24 = .ok (.iload_n 1, 1) := by decide +kernel
theorem dX7_fault_25 : decode cX7_fault 25 = .ok (.ireturn, 1) := by decide +kernel
theorem dX7_fault_26 : decode cX7_fault 26 = .ok (.aload_n 0, 1) := by decide +kernel
theorem dX7_fault_27 : decode cX7_fault 27 = .ok (.dup, 1) := by decide +kernel
theorem dX7_fault_28 : decode cX7_fault 28 = .ok (.getfield 164, 3) := by decide +kernel
theorem dX7_fault_31 : decode cX7_fault 31 = .ok (.iconst 1, 1) := by decide +kernel
theorem dX7_fault_32 : decode cX7_fault 32 = .ok (.iadd, 1) := by decide +kernel
theorem dX7_fault_33 : decode cX7_fault 33 = .ok (.putfield 164, 3) := by decide +kernel
theorem dX7_fault_36 : decode cX7_fault 36 = .ok (.iload_n 3, 1) := by decide +kernel
theorem dX7_fault_37 : decode cX7_fault 37 = .ok (.aload_n 0, 1) := by decide +kernel
theorem dX7_fault_38 : decode cX7_fault 38 = .ok (.getfield 135, 3) := by decide +kernel
theorem dX7_fault_41 : decode cX7_fault 41 = .ok (.if_icmp .ge 18, 3) := by decide +kernel
theorem dX7_fault_44 : decode cX7_fault 44 = .ok (.aload_n 0, 1) := by decide +kernel
theorem dX7_fault_45 : decode cX7_fault 45 = .ok (.getfield 28, 3) := by decide +kernel
theorem dX7_fault_48 : decode cX7_fault 48 = .ok (.iload_n 3, 1) := by decide +kernel
theorem dX7_fault_49 : decode cX7_fault 49 = .ok (.iaload, 1) := by decide +kernel
theorem dX7_fault_50 : decode cX7_fault 50 = .ok (.bipush 44, 2) := by decide +kernel
theorem dX7_fault_52 : decode cX7_fault 52 = .ok (.if_icmp .ne 7, 3) := by decide +kernel
theorem dX7_fault_55 : decode cX7_fault 55 = .ok (.iconst 1, 1) := by decide +kernel
theorem dX7_fault_56 : decode cX7_fault 56 = .ok (.goto 4, 3) := by decide +kernel
theorem dX7_fault_59 : decode cX7_fault 59 = .ok (.iconst 0, 1) := by decide +kernel
theorem dX7_fault_60 : decode cX7_fault 60 = .ok (.istore_n 2, 1) := by decide +kernel
theorem dX7_fault_61 : decode cX7_fault 61 = .ok (.iload_n 2, 1) := by decide +kernel
theorem dX7_fault_62 : decode cX7_fault 62 = .ok (.ifCond .eq 9, 3) := by decide +kernel
theorem dX7_fault_65 : decode cX7_fault 65 = .ok (.iload_n 3, 1) := by decide +kernel
theorem dX7_fault_66 : decode cX7_fault 66 = .ok (.iconst 1, 1) := by decide +kernel
theorem dX7_fault_67 : decode cX7_fault 67 = .ok (.iadd, 1) := by decide +kernel
theorem dX7_fault_68 : decode cX7_fault 68 = .ok (.goto 4, 3) := by decide +kernel
theorem dX7_fault_71 : decode cX7_fault 71 = .ok (.iload_n 3, 1) := by decide +kernel
theorem dX7_fault_72 : decode cX7_fault 72 = .ok (.istore_n 1, 1) := by decide +kernel
theorem dX7_fault_73 : decode cX7_fault 73 = .ok (.goto (-64), 3) := by decide +kernel
theorem dX7_fault_76 : decode cX7_fault 76 = .ok (.iload_n 1, 1) := by decide +kernel
theorem dX7_fault_77 : decode cX7_fault 77 = .ok (.aload_n 0, 1) := by decide +kernel
theorem dX7_fault_78 : decode cX7_fault 78 = .ok (.getfield 135, 3) := by decide +kernel
theorem dX7_fault_81 : decode cX7_fault 81 = .ok (.if_icmp .ne 8, 3) := by decide +kernel
theorem dX7_fault_84 : decode cX7_fault 84 = .ok (.bipush (-6), 2) := by decide +kernel
theorem dX7_fault_86 : decode cX7_fault 86 = .ok (.goto 4, 3) := by decide +kernel
theorem dX7_fault_89 : decode cX7_fault 89 = .ok (.iload_n 1, 1) := by decide +kernel
theorem dX7_fault_90 : decode cX7_fault 90 = .ok (.ireturn, 1) := by decide +kernel
theorem ggX7_read_X7_fault : GoodIn wsX7_read wsX7_fault := goodIn_r _ [10, 2, 5, 11, 12, 13, 14, 9, 15, 3, 16, 17, 4, 18, 19, 20, 39, 40, 41, 42, 43, 44, 45, 46, 47, 48, 49, 50] (by decide +kernel) (by decide +kernel)
theorem gX7_read_X7_fault : GoodIn wsX7_read (wsV RX7 174 RX7 yX7_fault wsX7_fault) := goodIn_app (goodIn_of _ (by decide +kernel)) ggX7_read_X7_fault
theorem ggX7_read_X7_changes : GoodIn wsX7_read wsX7_changes := goodIn_r _ [24, 25, 26, 1, 39, 40, 41, 42, 43, 44, 45, 46, 47, 48, 49, 50] (by decide +kernel) (by decide +kernel)
theorem gX7_read_X7_changes : GoodIn wsX7_read (wsV RX7 106 RX7 yX7_changes wsX7_changes) := goodIn_app (goodIn_of _ (by decide +kernel)) ggX7_read_X7_changes
theorem ggX7_read_X7_comes : GoodIn wsX7_read wsX7_comes := goodIn_r _ [30, 1, 31, 32, 33, 9, 34, 35, 36, 37, 38, 39, 40, 41, 42, 43, 44, 45, 46, 47, 48, 49, 50] (by decide +kernel) (by decide +kernel)
theorem gX7_read_X7_comes : GoodIn wsX7_read (wsV RX7 178 RX7 yX7_comes wsX7_comes) := goodIn_app (goodIn_of _ (by decide +kernel)) ggX7_read_X7_comes
theorem dX7_read_0 : decode cX7_read 0 = .ok (.aload_n 0, 1) := by decide +kernel
theorem dX7_read_1 : decode cX7_read 1 = .ok (.invokevirtual 174, 3) := by decide +kernel
theorem dX7_read_4 : decode cX7_read 4 = .ok (.bipush (-6), 2) := by decide +kernel
theorem dX7_read_6 : decode cX7_read 6 = .ok (.if_icmp .eq 6, 3) := by decide +kernel
theorem dX7_read_9 : decode cX7_read 9 = .ok (.bipush (-3), 2) := by decide +kernel
theorem dX7_read_11 : decode cX7_read 11 = .ok (.ireturn, 1) := by decide +kernel
theorem dX7_read_12 : decode cX7_read 12 = .ok (.aload_n 0, 1) := by decide +kernel
theorem dX7_read_13 : decode cX7_read 13 = .ok (.getfield 7, 3) := by decide +kernel
theorem dX7_read_16 : decode cX7_read 16 = .ok (.iconst 4, 1) := by decide +kernel
theorem dX7_read_17 : decode cX7_read 17 = .ok (.iaload, 1) := by decide +kernel
theorem dX7_read_18 : decode cX7_read 18 = .ok (.aload_n 0, 1) := by decide +kernel
theorem dX7_read_19 : decode cX7_read 19 = .ok (.getfield 164, 3) := by decide +kernel
theorem dX7_read_22 : decode cX7_read 22 = .ok (.iadd, 1) := by decide +kernel
theorem dX7_read_23 : decode cX7_read 23 = .ok (.bipush 24, 2) := by decide +kernel
theorem dX7_read_25 : decode cX7_read 25 = .ok (.if_icmp .le 6, 3) := by decide +kernel
theorem dX7_read_28 : decode cX7_read 28 = .ok (.bipush (-4), 2) := by decide +kernel
theorem dX7_read_30 : decode cX7_read 30 = .ok (.ireturn, 1) := by decide +kernel
theorem dX7_read_31 : decode cX7_read 31 = .ok (.aload_n 0, 1) := by decide +kernel
theorem dX7_read_32 : decode cX7_read 32 = .ok (.invokevirtual 106, 3) := by decide +kernel
theorem dX7_read_35 : decode cX7_read 35 = .ok (.iconst 0, 1) := by decide +kernel
theorem dX7_read_36 : decode cX7_read 36 = .ok (.istore_n 1, 1) := by decide +kernel
theorem dX7_read_37 : decode cX7_read 37 = .ok (.iload_n 1, 1) := by decide +kernel
theorem dX7_read_38 : decode cX7_read 38 = .ok (.aload_n 0, 1) := by decide +kernel
theorem dX7_read_39 : decode cX7_read 39 = .ok (.getfield 164, 3) := by decide +kernel
theorem dX7_read_42 : decode cX7_read 42 = .ok (.if_icmp .ge 25, 3) := by decide +kernel
theorem dX7_read_45 : decode cX7_read 45 = .ok (.aload_n 0, 1) := by decide +kernel
theorem dX7_read_46 : decode cX7_read 46 = .ok (.aload_n 0, 1) := by decide +kernel
theorem dX7_read_47 : decode cX7_read 47 = .ok (.getfield 31, 3) := by decide +kernel
theorem dX7_read_50 : decode cX7_read 50 = .ok (.iload_n 1, 1) := by decide +kernel
theorem dX7_read_51 : decode cX7_read 51 = .ok (.iaload, 1) := by decide +kernel
theorem dX7_read_52 : decode cX7_read 52 = .ok (.aload_n 0, 1) := by decide +kernel
theorem dX7_read_53 : decode cX7_read 53 = .ok (.getfield 34, 3) := by decide +kernel
theorem dX7_read_56 : decode cX7_read 56 = .ok (.iload_n 1, 1) := by decide +kernel
theorem dX7_read_57 : decode cX7_read 57 = .ok (.iaload, 1) := by decide +kernel
theorem dX7_read_58 : decode cX7_read 58 = .ok (.invokevirtual 178, 3) := by decide +kernel
theorem dX7_read_61 : decode cX7_read 61 = .ok (.iinc 1 1, 3) := by decide +kernel
theorem dX7_read_64 : decode cX7_read 64 = .ok (.goto (-27), 3) := by decide +kernel
theorem dX7_read_67 : decode cX7_read 67 = .ok (.aload_n 0, 1) := by decide +kernel
theorem dX7_read_68 : decode cX7_read 68 = .ok (.iconst 0, 1) := by decide +kernel
theorem dX7_read_69 : decode cX7_read 69 = .ok (.putfield 135, 3) := by decide +kernel
theorem dX7_read_72 : decode cX7_read 72 = .ok (.aload_n 0, 1) := by decide +kernel
theorem dX7_read_73 : decode cX7_read 73 = .ok (.getfield 7, 3) := by decide +kernel
theorem dX7_read_76 : decode cX7_read 76 = .ok (.iconst 4, 1) := by decide +kernel
theorem dX7_read_77 : decode cX7_read 77 = .ok (.iaload, 1) := by decide +kernel
theorem dX7_read_78 : decode cX7_read 78 = .ok (.ireturn, 1) := by decide +kernel
theorem dX7_undo_0 : decode cX7_undo 0 = .ok (.aload_n 0, 1) := by decide +kernel
theorem dX7_undo_1 : decode cX7_undo 1 = .ok (.getfield 37, 3) := by decide +kernel
theorem dX7_undo_4 : decode cX7_undo 4 = .ok (.ifCond .ne 6, 3) := by decide +kernel
theorem dX7_undo_7 : decode cX7_undo 7 = .ok (.bipush (-5), 2) := by decide +kernel
theorem dX7_undo_9 : decode cX7_undo 9 = .ok (.ireturn, 1) := by decide +kernel
theorem dX7_undo_10 : decode cX7_undo 10 = .ok (.aload_n 0, 1) := by decide +kernel
theorem dX7_undo_11 : decode cX7_undo 11 = .ok (.dup, 1) := by decide +kernel
theorem dX7_undo_12 : decode cX7_undo 12 = .ok (.getfield 37, 3) := by decide +kernel
theorem dX7_undo_15 : decode cX7_undo 15 = .ok (.iconst 1, 1) := by decide +kernel
theorem dX7_undo_16 : decode cX7_undo 16 = .ok (.isub, 1) := by decide +kernel
theorem dX7_undo_17 : decode cX7_undo 17 = .ok (.putfield 37, 3) := by decide +kernel
theorem dX7_undo_20 : decode cX7_undo 20 = .ok (.iconst 0, 1) := by decide +kernel
theorem dX7_undo_21 : decode cX7_undo 21 = .ok (.istore_n 1, 1) := by decide +kernel
theorem dX7_undo_22 : decode cX7_undo 22 = .ok (.iload_n 1, 1) := by decide +kernel
theorem dX7_undo_23 : decode cX7_undo 23 = .ok (.sipush 326, 3) := by decide +kernel
theorem dX7_undo_26 : decode cX7_undo 26 = .ok (.if_icmp .ge 30, 3) := by decide +kernel
theorem dX7_undo_29 : decode cX7_undo 29 = .ok (.aload_n 0, 1) := by decide +kernel
theorem dX7_undo_30 : decode cX7_undo 30 = .ok (.getfield 7, 3) := by decide +kernel
theorem dX7_undo_33 : decode cX7_undo 33 = .ok (.iload_n 1, 1) := by decide +kernel
theorem dX7_undo_34 : decode cX7_undo 34 = .ok (.aload_n 0, 1) := by decide +kernel
theorem dX7_undo_35 : decode cX7_undo 35 = .ok (.getfield 16, 3) := by decide +kernel
theorem dX7_undo_38 : decode cX7_undo 38 = .ok (.sipush 326, 3) := by decide +kernel
theorem dX7_undo_41 : decode cX7_undo 41 = .ok (.aload_n 0, 1) := by decide +kernel
theorem dX7_undo_42 : decode cX7_undo 42 = .ok (.getfield 37, 3) := by decide +kernel
theorem dX7_undo_45 : decode cX7_undo 45 = .ok (.imul, 1) := by decide +kernel
theorem dX7_undo_46 : decode cX7_undo 46 = .ok (.iload_n 1, 1) := by decide +kernel
theorem dX7_undo_47 : decode cX7_undo 47 = .ok (.iadd, 1) := by decide +kernel
theorem dX7_undo_48 : decode cX7_undo 48 = .ok (.iaload, 1) := by decide +kernel
theorem dX7_undo_49 : decode cX7_undo 49 = .ok (.iastore, 1) := by decide +kernel
theorem dX7_undo_50 : decode cX7_undo 50 = .ok (.iinc 1 1, 3) := by decide +kernel
theorem dX7_undo_53 : decode cX7_undo 53 = .ok (.goto (-31), 3) := by decide +kernel
theorem dX7_undo_56 : decode cX7_undo 56 = .ok (.aload_n 0, 1) := by decide +kernel
theorem dX7_undo_57 : decode cX7_undo 57 = .ok (.getfield 37, 3) := by decide +kernel
theorem dX7_undo_60 : decode cX7_undo 60 = .ok (.ireturn, 1) := by decide +kernel
theorem dX7_isSlot_0 : decode cX7_isSlot 0 = .ok (.iload_n 0, 1) := by decide +kernel
theorem dX7_isSlot_1 : decode cX7_isSlot 1 = .ok (.ifCond .eq 8, 3) := by decide +kernel
theorem dX7_isSlot_4 : decode cX7_isSlot 4 = .ok (.iload_n 0, 1) := by decide +kernel
theorem dX7_isSlot_5 : decode cX7_isSlot 5 = .ok (.iconst 1, 1) := by decide +kernel
theorem dX7_isSlot_6 : decode cX7_isSlot 6 = .ok (.if_icmp .ne 7, 3) := by decide +kernel
theorem dX7_isSlot_9 : decode cX7_isSlot 9 = .ok (.iconst 1, 1) := by decide +kernel
theorem dX7_isSlot_10 : decode cX7_isSlot 10 = .ok (.goto 4, 3) := by decide +kernel
theorem dX7_isSlot_13 : decode cX7_isSlot 13 = .ok (.iconst 0, 1) := by decide +kernel
theorem dX7_isSlot_14 : decode cX7_isSlot 14 = .ok (.ireturn, 1) := by decide +kernel
theorem ggX7_save_X7_isSlot : GoodIn wsX7_save wsX7_isSlot := goodIn_r _ [7] (by decide +kernel) (by decide +kernel)
theorem gX7_save_X7_isSlot : GoodIn wsX7_save (va_wsS RX7 181 yX7_isSlot wsX7_isSlot) := goodIn_app (goodIn_of _ (by decide +kernel)) ggX7_save_X7_isSlot
theorem dX7_save_0 : decode cX7_save 0 = .ok (.iload_n 1, 1) := by decide +kernel
theorem dX7_save_1 : decode cX7_save 1 = .ok (.invokestatic 181, 3) := by decide +kernel
theorem dX7_save_4 : decode cX7_save 4 = .ok (.ifCond .ne 6, 3) := by decide +kernel
theorem dX7_save_7 : decode cX7_save 7 = .ok (.bipush (-2), 2) := by decide +kernel
theorem dX7_save_9 : decode cX7_save 9 = .ok (.ireturn, 1) := by decide +kernel
theorem dX7_save_10 : decode cX7_save 10 = .ok (.iconst 0, 1) := by decide +kernel
theorem dX7_save_11 : decode cX7_save 11 = .ok (.istore_n 2, 1) := by decide +kernel
theorem dX7_save_12 : decode cX7_save 12 = .ok (.iload_n 2, 1) := by decide +kernel
theorem dX7_save_13 : decode cX7_save 13 = .ok (.sipush 326, 3) := by decide +kernel
theorem dX7_save_16 : decode cX7_save 16 = .ok (.if_icmp .ge 27, 3) := by decide +kernel
theorem dX7_save_19 : decode cX7_save 19 = .ok (.aload_n 0, 1) := by decide +kernel
theorem dX7_save_20 : decode cX7_save 20 = .ok (.getfield 19, 3) := by decide +kernel
theorem dX7_save_23 : decode cX7_save 23 = .ok (.sipush 326, 3) := by decide +kernel
theorem dX7_save_26 : decode cX7_save 26 = .ok (.iload_n 1, 1) := by decide +kernel
theorem dX7_save_27 : decode cX7_save 27 = .ok (.imul, 1) := by decide +kernel
theorem dX7_save_28 : decode cX7_save 28 = .ok (.iload_n 2, 1) := by decide +kernel
theorem dX7_save_29 : decode cX7_save 29 = .ok (.iadd, 1) := by decide +kernel
theorem dX7_save_30 : decode cX7_save 30 = .ok (.aload_n 0, 1) := by decide +kernel
theorem dX7_save_31 : decode cX7_save 31 = .ok (.getfield 7, 3) := by decide +kernel
theorem dX7_save_34 : decode cX7_save 34 = .ok (.iload_n 2, 1) := by decide +kernel
theorem dX7_save_35 : decode cX7_save 35 = .ok (.iaload, 1) := by decide +kernel
theorem dX7_save_36 : decode cX7_save 36 = .ok (.iastore, 1) := by decide +kernel
theorem dX7_save_37 : decode cX7_save 37 = .ok (.iinc 2 1, 3) := by decide +kernel
theorem dX7_save_40 : decode cX7_save 40 = .ok (.goto (-28), 3) := by decide +kernel
theorem dX7_save_43 : decode cX7_save 43 = .ok (.aload_n 0, 1) := by decide +kernel
theorem dX7_save_44 : decode cX7_save 44 = .ok (.getfield 22, 3) := by decide +kernel
theorem dX7_save_47 : decode cX7_save 47 = .ok (.iload_n 1, 1) := by decide +kernel
theorem dX7_save_48 : decode cX7_save 48 = .ok (.iconst 1, 1) := by decide +kernel
theorem dX7_save_49 : decode cX7_save 49 = .ok (.iastore, 1) := by decide +kernel
theorem dX7_save_50 : decode cX7_save 50 = .ok (.aload_n 0, 1) := by decide +kernel
theorem dX7_save_51 : decode cX7_save 51 = .ok (.getfield 7, 3) := by decide +kernel
theorem dX7_save_54 : decode cX7_save 54 = .ok (.iconst 3, 1) := by decide +kernel
theorem dX7_save_55 : decode cX7_save 55 = .ok (.iaload, 1) := by decide +kernel
theorem dX7_save_56 : decode cX7_save 56 = .ok (.ireturn, 1) := by decide +kernel
theorem ggX7_restore_X7_isSlot : GoodIn wsX7_restore wsX7_isSlot := goodIn_r _ [7] (by decide +kernel) (by decide +kernel)
theorem gX7_restore_X7_isSlot : GoodIn wsX7_restore (va_wsS RX7 181 yX7_isSlot wsX7_isSlot) := goodIn_app (goodIn_of _ (by decide +kernel)) ggX7_restore_X7_isSlot
theorem ggX7_restore_X7_changes : GoodIn wsX7_restore wsX7_changes := goodIn_r _ [11, 12, 13, 2, 14, 15, 16, 17, 18, 19, 20, 21, 22, 23, 24, 25] (by decide +kernel) (by decide +kernel)
theorem gX7_restore_X7_changes : GoodIn wsX7_restore (wsV RX7 106 RX7 yX7_changes wsX7_changes) := goodIn_app (goodIn_of _ (by decide +kernel)) ggX7_restore_X7_changes
theorem dX7_restore_0 : decode cX7_restore 0 = .ok (.iload_n 1, 1) := by decide +kernel
theorem dX7_restore_1 : decode cX7_restore 1 = .ok (.invokestatic 181, 3) := by decide +kernel
theorem dX7_restore_4 : decode cX7_restore 4 = .ok (.ifCond .ne 6, 3) := by decide +kernel
theorem dX7_restore_7 : decode cX7_restore 7 = .ok (.bipush (-2), 2) := by decide +kernel
theorem dX7_restore_9 : decode cX7_restore 9 = .ok (.ireturn, 1) := by decide +kernel
theorem dX7_restore_10 : decode cX7_restore 10 = .ok (.aload_n 0, 1) := by decide +kernel
theorem dX7_restore_11 : decode cX7_restore 11 = .ok (.getfield 22, 3) := by decide +kernel
theorem dX7_restore_14 : decode cX7_restore 14 = .ok (.iload_n 1, 1) := by decide +kernel
theorem dX7_restore_15 : decode cX7_restore 15 = .ok (.iaload, 1) := by decide +kernel
theorem dX7_restore_16 : decode cX7_restore 16 = .ok (.ifCond .ne 6, 3) := by decide +kernel
theorem dX7_restore_19 : decode cX7_restore 19 = .ok (.bipush (-5), 2) := by decide +kernel
theorem dX7_restore_21 : decode cX7_restore 21 = .ok (.ireturn, 1) := by decide +kernel
theorem dX7_restore_22 : decode cX7_restore 22 = .ok (.aload_n 0, 1) := by decide +kernel
theorem dX7_restore_23 : decode cX7_restore 23 = .ok (.invokevirtual 106, 3) := by decide +kernel
theorem dX7_restore_26 : decode cX7_restore 26 = .ok (.iconst 0, 1) := by decide +kernel
theorem dX7_restore_27 : decode cX7_restore 27 = .ok (.istore_n 2, 1) := by decide +kernel
theorem dX7_restore_28 : decode cX7_restore 28 = .ok (.iload_n 2, 1) := by decide +kernel
theorem dX7_restore_29 : decode cX7_restore 29 = .ok (.sipush 326, 3) := by decide +kernel
theorem dX7_restore_32 : decode cX7_restore 32 = .ok (.if_icmp .ge 27, 3) := by decide +kernel
theorem dX7_restore_35 : decode cX7_restore 35 = .ok (.aload_n 0, 1) := by decide +kernel
theorem dX7_restore_36 : decode cX7_restore 36 = .ok (.getfield 7, 3) := by decide +kernel
theorem dX7_restore_39 : decode cX7_restore 39 = .ok (.iload_n 2, 1) := by decide +kernel
theorem dX7_restore_40 : decode cX7_restore 40 = .ok (.aload_n 0, 1) := by decide +kernel
theorem dX7_restore_41 : decode cX7_restore 41 = .ok (.getfield 19, 3) := by decide +kernel
theorem dX7_restore_44 : decode cX7_restore 44 = .ok (.sipush 326, 3) := by decide +kernel
theorem dX7_restore_47 : decode cX7_restore 47 = .ok (.iload_n 1, 1) := by decide +kernel
theorem dX7_restore_48 : decode cX7_restore 48 = .ok (.imul, 1) := by decide +kernel
theorem dX7_restore_49 : decode cX7_restore 49 = .ok (.iload_n 2, 1) := by decide +kernel
theorem dX7_restore_50 : decode cX7_restore 50 = .ok (.iadd, 1) := by decide +kernel
theorem dX7_restore_51 : decode cX7_restore 51 = .ok (.iaload, 1) := by decide +kernel
theorem dX7_restore_52 : decode cX7_restore 52 = .ok (.iastore, 1) := by decide +kernel
theorem dX7_restore_53 : decode cX7_restore 53 = .ok (.iinc 2 1, 3) := by decide +kernel
theorem dX7_restore_56 : decode cX7_restore 56 = .ok (.goto (-28), 3) := by decide +kernel
theorem dX7_restore_59 : decode cX7_restore 59 = .ok (.aload_n 0, 1) := by decide +kernel
theorem dX7_restore_60 : decode cX7_restore 60 = .ok (.getfield 7, 3) := by decide +kernel
theorem dX7_restore_63 : decode cX7_restore 63 = .ok (.iconst 3, 1) := by decide +kernel
theorem dX7_restore_64 : decode cX7_restore 64 = .ok (.iaload, 1) := by decide +kernel
theorem dX7_restore_65 : decode cX7_restore 65 = .ok (.ireturn, 1) := by decide +kernel
