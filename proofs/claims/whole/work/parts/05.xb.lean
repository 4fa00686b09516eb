theorem dX4_init_0 : decode cX4_init 0 = .ok (.aload_n 0, 1) := by decide +kernel
theorem dX4_init_1 : decode cX4_init 1 = .ok (.invokespecial 3, 3) := by decide +kernel
theorem dX4_init_4 : decode cX4_init 4 = .ok (.aload_n 0, 1) := by decide +kernel
theorem dX4_init_5 : decode cX4_init 5 = .ok (.sipush 640, 3) := by decide +kernel
theorem dX4_init_8 : decode cX4_init 8 = .ok (.newarray .byte, 2) := by decide +kernel
theorem dX4_init_10 : decode cX4_init 10 = .ok (.putfield 9, 3) := by decide +kernel
theorem dX4_init_13 : decode cX4_init 13 = .ok (.aload_n 0, 1) := by decide +kernel
theorem dX4_init_14 : decode cX4_init 14 = .ok (.iconst 0, 1) := by decide +kernel
theorem dX4_init_15 : decode cX4_init 15 = .ok (.putfield 15, 3) := by decide +kernel
theorem dX4_init_18 : decode cX4_init 18 = .ok (.return_, 1) := by decide +kernel
theorem dX4_addNumber_0 : decode cX4_addNumber 0 = .ok (.bipush 24, 2) := by decide +kernel
theorem dX4_addNumber_2 : decode cX4_addNumber 2 = .ok (.istore_n 2, 1) := by decide +kernel
theorem dX4_addNumber_3 : decode cX4_addNumber 3 = .ok (.iload_n 2, 1) := by decide +kernel
theorem dX4_addNumber_4 : decode cX4_addNumber 4 = .ok (.ifCond .lt 42, 3) := by decide +kernel
theorem dX4_addNumber_7 : decode cX4_addNumber 7 = .ok (.aload_n 0, 1) := by decide +kernel
theorem dX4_addNumber_8 : decode cX4_addNumber 8 = .ok (.getfield 15, 3) := by decide +kernel
theorem dX4_addNumber_11 : decode cX4_addNumber 11 = .ok (.sipush 640, 3) := by decide +kernel
theorem dX4_addNumber_14 : decode cX4_addNumber 14 = .ok (.if_icmp .ge 32, 3) := by decide +kernel
theorem dX4_addNumber_17 : decode cX4_addNumber 17 = .ok (.aload_n 0, 1) := by decide +kernel
theorem dX4_addNumber_18 : decode cX4_addNumber 18 = .ok (.getfield 9, 3) := by decide +kernel
theorem dX4_addNumber_21 : decode cX4_addNumber 21 = .ok (.aload_n 0, 1) := by decide +kernel
theorem dX4_addNumber_22 : decode cX4_addNumber 22 = .ok (.getfield 15, 3) := by decide +kernel
theorem dX4_addNumber_25 : decode cX4_addNumber 25 = .ok (.iload_n 1, 1) := by decide +kernel
theorem dX4_addNumber_26 : decode cX4_addNumber 26 = .ok (.iload_n 2, 1) := by decide +kernel
theorem dX4_addNumber_27 : decode cX4_addNumber 27 = .ok (.ishr, 1) := by decide +kernel
theorem dX4_addNumber_28 : decode cX4_addNumber 28 = .ok (.i2b, 1) := by decide +kernel
theorem dX4_addNumber_29 : decode cX4_addNumber 29 = .ok (.bastore, 1) := by decide +kernel
theorem dX4_addNumber_30 : decode cX4_addNumber 30 = .ok (.aload_n 0, 1) := by decide +kernel
theorem dX4_addNumber_31 : decode cX4_addNumber 31 = .ok (.dup, 1) := by decide +kernel
theorem dX4_addNumber_32 : decode cX4_addNumber 32 = .ok (.getfield 15, 3) := by decide +kernel
theorem dX4_addNumber_35 : decode cX4_addNumber 35 = .ok (.iconst 1, 1) := by decide +kernel
theorem dX4_addNumber_36 : decode cX4_addNumber 36 = .ok (.iadd, 1) := by decide +kernel
theorem dX4_addNumber_37 : decode cX4_addNumber 37 = .ok (.putfield 15, 3) := by decide +kernel
theorem dX4_addNumber_40 : decode cX4_addNumber 40 = .ok (.iinc 2 (-8), 3) := by decide +kernel
theorem dX4_addNumber_43 : decode cX4_addNumber 43 = .ok (.goto (-40), 3) := by decide +kernel
theorem dX4_addNumber_46 : decode cX4_addNumber 46 = .ok (.return_, 1) := by decide +kernel
theorem dX5_init_0 : decode cX5_init 0 = .ok (.aload_n 0, 1) := by decide +kernel
theorem dX5_init_1 : decode cX5_init 1 = .ok (.invokespecial 3, 3) := by decide +kernel
theorem dX5_init_4 : decode cX5_init 4 = .ok (.aload_n 0, 1) := by decide +kernel
theorem dX5_init_5 : decode cX5_init 5 = .ok (.iconst 0, 1) := by decide +kernel
theorem dX5_init_6 : decode cX5_init 6 = .ok (.putfield 9, 3) := by decide +kernel
theorem dX5_init_9 : decode cX5_init 9 = .ok (.aload_n 0, 1) := by decide +kernel
theorem dX5_init_10 : decode cX5_init 10 = .ok (.iconst 0, 1) := by decide +kernel
theorem dX5_init_11 : decode cX5_init 11 = .ok (.putfield 15, 3) := by decide +kernel
theorem dX5_init_14 : decode cX5_init 14 = .ok (.aload_n 0, 1) := by decide +kernel
theorem dX5_init_15 : decode cX5_init 15 = .ok (.iconst 0, 1) := by decide +kernel
theorem dX5_init_16 : decode cX5_init 16 = .ok (.putfield 18, 3) := by decide +kernel
theorem dX5_init_19 : decode cX5_init 19 = .ok (.aload_n 0, 1) := by decide +kernel
theorem dX5_init_20 : decode cX5_init 20 = .ok (.iconst 0, 1) := by decide +kernel
theorem dX5_init_21 : decode cX5_init 21 = .ok (.putfield 21, 3) := by decide +kernel
theorem dX5_init_24 : decode cX5_init 24 = .ok (.aload_n 0, 1) := by decide +kernel
theorem dX5_init_25 : decode cX5_init 25 = .ok (.aload_n 1, 1) := by decide +kernel
theorem dX5_init_26 : decode cX5_init 26 = .ok (.putfield 24, 3) := by decide +kernel
theorem dX5_init_29 : decode cX5_init 29 = .ok (.return_, 1) := by decide +kernel
theorem dX5_rewind_0 : decode cX5_rewind 0 = .ok (.aload_n 0, 1) := by decide +kernel
theorem dX5_rewind_1 : decode cX5_rewind 1 = .ok (.iconst 0, 1) := by decide +kernel
theorem dX5_rewind_2 : decode cX5_rewind 2 = .ok (.putfield 9, 3) := by decide +kernel
theorem dX5_rewind_5 : decode cX5_rewind 5 = .ok (.aload_n 0, 1) := by decide +kernel
theorem dX5_rewind_6 : decode cX5_rewind 6 = .ok (.iconst 0, 1) := by decide +kernel
theorem dX5_rewind_7 : decode cX5_rewind 7 = .ok (.putfield 15, 3) := by decide +kernel
theorem dX5_rewind_10 : decode cX5_rewind 10 = .ok (.aload_n 0, 1) := by decide +kernel
theorem dX5_rewind_11 : decode cX5_rewind 11 = .ok (.iconst 0, 1) := by decide +kernel
theorem dX5_rewind_12 : decode cX5_rewind 12 = .ok (.putfield 18, 3) := by decide +kernel
theorem dX5_rewind_15 : decode cX5_rewind 15 = .ok (.aload_n 0, 1) := by decide +kernel
theorem dX5_rewind_16 : decode cX5_rewind 16 = .ok (.iconst 0, 1) := by decide +kernel
theorem dX5_rewind_17 : decode cX5_rewind 17 = .ok (.putfield 21, 3) := by decide +kernel
theorem dX5_rewind_20 : decode cX5_rewind 20 = .ok (.return_, 1) := by decide +kernel
set_option maxRecDepth 20000 in
theorem ggX5_advance_X5_skipBlanks : GoodIn wsX5_advance wsX5_skipBlanks := goodIn_r _ [9, 1, 3, 15, 16, 17, 18, 19, 20, 21] (by decide +kernel) (by decide +kernel)
set_option maxRecDepth 20000 in
theorem gX5_advance_X5_skipBlanks : GoodIn wsX5_advance (wsV RX5 28 RX5 yX5_skipBlanks wsX5_skipBlanks) := goodIn_app (goodIn_of _ (by decide +kernel)) ggX5_advance_X5_skipBlanks
set_option maxRecDepth 20000 in
theorem ggX5_advance_X5_readRun : GoodIn wsX5_advance wsX5_readRun := goodIn_r _ [13, 14, 1, 3, 4, 15, 16, 17, 18, 19, 20, 21] (by decide +kernel) (by decide +kernel)
set_option maxRecDepth 20000 in
theorem gX5_advance_X5_readRun : GoodIn wsX5_advance (wsV RX5 40 RX5 yX5_readRun wsX5_readRun) := goodIn_app (goodIn_of _ (by decide +kernel)) ggX5_advance_X5_readRun
theorem dX5_advance_0 : decode cX5_advance 0 = .ok (.aload_n 0, 1) := by decide +kernel
theorem dX5_advance_1 : decode cX5_advance 1 = .ok (.invokevirtual 28, 3) := by decide +kernel
theorem dX5_advance_4 : decode cX5_advance 4 = .ok (.aload_n 0, 1) := by decide +kernel
theorem dX5_advance_5 : decode cX5_advance 5 = .ok (.aload_n 0, 1) := by decide +kernel
theorem dX5_advance_6 : decode cX5_advance 6 = .ok (.getfield 9, 3) := by decide +kernel
theorem dX5_advance_9 : decode cX5_advance 9 = .ok (.putfield 15, 3) := by decide +kernel
theorem dX5_advance_12 : decode cX5_advance 12 = .ok (.aload_n 0, 1) := by decide +kernel
theorem dX5_advance_13 : decode cX5_advance 13 = .ok (.getfield 9, 3) := by decide +kernel
theorem dX5_advance_16 : decode cX5_advance 16 = .ok (.sipush 600, 3) := by decide +kernel
theorem dX5_advance_19 : decode cX5_advance 19 = .ok (.if_icmp .lt 31, 3) := by decide +kernel
theorem dX5_advance_22 : decode cX5_advance 22 = .ok (.aload_n 0, 1) := by decide +kernel
theorem dX5_advance_23 : decode cX5_advance 23 = .ok (.getfield 24, 3) := by decide +kernel
theorem dX5_advance_26 : decode cX5_advance 26 = .ok (.getfield 31, 3) := by decide +kernel
theorem dX5_advance_29 : decode cX5_advance 29 = .ok (.sipush 600, 3) := by decide +kernel
theorem dX5_advance_32 : decode cX5_advance 32 = .ok (.if_icmp .le 18, 3) := by decide +kernel
theorem dX5_advance_35 : decode cX5_advance 35 = .ok (.aload_n 0, 1) := by decide +kernel
theorem dX5_advance_36 : decode cX5_advance 36 = .ok (.sipush 600, 3) := by decide +kernel
theorem dX5_advance_39 : decode cX5_advance 39 = .ok (.putfield 15, 3) := by decide +kernel
theorem dX5_advance_42 : decode cX5_advance 42 = .ok (.aload_n 0, 1) := by decide +kernel
theorem dX5_advance_43 : decode cX5_advance 43 = .ok (.iconst 0, 1) := by decide +kernel
theorem dX5_advance_44 : decode cX5_advance 44 = .ok (.putfield 18, 3) := by decide +kernel
theorem dX5_advance_47 : decode cX5_advance 47 = .ok (.goto 64, 3) := by decide +kernel
theorem dX5_advance_50 : decode cX5_advance 50 = .ok (.aload_n 0, 1) := by decide +kernel
theorem dX5_advance_51 : decode cX5_advance 51 = .ok (.getfield 9, 3) := by decide +kernel
theorem dX5_advance_54 : decode cX5_advance 54 = .ok (.aload_n 0, 1) := by decide +kernel
theorem dX5_advance_55 : decode cX5_advance 55 = .ok (.getfield 24, 3) := by decide +kernel
theorem dX5_advance_58 : decode cX5_advance 58 = .ok (.getfield 31, 3) := by decide +kernel
theorem dX5_advance_61 : decode cX5_advance 61 = .ok (.if_icmp .lt 11, 3) := by decide +kernel
theorem dX5_advance_64 : decode cX5_advance 64 = .ok (.aload_n 0, 1) := by decide +kernel
theorem dX5_advance_65 : decode cX5_advance 65 = .ok (.iconst 4, 1) := by decide +kernel
theorem dX5_advance_66 : decode cX5_advance 66 = .ok (.putfield 18, 3) := by decide +kernel
theorem dX5_advance_69 : decode cX5_advance 69 = .ok (.goto 42, 3) := by decide +kernel
theorem dX5_advance_72 : decode cX5_advance 72 = .ok (.aload_n 0, 1) := by decide +kernel
theorem dX5_advance_73 : decode cX5_advance 73 = .ok (.getfield 24, 3) := by decide +kernel
theorem dX5_advance_76 : decode cX5_advance 76 = .ok (.getfield 36, 3) := by decide +kernel
theorem dX5_advance_79 : decode cX5_advance 79 = .ok (.aload_n 0, 1) := by decide +kernel
theorem dX5_advance_80 : decode cX5_advance 80 = .ok (.getfield 9, 3) := by decide +kernel
theorem dX5_advance_83 : decode cX5_advance 83 = .ok (.baload, 1) := by decide +kernel
theorem dX5_advance_84 : decode cX5_advance 84 = .ok (.bipush 59, 2) := by decide +kernel
theorem dX5_advance_86 : decode cX5_advance 86 = .ok (.if_icmp .ne 21, 3) := by decide +kernel
theorem dX5_advance_89 : decode cX5_advance 89 = .ok (.aload_n 0, 1) := by decide +kernel
theorem dX5_advance_90 : decode cX5_advance 90 = .ok (.iconst 3, 1) := by decide +kernel
theorem dX5_advance_91 : decode cX5_advance 91 = .ok (.putfield 18, 3) := by decide +kernel
theorem dX5_advance_94 : decode cX5_advance 94 = .ok (.aload_n 0, 1) := by decide +kernel
theorem dX5_advance_95 : decode cX5_advance 95 = .ok (.dup, 1) := by decide +kernel
theorem dX5_advance_96 : decode cX5_advance 96 = .ok (.getfield 9, 3) := by decide +kernel
theorem dX5_advance_99 : decode cX5_advance 99 = .ok (.iconst 1, 1) := by decide +kernel
theorem dX5_advance_100 : decode cX5_advance 100 = .ok (.iadd, 1) := by decide +kernel
theorem dX5_advance_101 : decode cX5_advance 101 = .ok (.putfield 9, 3) := by decide +kernel
theorem dX5_advance_104 : decode cX5_advance 104 = .ok (.goto 7, 3) := by decide +kernel
theorem dX5_advance_107 : decode cX5_advance 107 = .ok (.aload_n 0, 1) := by decide +kernel
theorem dX5_advance_108 : decode cX5_advance 108 = .ok (.invokevirtual 40, 3) := by decide +kernel
theorem dX5_advance_111 : decode cX5_advance 111 = .ok (.return_, 1) := by decide +kernel
theorem dX5_skipBlanks_0 : decode cX5_skipBlanks 0 = .ok (.aload_n 0, 1) := by decide +kernel
theorem dX5_skipBlanks_1 : decode cX5_skipBlanks 1 = .ok (.getfield 9, 3) := by decide +kernel
theorem dX5_skipBlanks_4 : decode cX5_skipBlanks 4 = .ok (.aload_n 0, 1) := by decide +kernel
theorem dX5_skipBlanks_5 : decode cX5_skipBlanks 5 = .ok (.getfield 24, 3) := by decide +kernel
theorem dX5_skipBlanks_8 : decode cX5_skipBlanks 8 = .ok (.getfield 31, 3) := by decide +kernel
theorem dX5_skipBlanks_11 : decode cX5_skipBlanks 11 = .ok (.if_icmp .ge 50, 3) := by decide +kernel
theorem dX5_skipBlanks_14 : decode cX5_skipBlanks 14 = .ok (.aload_n 0, 1) := by decide +kernel
theorem dX5_skipBlanks_15 : decode cX5_skipBlanks 15 = .ok (.getfield 24, 3) := by decide +kernel
theorem dX5_skipBlanks_18 : decode cX5_skipBlanks 18 = .ok (.getfield 36, 3) := by decide +kernel
theorem dX5_skipBlanks_21 : decode cX5_skipBlanks 21 = .ok (.aload_n 0, 1) := by decide +kernel
theorem dX5_skipBlanks_22 : decode cX5_skipBlanks 22 = .ok (.getfield 9, 3) := by decide +kernel
theorem dX5_skipBlanks_25 : decode cX5_skipBlanks 25 = .ok (.baload, 1) := by decide +kernel
theorem dX5_skipBlanks_26 : decode cX5_skipBlanks 26 = .ok (.bipush 32, 2) := by decide +kernel
theorem dX5_skipBlanks_28 : decode cX5_skipBlanks 28 = .ok (.if_icmp .eq 20, 3) := by decide +kernel
theorem dX5_skipBlanks_31 : decode cX5_skipBlanks 31 = .ok (.aload_n 0, 1) := by decide +kernel
theorem dX5_skipBlanks_32 : decode cX5_skipBlanks 32 = .ok (.getfield 24, 3) := by decide +kernel
theorem dX5_skipBlanks_35 : decode cX5_skipBlanks 35 = .ok (.getfield 36, 3) := by decide +kernel
theorem dX5_skipBlanks_38 : decode cX5_skipBlanks 38 = .ok (.aload_n 0, 1) := by decide +kernel
theorem dX5_skipBlanks_39 : decode cX5_skipBlanks 39 = .ok (.getfield 9, 3) := by decide +kernel
theorem dX5_skipBlanks_42 : decode cX5_skipBlanks 42 = .ok (.baload, 1) := by decide +kernel
theorem dX5_skipBlanks_43 : decode cX5_skipBlanks 43 = .ok (.bipush 10, 2) := by decide +kernel
theorem dX5_skipBlanks_45 : decode cX5_skipBlanks 45 = .ok (.if_icmp .ne 16, 3) := by decide +kernel
theorem dX5_skipBlanks_48 : decode cX5_skipBlanks 48 = .ok (.aload_n 0, 1) := by decide +kernel
theorem dX5_skipBlanks_49 : decode cX5_skipBlanks 49 = .ok (.dup, 1) := by decide +kernel
theorem dX5_skipBlanks_50 : decode cX5_skipBlanks 50 = .ok (.getfield 9, 3) := by decide +kernel
theorem dX5_skipBlanks_53 : decode cX5_skipBlanks 53 = .ok (.iconst 1, 1) := by decide +kernel
theorem dX5_skipBlanks_54 : decode cX5_skipBlanks 54 = .ok (.iadd, 1) := by decide +kernel
theorem dX5_skipBlanks_55 : decode cX5_skipBlanks 55 = .ok (.putfield 9, 3) := by decide +kernel
theorem dX5_skipBlanks_58 : decode cX5_skipBlanks 58 = .ok (.goto (-58), 3) := by decide +kernel
theorem dX5_skipBlanks_61 : decode cX5_skipBlanks 61 = .ok (.return_, 1) := by decide +kernel
theorem dX5_readRun_0 : decode cX5_readRun 0 = .ok (.iconst 0, 1) := by decide +kernel
theorem dX5_readRun_1 : decode cX5_readRun 1 = .ok (.istore_n 1, 1) := by decide +kernel
theorem dX5_readRun_2 : decode cX5_readRun 2 = .ok (.iconst 0, 1) := by decide +kernel
theorem dX5_readRun_3 : decode cX5_readRun 3 = .ok (.istore_n 2, 1) := by decide +kernel
theorem dX5_readRun_4 : decode cX5_readRun 4 = .ok (.aload_n 0, 1) := by decide +kernel
theorem dX5_readRun_5 : decode cX5_readRun 5 = .ok (.iconst 0, 1) := by decide +kernel
theorem dX5_readRun_6 : decode cX5_readRun 6 = .ok (.putfield 21, 3) := by decide +kernel
theorem dX5_readRun_9 : decode cX5_readRun 9 = .ok (.aload_n 0, 1) := by decide +kernel
theorem dX5_readRun_10 : decode cX5_readRun 10 = .ok (.getfield 9, 3) := by decide +kernel
theorem dX5_readRun_13 : decode cX5_readRun 13 = .ok (.aload_n 0, 1) := by decide +kernel
theorem dX5_readRun_14 : decode cX5_readRun 14 = .ok (.getfield 24, 3) := by decide +kernel
theorem dX5_readRun_17 : decode cX5_readRun 17 = .ok (.getfield 31, 3) := by decide +kernel
theorem dX5_readRun_20 : decode cX5_readRun 20 = .ok (.if_icmp .ge 87, 3) := by decide +kernel
theorem dX5_readRun_23 : decode cX5_readRun 23 = .ok (.aload_n 0, 1) := by decide +kernel
theorem dX5_readRun_24 : decode cX5_readRun 24 = .ok (.getfield 24, 3) := by decide +kernel
theorem dX5_readRun_27 : decode cX5_readRun 27 = .ok (.getfield 36, 3) := by decide +kernel
theorem dX5_readRun_30 : decode cX5_readRun 30 = .ok (.aload_n 0, 1) := by decide +kernel
theorem dX5_readRun_31 : decode cX5_readRun 31 = .ok (.getfield 9, 3) := by decide +kernel
theorem dX5_readRun_34 : decode cX5_readRun 34 = .ok (.baload, 1) := by decide +kernel
theorem dX5_readRun_35 : decode cX5_readRun 35 = .ok (.istore_n 3, 1) := by decide +kernel
theorem dX5_readRun_36 : decode cX5_readRun 36 = .ok (.iload_n 3, 1) := by decide +kernel
theorem dX5_readRun_37 : decode cX5_readRun 37 = .ok (.bipush 48, 2) := by decide +kernel
theorem dX5_readRun_39 : decode cX5_readRun 39 = .ok (.if_icmp .lt 40, 3) := by decide +kernel
theorem dX5_readRun_42 : decode cX5_readRun 42 = .ok (.iload_n 3, 1) := by decide +kernel
theorem dX5_readRun_43 : decode cX5_readRun 43 = .ok (.bipush 57, 2) := by decide +kernel
theorem dX5_readRun_45 : decode cX5_readRun 45 = .ok (.if_icmp .gt 34, 3) := by decide +kernel
theorem dX5_readRun_48 : decode cX5_readRun 48 = .ok (.iinc 2 1, 3) := by decide +kernel
theorem dX5_readRun_51 : decode cX5_readRun 51 = .ok (.aload_n 0, 1) := by decide +kernel
theorem dX5_readRun_52 : decode cX5_readRun 52 = .ok (.iload_n 2, 1) := by decide +kernel
theorem dX5_readRun_53 : decode cX5_readRun 53 = .ok (.iconst 4, 1) := by decide +kernel
theorem dX5_readRun_54 : decode cX5_readRun 54 = .ok (.if_icmp .gt 18, 3) := by decide +kernel
theorem dX5_readRun_57 : decode cX5_readRun 57 = .ok (.aload_n 0, 1) := by decide +kernel
theorem dX5_readRun_58 : decode cX5_readRun 58 = .ok (.getfield 21, 3) := by decide +kernel
theorem dX5_readRun_61 : decode cX5_readRun 61 = .ok (.bipush 10, 2) := by decide +kernel
theorem dX5_readRun_63 : decode cX5_readRun 63 = .ok (.imul, 1) := by decide +kernel
theorem dX5_readRun_64 : decode cX5_readRun 64 = .ok (.iload_n 3, 1) := by decide +kernel
theorem dX5_readRun_65 : decode cX5_readRun 65 = .ok (.iadd, 1) := by decide +kernel
theorem dX5_readRun_66 : decode cX5_readRun 66 = .ok (.bipush 48, 2) := by decide +kernel
theorem dX5_readRun_68 : decode cX5_readRun 68 = .ok (.isub, 1) := by decide +kernel
theorem dX5_readRun_69 : decode cX5_readRun 69 = .ok (.goto 4, 3) := by decide +kernel
theorem dX5_readRun_72 : decode cX5_readRun 72 = .ok (.iconst 0, 1) := by decide +kernel
theorem dX5_readRun_73 : decode cX5_readRun 73 = .ok (.putfield 21, 3) := by decide +kernel
theorem dX5_readRun_76 : decode cX5_readRun 76 = .ok (.goto 18, 3) := by decide +kernel
theorem dX5_readRun_79 : decode cX5_readRun 79 = .ok (.iload_n 3, 1) := by decide +kernel
theorem dX5_readRun_80 : decode cX5_readRun 80 = .ok (.bipush 97, 2) := by decide +kernel
theorem dX5_readRun_82 : decode cX5_readRun 82 = .ok (.if_icmp .lt 25, 3) := by decide +kernel
theorem dX5_readRun_85 : decode cX5_readRun 85 = .ok (.iload_n 3, 1) := by decide +kernel
theorem dX5_readRun_86 : decode cX5_readRun 86 = .ok (.bipush 122, 2) := by decide +kernel
theorem dX5_readRun_88 : decode cX5_readRun 88 = .ok (.if_icmp .gt 19, 3) := by decide +kernel
theorem dX5_readRun_91 : decode cX5_readRun 91 = .ok (.iinc 1 1, 3) := by decide +kernel
theorem dX5_readRun_94 : decode cX5_readRun 94 = .ok (.aload_n 0, 1) := by decide +kernel
theorem dX5_readRun_95 : decode cX5_readRun 95 = .ok (.dup, 1) := by decide +kernel
theorem dX5_readRun_96 : decode cX5_readRun 96 = .ok (.getfield 9, 3) := by decide +kernel
theorem dX5_readRun_99 : decode cX5_readRun 99 = .ok (.iconst 1, 1) := by decide +kernel
theorem dX5_readRun_100 : decode cX5_readRun 100 = .ok (.iadd, 1) := by decide +kernel
theorem dX5_readRun_101 : decode cX5_readRun 101 = .ok (.putfield 9, 3) := by decide +kernel
theorem dX5_readRun_104 : decode cX5_readRun 104 = .ok (.goto (-95), 3) := by decide +kernel
theorem dX5_readRun_107 : decode cX5_readRun 107 = .ok (.iload_n 1, 1) := by decide +kernel
theorem dX5_readRun_108 : decode cX5_readRun 108 = .ok (.ifCond .le 15, 3) := by decide +kernel
theorem dX5_readRun_111 : decode cX5_readRun 111 = .ok (.iload_n 2, 1) := by decide +kernel
theorem dX5_readRun_112 : decode cX5_readRun 112 = .ok (.ifCond .ne 11, 3) := by decide +kernel
theorem dX5_readRun_115 : decode cX5_readRun 115 = .ok (.aload_n 0, 1) := by decide +kernel
theorem dX5_readRun_116 : decode cX5_readRun 116 = .ok (.iconst 1, 1) := by decide +kernel
theorem dX5_readRun_117 : decode cX5_readRun 117 = .ok (.putfield 18, 3) := by decide +kernel
theorem dX5_readRun_120 : decode cX5_readRun 120 = .ok (.goto 25, 3) := by decide +kernel
theorem dX5_readRun_123 : decode cX5_readRun 123 = .ok (.aload_n 0, 1) := by decide +kernel
theorem dX5_readRun_124 : decode cX5_readRun 124 = .ok (.iload_n 1, 1) := by decide +kernel
theorem dX5_readRun_125 : decode cX5_readRun 125 = .ok (.ifCond .ne 16, 3) := by decide +kernel
theorem dX5_readRun_128 : decode cX5_readRun 128 = .ok (.iload_n 2, 1) := by decide +kernel
theorem dX5_readRun_129 : decode cX5_readRun 129 = .ok (.ifCond .le 12, 3) := by decide +kernel
theorem dX5_readRun_132 : decode cX5_readRun 132 = .ok (.iload_n 2, 1) := by decide +kernel
theorem dX5_readRun_133 : decode cX5_readRun 133 = .ok (.iconst 4, 1) := by decide +kernel
theorem dX5_readRun_134 : decode cX5_readRun 134 = .ok (.if_icmp .gt 7, 3) := by decide +kernel
theorem dX5_readRun_137 : decode cX5_readRun 137 = .ok (.iconst 2, 1) := by decide +kernel
theorem dX5_readRun_138 : decode cX5_readRun 138 = .ok (.goto 4, 3) := by decide +kernel
theorem dX5_readRun_141 : decode cX5_readRun 141 = .ok (.iconst 0, 1) := by decide +kernel
theorem dX5_readRun_142 : decode cX5_readRun 142 = .ok (.putfield 18, 3) := by decide +kernel
theorem dX5_readRun_145 : decode cX5_readRun 145 = .ok (.return_, 1) := by decide +kernel
set_option maxRecDepth 20000 in
theorem ggX5_isWord_J0_length_8abf5 : GoodIn wsX5_isWord wsJ0_length_8abf5 := goodIn_r _ [9, 10, 11, 12, 13, 8, 14, 15, 16] (by decide +kernel) (by decide +kernel)
set_option maxRecDepth 20000 in
theorem gX5_isWord_J0_length_8abf5 : GoodIn wsX5_isWord (wsV RX5 43 RJ0 yJ0_length_8abf5 wsJ0_length_8abf5) := goodIn_app (goodIn_of _ (by decide +kernel)) ggX5_isWord_J0_length_8abf5
set_option maxRecDepth 20000 in
theorem ggX5_isWord_J0_charAt_5068e : GoodIn wsX5_isWord wsJ0_charAt_5068e := goodIn_r _ [20, 10, 21, 22, 23, 8, 24, 15, 16, 25, 26, 27, 28, 29, 30, 31, 32, 33, 34, 35, 36, 37, 38, 39, 40, 41, 42, 43, 44, 45, 46, 47, 48, 49, 50, 51, 52, 53] (by decide +kernel) (by decide +kernel)
set_option maxRecDepth 20000 in
theorem gX5_isWord_J0_charAt_5068e : GoodIn wsX5_isWord (wsV RX5 48 RJ0 yJ0_charAt_5068e wsJ0_charAt_5068e) := goodIn_app (goodIn_of _ (by decide +kernel)) ggX5_isWord_J0_charAt_5068e
theorem dX5_isWord_0 : decode cX5_isWord 0 = .ok (.aload_n 0, 1) := by decide +kernel
theorem dX5_isWord_1 : decode cX5_isWord 1 = .ok (.getfield 18, 3) := by decide +kernel
theorem dX5_isWord_4 : decode cX5_isWord 4 = .ok (.iconst 1, 1) := by decide +kernel
theorem dX5_isWord_5 : decode cX5_isWord 5 = .ok (.if_icmp .ne 19, 3) := by decide +kernel
theorem dX5_isWord_8 : decode cX5_isWord 8 = .ok (.aload_n 0, 1) := by decide +kernel
theorem dX5_isWord_9 : decode cX5_isWord 9 = .ok (.getfield 9, 3) := by decide +kernel
theorem dX5_isWord_12 : decode cX5_isWord 12 = .ok (.aload_n 0, 1) := by decide +kernel
theorem dX5_isWord_13 : decode cX5_isWord 13 = .ok (.getfield 15, 3) := by decide +kernel
theorem dX5_isWord_16 : decode cX5_isWord 16 = .ok (.isub, 1) := by decide +kernel
theorem dX5_isWord_17 : decode cX5_isWord 17 = .ok (.aload_n 1, 1) := by decide +kernel
theorem dX5_isWord_18 : decode cX5_isWord 18 = .ok (.invokevirtual 43, 3) := by decide +kernel
theorem dX5_isWord_21 : decode cX5_isWord 21 = .ok (.if_icmp .eq 5, 3) := by decide +kernel
theorem dX5_isWord_24 : decode cX5_isWord 24 = .ok (.iconst 0, 1) := by decide +kernel
theorem dX5_isWord_25 : decode cX5_isWord 25 = .ok (.ireturn, 1) := by decide +kernel
theorem dX5_isWord_26 : decode cX5_isWord 26 = .ok (.iconst 0, 1) := by decide +kernel
theorem dX5_isWord_27 : decode cX5_isWord 27 = .ok (.istore_n 2, 1) := by decide +kernel
theorem dX5_isWord_28 : decode cX5_isWord 28 = .ok (.iload_n 2, 1) := by decide +kernel
theorem dX5_isWord_29 : decode cX5_isWord 29 = .ok (.aload_n 1, 1) := by decide +kernel
theorem dX5_isWord_30 : decode cX5_isWord 30 = .ok (.invokevirtual 43, 3) := by decide +kernel
theorem dX5_isWord_33 : decode cX5_isWord 33 = .ok (.if_icmp .ge 33, 3) := by decide +kernel
theorem dX5_isWord_36 : decode cX5_isWord 36 = .ok (.aload_n 0, 1) := by decide +kernel
theorem dX5_isWord_37 : decode cX5_isWord 37 = .ok (.getfield 24, 3) := by decide +kernel
theorem dX5_isWord_40 : decode cX5_isWord 40 = .ok (.getfield 36, 3) := by decide +kernel
theorem dX5_isWord_43 : decode cX5_isWord 43 = .ok (.aload_n 0, 1) := by decide +kernel
theorem dX5_isWord_44 : decode cX5_isWord 44 = .ok (.getfield 15, 3) := by decide +kernel
theorem dX5_isWord_47 : decode cX5_isWord 47 = .ok (.iload_n 2, 1) := by decide +kernel
theorem dX5_isWord_48 : decode cX5_isWord 48 = .ok (.iadd, 1) := by decide +kernel
theorem dX5_isWord_49 : decode cX5_isWord 49 = .ok (.baload, 1) := by decide +kernel
theorem dX5_isWord_50 : decode cX5_isWord 50 = .ok (.aload_n 1, 1) := by decide +kernel
theorem dX5_isWord_51 : decode cX5_isWord 51 = .ok (.iload_n 2, 1) := by decide +kernel
theorem dX5_isWord_52 : decode cX5_isWord 52 = .ok (.invokevirtual 48, 3) := by decide +kernel
theorem dX5_isWord_55 : decode cX5_isWord 55 = .ok (.if_icmp .eq 5, 3) := by decide +kernel
theorem dX5_isWord_58 : decode cX5_isWord 58 = .ok (.iconst 0, 1) := by decide +kernel
theorem dX5_isWord_59 : decode cX5_isWord 59 = .ok (.ireturn, 1) := by decide +kernel
theorem dX5_isWord_60 : decode cX5_isWord 60 = .ok (.iinc 2 1, 3) := by decide +kernel
theorem dX5_isWord_63 : decode cX5_isWord 63 = .ok (.goto (-35), 3) := by decide +kernel
theorem dX5_isWord_66 : decode cX5_isWord 66 = .ok (.iconst 1, 1) := by decide +kernel
theorem dX5_isWord_67 : decode cX5_isWord 67 = .ok (.ireturn, 1) := by decide +kernel
set_option maxRecDepth 20000 in
theorem ggX6_init_X4_init : GoodIn wsX6_init wsX4_init := goodIn_r _ [26, 27, 2, 3, 28, 29, 30, 80, 81] (by decide +kernel) (by decide +kernel)
set_option maxRecDepth 20000 in
theorem gX6_init_X4_init_n11 : GoodIn wsX6_init (wsX4_init) := ggX6_init_X4_init
set_option maxRecDepth 20000 in
theorem ggX6_init_X2_init : GoodIn wsX6_init wsX2_init := goodIn_r _ [32, 33, 2, 3, 34, 35, 36, 37, 38, 39, 10, 40, 41, 42, 43, 88, 89, 90, 91, 92] (by decide +kernel) (by decide +kernel)
set_option maxRecDepth 20000 in
theorem gX6_init_X2_init_n18 : GoodIn wsX6_init (wsX2_init) := ggX6_init_X2_init
set_option maxRecDepth 20000 in
theorem ggX6_init_X3_init : GoodIn wsX6_init wsX3_init := goodIn_r _ [45, 46, 2, 3, 34, 47, 48, 49, 50, 51, 52, 53, 54, 55, 56, 57, 58, 59, 60, 61, 62, 63, 93, 94, 95, 96, 97, 98, 109, 110, 111, 112, 113] (by decide +kernel) (by decide +kernel)
set_option maxRecDepth 20000 in
theorem gX6_init_X3_init_n28 : GoodIn wsX6_init (wsX3_init) := ggX6_init_X3_init
set_option maxRecDepth 20000 in
theorem ggX6_init_X0_init : GoodIn wsX6_init wsX0_init := goodIn_r _ [65, 66, 2, 3, 34, 67, 68, 69, 99, 100, 101] (by decide +kernel) (by decide +kernel)
set_option maxRecDepth 20000 in
theorem gX6_init_X0_init_n37 : GoodIn wsX6_init (wsX0_init) := ggX6_init_X0_init
set_option maxRecDepth 20000 in
theorem ggX6_init_X1_init : GoodIn wsX6_init wsX1_init := goodIn_r _ [71, 72, 2, 3, 34, 73, 74, 75, 76, 77, 78, 79, 102, 103, 104, 105, 106, 107, 108] (by decide +kernel) (by decide +kernel)
set_option maxRecDepth 20000 in
theorem gX6_init_X1_init_n46 : GoodIn wsX6_init (wsX1_init) := ggX6_init_X1_init
theorem dX6_init_0 : decode cX6_init 0 = .ok (.aload_n 0, 1) := by decide +kernel
theorem dX6_init_1 : decode cX6_init 1 = .ok (.invokespecial 3, 3) := by decide +kernel
theorem dX6_init_4 : decode cX6_init 4 = .ok (.aload_n 0, 1) := by decide +kernel
theorem dX6_init_5 : decode cX6_init 5 = .ok (.new 9, 3) := by decide +kernel
theorem dX6_init_8 : decode cX6_init 8 = .ok (.dup, 1) := by decide +kernel
theorem dX6_init_9 : decode cX6_init 9 = .ok (.invokespecial 11, 3) := by decide +kernel
theorem dX6_init_12 : decode cX6_init 12 = .ok (.putfield 12, 3) := by decide +kernel
theorem dX6_init_15 : decode cX6_init 15 = .ok (.aload_n 0, 1) := by decide +kernel
theorem dX6_init_16 : decode cX6_init 16 = .ok (.new 16, 3) := by decide +kernel
theorem dX6_init_19 : decode cX6_init 19 = .ok (.dup, 1) := by decide +kernel
theorem dX6_init_20 : decode cX6_init 20 = .ok (.invokespecial 18, 3) := by decide +kernel
theorem dX6_init_23 : decode cX6_init 23 = .ok (.putfield 19, 3) := by decide +kernel
theorem dX6_init_26 : decode cX6_init 26 = .ok (.aload_n 0, 1) := by decide +kernel
theorem dX6_init_27 : decode cX6_init 27 = .ok (.new 16, 3) := by decide +kernel
theorem dX6_init_30 : decode cX6_init 30 = .ok (.dup, 1) := by decide +kernel
theorem dX6_init_31 : decode cX6_init 31 = .ok (.invokespecial 18, 3) := by decide +kernel
theorem dX6_init_34 : decode cX6_init 34 = .ok (.putfield 23, 3) := by decide +kernel
theorem dX6_init_37 : decode cX6_init 37 = .ok (.aload_n 0, 1) := by decide +kernel
theorem dX6_init_38 : decode cX6_init 38 = .ok (.new 26, 3) := by decide +kernel
theorem dX6_init_41 : decode cX6_init 41 = .ok (.dup, 1) := by decide +kernel
theorem dX6_init_42 : decode cX6_init 42 = .ok (.aload_n 0, 1) := by decide +kernel
theorem dX6_init_43 : decode cX6_init 43 = .ok (.getfield 12, 3) := by decide +kernel
theorem dX6_init_46 : decode cX6_init 46 = .ok (.aload_n 0, 1) := by decide +kernel
theorem dX6_init_47 : decode cX6_init 47 = .ok (.getfield 23, 3) := by decide +kernel
theorem dX6_init_50 : decode cX6_init 50 = .ok (.invokespecial 28, 3) := by decide +kernel
theorem dX6_init_53 : decode cX6_init 53 = .ok (.putfield 31, 3) := by decide +kernel
theorem dX6_init_56 : decode cX6_init 56 = .ok (.aload_n 0, 1) := by decide +kernel
theorem dX6_init_57 : decode cX6_init 57 = .ok (.new 35, 3) := by decide +kernel
theorem dX6_init_60 : decode cX6_init 60 = .ok (.dup, 1) := by decide +kernel
theorem dX6_init_61 : decode cX6_init 61 = .ok (.aload_n 0, 1) := by decide +kernel
theorem dX6_init_62 : decode cX6_init 62 = .ok (.getfield 19, 3) := by decide +kernel
theorem dX6_init_65 : decode cX6_init 65 = .ok (.invokespecial 37, 3) := by decide +kernel
theorem dX6_init_68 : decode cX6_init 68 = .ok (.putfield 40, 3) := by decide +kernel
theorem dX6_init_71 : decode cX6_init 71 = .ok (.aload_n 0, 1) := by decide +kernel
theorem dX6_init_72 : decode cX6_init 72 = .ok (.new 44, 3) := by decide +kernel
theorem dX6_init_75 : decode cX6_init 75 = .ok (.dup, 1) := by decide +kernel
theorem dX6_init_76 : decode cX6_init 76 = .ok (.aload_n 0, 1) := by decide +kernel
theorem dX6_init_77 : decode cX6_init 77 = .ok (.getfield 19, 3) := by decide +kernel
theorem dX6_init_80 : decode cX6_init 80 = .ok (.invokespecial 46, 3) := by decide +kernel
theorem dX6_init_83 : decode cX6_init 83 = .ok (.putfield 47, 3) := by decide +kernel
theorem dX6_init_86 : decode cX6_init 86 = .ok (.return_, 1) := by decide +kernel
set_option maxRecDepth 20000 in
theorem ggX6_feed_X4_addNumber : GoodIn wsX6_feed wsX4_addNumber := goodIn_r _ [5, 6, 7, 14, 15] (by decide +kernel) (by decide +kernel)
set_option maxRecDepth 20000 in
theorem gX6_feed_X4_addNumber_n55 : GoodIn wsX6_feed (wsX4_addNumber) := ggX6_feed_X4_addNumber
theorem dX6_feed_0 : decode cX6_feed 0 = .ok (.aload_n 0, 1) := by decide +kernel
theorem dX6_feed_1 : decode cX6_feed 1 = .ok (.getfield 12, 3) := by decide +kernel
theorem dX6_feed_4 : decode cX6_feed 4 = .ok (.getfield 51, 3) := by decide +kernel
theorem dX6_feed_7 : decode cX6_feed 7 = .ok (.bipush 20, 2) := by decide +kernel
theorem dX6_feed_9 : decode cX6_feed 9 = .ok (.iadd, 1) := by decide +kernel
theorem dX6_feed_10 : decode cX6_feed 10 = .ok (.sipush 640, 3) := by decide +kernel
theorem dX6_feed_13 : decode cX6_feed 13 = .ok (.if_icmp .le 5, 3) := by decide +kernel
theorem dX6_feed_16 : decode cX6_feed 16 = .ok (.iconst (-1), 1) := by decide +kernel
theorem dX6_feed_17 : decode cX6_feed 17 = .ok (.ireturn, 1) := by decide +kernel
theorem dX6_feed_18 : decode cX6_feed 18 = .ok (.aload_n 0, 1) := by decide +kernel
theorem dX6_feed_19 : decode cX6_feed 19 = .ok (.getfield 12, 3) := by decide +kernel
theorem dX6_feed_22 : decode cX6_feed 22 = .ok (.iload_n 1, 1) := by decide +kernel
theorem dX6_feed_23 : decode cX6_feed 23 = .ok (.invokevirtual 55, 3) := by decide +kernel
theorem dX6_feed_26 : decode cX6_feed 26 = .ok (.aload_n 0, 1) := by decide +kernel
theorem dX6_feed_27 : decode cX6_feed 27 = .ok (.getfield 12, 3) := by decide +kernel
theorem dX6_feed_30 : decode cX6_feed 30 = .ok (.iload_n 2, 1) := by decide +kernel
theorem dX6_feed_31 : decode cX6_feed 31 = .ok (.invokevirtual 55, 3) := by decide +kernel
theorem dX6_feed_34 : decode cX6_feed 34 = .ok (.aload_n 0, 1) := by decide +kernel
theorem dX6_feed_35 : decode cX6_feed 35 = .ok (.getfield 12, 3) := by decide +kernel
theorem dX6_feed_38 : decode cX6_feed 38 = .ok (.iload_n 3, 1) := by decide +kernel
theorem dX6_feed_39 : decode cX6_feed 39 = .ok (.invokevirtual 55, 3) := by decide +kernel
theorem dX6_feed_42 : decode cX6_feed 42 = .ok (.aload_n 0, 1) := by decide +kernel
theorem dX6_feed_43 : decode cX6_feed 43 = .ok (.getfield 12, 3) := by decide +kernel
theorem dX6_feed_46 : decode cX6_feed 46 = .ok (.iload 4, 2) := by decide +kernel
theorem dX6_feed_48 : decode cX6_feed 48 = .ok (.invokevirtual 55, 3) := by decide +kernel
theorem dX6_feed_51 : decode cX6_feed 51 = .ok (.aload_n 0, 1) := by decide +kernel
theorem dX6_feed_52 : decode cX6_feed 52 = .ok (.getfield 12, 3) := by decide +kernel
theorem dX6_feed_55 : decode cX6_feed 55 = .ok (.iload 5, 2) := by decide +kernel
theorem dX6_feed_57 : decode cX6_feed 57 = .ok (.invokevirtual 55, 3) := by decide +kernel
theorem dX6_feed_60 : decode cX6_feed 60 = .ok (.aload_n 0, 1) := by decide +kernel
theorem dX6_feed_61 : decode cX6_feed 61 = .ok (.getfield 12, 3) := by decide +kernel
theorem dX6_feed_64 : decode cX6_feed 64 = .ok (.getfield 51, 3) := by decide +kernel
theorem dX6_feed_67 : decode cX6_feed 67 = .ok (.ireturn, 1) := by decide +kernel
theorem dX6_end_0 : decode cX6_end 0 = .ok (.iload_n 1, 1) := by decide +kernel
theorem dX6_end_1 : decode cX6_end 1 = .ok (.ifCond .lt 14, 3) := by decide +kernel
theorem dX6_end_4 : decode cX6_end 4 = .ok (.iload_n 1, 1) := by decide +kernel
theorem dX6_end_5 : decode cX6_end 5 = .ok (.aload_n 0, 1) := by decide +kernel
theorem dX6_end_6 : decode cX6_end 6 = .ok (.getfield 12, 3) := by decide +kernel
theorem dX6_end_9 : decode cX6_end 9 = .ok (.getfield 51, 3) := by decide +kernel
theorem dX6_end_12 : decode cX6_end 12 = .ok (.if_icmp .le 5, 3) := by decide +kernel
theorem dX6_end_15 : decode cX6_end 15 = .ok (.iconst 0, 1) := by decide +kernel
theorem dX6_end_16 : decode cX6_end 16 = .ok (.ireturn, 1) := by decide +kernel
theorem dX6_end_17 : decode cX6_end 17 = .ok (.aload_n 0, 1) := by decide +kernel
theorem dX6_end_18 : decode cX6_end 18 = .ok (.getfield 12, 3) := by decide +kernel
theorem dX6_end_21 : decode cX6_end 21 = .ok (.iload_n 1, 1) := by decide +kernel
theorem dX6_end_22 : decode cX6_end 22 = .ok (.putfield 51, 3) := by decide +kernel
theorem dX6_end_25 : decode cX6_end 25 = .ok (.iconst 1, 1) := by decide +kernel
theorem dX6_end_26 : decode cX6_end 26 = .ok (.ireturn, 1) := by decide +kernel
set_option maxRecDepth 20000 in
theorem ggX6_text_X3_readText : GoodIn wsX6_text wsX3_readText := goodIn_r _ [9, 10, 11, 12, 13, 14, 15, 16, 17, 18, 19, 20, 21, 22, 23, 24, 25, 26, 27, 28, 29, 30, 31, 32, 33, 34, 35, 36, 37, 38, 39, 40, 41, 7, 42, 43, 44, 45, 46, 47, 48, 49, 50, 51, 52, 53, 54, 55, 56, 57, 58, 59, 60, 61, 62, 63, 64, 65, 66, 67, 68, 69, 70, 71, 72, 73, 74, 75, 76, 77, 78, 79, 80, 81, 82, 83, 84, 85, 86, 87, 88, 89, 90, 91, 92, 93, 94, 95, 96, 97, 98, 99, 100, 101, 102, 103, 104, 105, 106, 107, 108, 109, 110, 111, 112, 113, 114, 115, 116, 117, 118, 119, 120, 121, 122, 123, 124, 125, 126, 127, 128, 129, 130, 131, 132, 133, 134, 135, 136, 137, 138, 139, 140, 141, 142, 143, 144, 145, 146, 147, 148, 169, 170, 171, 172, 173, 174, 175, 176, 177, 178, 179, 167, 168, 180, 181, 182, 183, 184] (by decide +kernel) (by decide +kernel)
set_option maxRecDepth 20000 in
theorem gX6_text_X3_readText_n59 : GoodIn wsX6_text (wsX3_readText) := ggX6_text_X3_readText
set_option maxRecDepth 20000 in
theorem ggX6_text_X2_takeFrom : GoodIn wsX6_text wsX2_takeFrom := goodIn_r _ [151, 111, 152, 153, 154, 155, 141, 110, 108, 109, 180, 181, 182, 183, 184] (by decide +kernel) (by decide +kernel)
set_option maxRecDepth 20000 in
theorem gX6_text_X2_takeFrom_n66 : GoodIn wsX6_text (wsX2_takeFrom) := ggX6_text_X2_takeFrom
set_option maxRecDepth 20000 in
theorem ggX6_text_X1_forget : GoodIn wsX6_text wsX1_forget := goodIn_r _ [159, 160, 185, 186, 187, 188, 189, 190, 191] (by decide +kernel) (by decide +kernel)
set_option maxRecDepth 20000 in
theorem gX6_text_X1_forget_n69 : GoodIn wsX6_text (wsX1_forget) := ggX6_text_X1_forget
theorem dX6_text_0 : decode cX6_text 0 = .ok (.aload_n 0, 1) := by decide +kernel
theorem dX6_text_1 : decode cX6_text 1 = .ok (.getfield 31, 3) := by decide +kernel
theorem dX6_text_4 : decode cX6_text 4 = .ok (.invokevirtual 59, 3) := by decide +kernel
theorem dX6_text_7 : decode cX6_text 7 = .ok (.istore_n 1, 1) := by decide +kernel
theorem dX6_text_8 : decode cX6_text 8 = .ok (.aload_n 0, 1) := by decide +kernel
theorem dX6_text_9 : decode cX6_text 9 = .ok (.getfield 12, 3) := by decide +kernel
theorem dX6_text_12 : decode cX6_text 12 = .ok (.iconst 0, 1) := by decide +kernel
theorem dX6_text_13 : decode cX6_text 13 = .ok (.putfield 51, 3) := by decide +kernel
theorem dX6_text_16 : decode cX6_text 16 = .ok (.iload_n 1, 1) := by decide +kernel
theorem dX6_text_17 : decode cX6_text 17 = .ok (.ifCond .ne 13, 3) := by decide +kernel
theorem dX6_text_20 : decode cX6_text 20 = .ok (.iconst (-1), 1) := by decide +kernel
theorem dX6_text_21 : decode cX6_text 21 = .ok (.aload_n 0, 1) := by decide +kernel
theorem dX6_text_22 : decode cX6_text 22 = .ok (.getfield 31, 3) := by decide +kernel
theorem dX6_text_25 : decode cX6_text 25 = .ok (.getfield 63, 3) := by decide +kernel
theorem dX6_text_28 : decode cX6_text 28 = .ok (.isub, 1) := by decide +kernel
theorem dX6_text_29 : decode cX6_text 29 = .ok (.ireturn, 1) := by decide +kernel
theorem dX6_text_30 : decode cX6_text 30 = .ok (.aload_n 0, 1) := by decide +kernel
theorem dX6_text_31 : decode cX6_text 31 = .ok (.getfield 19, 3) := by decide +kernel
theorem dX6_text_34 : decode cX6_text 34 = .ok (.aload_n 0, 1) := by decide +kernel
theorem dX6_text_35 : decode cX6_text 35 = .ok (.getfield 23, 3) := by decide +kernel
theorem dX6_text_38 : decode cX6_text 38 = .ok (.invokevirtual 66, 3) := by decide +kernel
theorem dX6_text_41 : decode cX6_text 41 = .ok (.aload_n 0, 1) := by decide +kernel
theorem dX6_text_42 : decode cX6_text 42 = .ok (.getfield 47, 3) := by decide +kernel
theorem dX6_text_45 : decode cX6_text 45 = .ok (.invokevirtual 69, 3) := by decide +kernel
theorem dX6_text_48 : decode cX6_text 48 = .ok (.aload_n 0, 1) := by decide +kernel
theorem dX6_text_49 : decode cX6_text 49 = .ok (.getfield 31, 3) := by decide +kernel
theorem dX6_text_52 : decode cX6_text 52 = .ok (.getfield 72, 3) := by decide +kernel
theorem dX6_text_55 : decode cX6_text 55 = .ok (.ireturn, 1) := by decide +kernel
theorem dX6_fault_0 : decode cX6_fault 0 = .ok (.aload_n 0, 1) := by decide +kernel
theorem dX6_fault_1 : decode cX6_fault 1 = .ok (.getfield 31, 3) := by decide +kernel
theorem dX6_fault_4 : decode cX6_fault 4 = .ok (.getfield 75, 3) := by decide +kernel
theorem dX6_fault_7 : decode cX6_fault 7 = .ok (.ireturn, 1) := by decide +kernel
set_option maxRecDepth 20000 in
theorem ggX6_now_X2_leavesBelow : GoodIn wsX6_now wsX2_leavesBelow := goodIn_r _ [7, 8, 9, 10, 11, 5, 12, 13, 14, 15, 16, 17, 18, 19, 20, 21, 22, 36, 37, 38, 39, 40] (by decide +kernel) (by decide +kernel)
set_option maxRecDepth 20000 in
theorem gX6_now_X2_leavesBelow_n84 : GoodIn wsX6_now (wsX2_leavesBelow) := ggX6_now_X2_leavesBelow
set_option maxRecDepth 20000 in
theorem ggX6_now_J6_bitCount_0f7a4 : GoodIn wsX6_now wsJ6_bitCount_0f7a4 := goodIn_r _ [26, 27, 28, 29] (by decide +kernel) (by decide +kernel)
set_option maxRecDepth 20000 in
theorem gX6_now_J6_bitCount_0f7a4 : GoodIn wsX6_now (va_wsS RX6 88 yJ6_bitCount_0f7a4 wsJ6_bitCount_0f7a4) := goodIn_app (goodIn_of _ (by decide +kernel)) ggX6_now_J6_bitCount_0f7a4
theorem dX6_now_0 : decode cX6_now 0 = .ok (.iload_n 1, 1) := by decide +kernel
theorem dX6_now_1 : decode cX6_now 1 = .ok (.tableswitch 79 0 4 #[35, 43, 51, 63, 71], 35) := by decide +kernel
theorem dX6_now_36 : decode cX6_now 36 = .ok (.aload_n 0, 1) := by decide +kernel
theorem dX6_now_37 : decode cX6_now 37 = .ok (.getfield 19, 3) := by decide +kernel
theorem dX6_now_40 : decode cX6_now 40 = .ok (.getfield 78, 3) := by decide +kernel
theorem dX6_now_43 : decode cX6_now 43 = .ok (.ireturn, 1) := by decide +kernel
theorem dX6_now_44 : decode cX6_now 44 = .ok (.aload_n 0, 1) := by decide +kernel
theorem dX6_now_45 : decode cX6_now 45 = .ok (.getfield 19, 3) := by decide +kernel
theorem dX6_now_48 : decode cX6_now 48 = .ok (.getfield 81, 3) := by decide +kernel
theorem dX6_now_51 : decode cX6_now 51 = .ok (.ireturn, 1) := by decide +kernel
theorem dX6_now_52 : decode cX6_now 52 = .ok (.aload_n 0, 1) := by decide +kernel
theorem dX6_now_53 : decode cX6_now 53 = .ok (.getfield 19, 3) := by decide +kernel
theorem dX6_now_56 : decode cX6_now 56 = .ok (.iconst 0, 1) := by decide +kernel
theorem dX6_now_57 : decode cX6_now 57 = .ok (.invokevirtual 84, 3) := by decide +kernel
theorem dX6_now_60 : decode cX6_now 60 = .ok (.invokestatic 88, 3) := by decide +kernel
theorem dX6_now_63 : decode cX6_now 63 = .ok (.ireturn, 1) := by decide +kernel
theorem dX6_now_64 : decode cX6_now 64 = .ok (.aload_n 0, 1) := by decide +kernel
theorem dX6_now_65 : decode cX6_now 65 = .ok (.getfield 47, 3) := by decide +kernel
theorem dX6_now_68 : decode cX6_now 68 = .ok (.getfield 93, 3) := by decide +kernel
theorem dX6_now_71 : decode cX6_now 71 = .ok (.ireturn, 1) := by decide +kernel
theorem dX6_now_72 : decode cX6_now 72 = .ok (.aload_n 0, 1) := by decide +kernel
theorem dX6_now_73 : decode cX6_now 73 = .ok (.getfield 12, 3) := by decide +kernel
theorem dX6_now_76 : decode cX6_now 76 = .ok (.getfield 51, 3) := by decide +kernel
theorem dX6_now_79 : decode cX6_now 79 = .ok (.ireturn, 1) := by decide +kernel
theorem dX6_now_80 : decode cX6_now 80 = .ok (.iconst (-1), 1) := by decide +kernel
theorem dX6_now_81 : decode cX6_now 81 = .ok (.ireturn, 1) := by decide +kernel
set_option maxRecDepth 20000 in
theorem ggX6_node_X2_isNode : GoodIn wsX6_node wsX2_isNode := goodIn_r _ [7, 8, 35, 36, 37, 38, 39] (by decide +kernel) (by decide +kernel)
set_option maxRecDepth 20000 in
theorem gX6_node_X2_isNode_n96 : GoodIn wsX6_node (wsX2_isNode) := ggX6_node_X2_isNode
set_option maxRecDepth 20000 in
theorem ggX6_node_X2_isGroup : GoodIn wsX6_node wsX2_isGroup := goodIn_r _ [11, 12, 13, 4, 6, 5, 7, 8, 35, 36, 37, 38, 39] (by decide +kernel) (by decide +kernel)
set_option maxRecDepth 20000 in
theorem gX6_node_X2_isGroup_n111 : GoodIn wsX6_node (wsX2_isGroup) := ggX6_node_X2_isGroup
set_option maxRecDepth 20000 in
theorem ggX6_node_X2_nodesRightBelow : GoodIn wsX6_node wsX2_nodesRightBelow := goodIn_r _ [16, 8, 17, 35, 36, 37, 38, 39] (by decide +kernel) (by decide +kernel)
set_option maxRecDepth 20000 in
theorem gX6_node_X2_nodesRightBelow_n114 : GoodIn wsX6_node (wsX2_nodesRightBelow) := ggX6_node_X2_nodesRightBelow
set_option maxRecDepth 20000 in
theorem ggX6_node_X2_leavesBelow : GoodIn wsX6_node wsX2_leavesBelow := goodIn_r _ [20, 8, 21, 22, 23, 5, 24, 12, 13, 4, 6, 7, 25, 26, 27, 28, 17, 35, 36, 37, 38, 39] (by decide +kernel) (by decide +kernel)
set_option maxRecDepth 20000 in
theorem gX6_node_X2_leavesBelow_n84 : GoodIn wsX6_node (wsX2_leavesBelow) := ggX6_node_X2_leavesBelow
theorem dX6_node_0 : decode cX6_node 0 = .ok (.aload_n 0, 1) := by decide +kernel
theorem dX6_node_1 : decode cX6_node 1 = .ok (.getfield 19, 3) := by decide +kernel
theorem dX6_node_4 : decode cX6_node 4 = .ok (.iload_n 1, 1) := by decide +kernel
theorem dX6_node_5 : decode cX6_node 5 = .ok (.invokevirtual 96, 3) := by decide +kernel
theorem dX6_node_8 : decode cX6_node 8 = .ok (.ifCond .eq 12, 3) := by decide +kernel
theorem dX6_node_11 : decode cX6_node 11 = .ok (.iload_n 2, 1) := by decide +kernel
theorem dX6_node_12 : decode cX6_node 12 = .ok (.ifCond .lt 8, 3) := by decide +kernel
theorem dX6_node_15 : decode cX6_node 15 = .ok (.iload_n 2, 1) := by decide +kernel
theorem dX6_node_16 : decode cX6_node 16 = .ok (.iconst 3, 1) := by decide +kernel
theorem dX6_node_17 : decode cX6_node 17 = .ok (.if_icmp .le 13, 3) := by decide +kernel
theorem dX6_node_20 : decode cX6_node 20 = .ok (.new 100, 3) := by decide +kernel
theorem dX6_node_23 : decode cX6_node 23 = .ok (.dup, 1) := by decide +kernel
theorem dX6_node_24 : decode cX6_node 24 = .ok (.ldc 102, 2) := by decide +kernel
theorem dX6_node_26 : decode cX6_node 26 = .ok (.invokespecial 104, 3) := by decide +kernel
theorem dX6_node_29 : decode cX6_node 29 = .ok (.athrow, 1) := by decide +kernel
theorem dX6_node_30 : decode cX6_node 30 = .ok (.iload_n 2, 1) := by decide +kernel
theorem dX6_node_31 : decode cX6_node 31 = .ok (.tableswitch 61 0 2 #[25, 35, 52], 25) := by decide +kernel
theorem dX6_node_56 : decode cX6_node 56 = .ok (.aload_n 0, 1) := by decide +kernel
theorem dX6_node_57 : decode cX6_node 57 = .ok (.getfield 19, 3) := by decide +kernel
theorem dX6_node_60 : decode cX6_node 60 = .ok (.getfield 107, 3) := by decide +kernel
theorem dX6_node_63 : decode cX6_node 63 = .ok (.iload_n 1, 1) := by decide +kernel
theorem dX6_node_64 : decode cX6_node 64 = .ok (.iaload, 1) := by decide +kernel
theorem dX6_node_65 : decode cX6_node 65 = .ok (.ireturn, 1) := by decide +kernel
theorem dX6_node_66 : decode cX6_node 66 = .ok (.aload_n 0, 1) := by decide +kernel
theorem dX6_node_67 : decode cX6_node 67 = .ok (.getfield 19, 3) := by decide +kernel
theorem dX6_node_70 : decode cX6_node 70 = .ok (.iload_n 1, 1) := by decide +kernel
theorem dX6_node_71 : decode cX6_node 71 = .ok (.invokevirtual 111, 3) := by decide +kernel
theorem dX6_node_74 : decode cX6_node 74 = .ok (.ifCond .eq 7, 3) := by decide +kernel
theorem dX6_node_77 : decode cX6_node 77 = .ok (.iconst 1, 1) := by decide +kernel
theorem dX6_node_78 : decode cX6_node 78 = .ok (.goto 4, 3) := by decide +kernel
theorem dX6_node_81 : decode cX6_node 81 = .ok (.iconst 0, 1) := by decide +kernel
theorem dX6_node_82 : decode cX6_node 82 = .ok (.ireturn, 1) := by decide +kernel
theorem dX6_node_83 : decode cX6_node 83 = .ok (.aload_n 0, 1) := by decide +kernel
theorem dX6_node_84 : decode cX6_node 84 = .ok (.getfield 19, 3) := by decide +kernel
theorem dX6_node_87 : decode cX6_node 87 = .ok (.iload_n 1, 1) := by decide +kernel
theorem dX6_node_88 : decode cX6_node 88 = .ok (.invokevirtual 114, 3) := by decide +kernel
theorem dX6_node_91 : decode cX6_node 91 = .ok (.ireturn, 1) := by decide +kernel
theorem dX6_node_92 : decode cX6_node 92 = .ok (.aload_n 0, 1) := by decide +kernel
theorem dX6_node_93 : decode cX6_node 93 = .ok (.getfield 19, 3) := by decide +kernel
theorem dX6_node_96 : decode cX6_node 96 = .ok (.iload_n 1, 1) := by decide +kernel
theorem dX6_node_97 : decode cX6_node 97 = .ok (.invokevirtual 84, 3) := by decide +kernel
theorem dX6_node_100 : decode cX6_node 100 = .ok (.ireturn, 1) := by decide +kernel
set_option maxRecDepth 20000 in
theorem ggX6_factor_X2_isLeaf : GoodIn wsX6_factor wsX2_isLeaf := goodIn_r _ [5, 6, 7, 8, 9, 3, 10, 11, 30, 31, 32, 33, 34] (by decide +kernel) (by decide +kernel)
set_option maxRecDepth 20000 in
theorem gX6_factor_X2_isLeaf_n117 : GoodIn wsX6_factor (wsX2_isLeaf) := ggX6_factor_X2_isLeaf
set_option maxRecDepth 20000 in
theorem ggX6_factor_X2_isScene : GoodIn wsX6_factor wsX2_isScene := goodIn_r _ [14, 15, 30, 31, 32, 33, 34] (by decide +kernel) (by decide +kernel)
set_option maxRecDepth 20000 in
theorem gX6_factor_X2_isScene_n120 : GoodIn wsX6_factor (wsX2_isScene) := ggX6_factor_X2_isScene
set_option maxRecDepth 20000 in
theorem ggX6_factor_X6_isFactor : GoodIn wsX6_factor wsX6_isFactor := goodIn_r _ [19] (by decide +kernel) (by decide +kernel)
set_option maxRecDepth 20000 in
theorem gX6_factor_X6_isFactor : GoodIn wsX6_factor (va_wsS RX6 123 yX6_isFactor wsX6_isFactor) := goodIn_app (goodIn_of _ (by decide +kernel)) ggX6_factor_X6_isFactor
set_option maxRecDepth 20000 in
theorem ggX6_factor_X2_factorOf : GoodIn wsX6_factor wsX2_factorOf := goodIn_r _ [22, 23, 30, 31, 32, 33, 34] (by decide +kernel) (by decide +kernel)
set_option maxRecDepth 20000 in
theorem gX6_factor_X2_factorOf_n126 : GoodIn wsX6_factor (wsX2_factorOf) := ggX6_factor_X2_factorOf
theorem dX6_factor_0 : decode cX6_factor 0 = .ok (.aload_n 0, 1) := by decide +kernel
theorem dX6_factor_1 : decode cX6_factor 1 = .ok (.getfield 19, 3) := by decide +kernel
theorem dX6_factor_4 : decode cX6_factor 4 = .ok (.iload_n 1, 1) := by decide +kernel
theorem dX6_factor_5 : decode cX6_factor 5 = .ok (.invokevirtual 117, 3) := by decide +kernel
theorem dX6_factor_8 : decode cX6_factor 8 = .ok (.ifCond .eq 21, 3) := by decide +kernel
theorem dX6_factor_11 : decode cX6_factor 11 = .ok (.aload_n 0, 1) := by decide +kernel
theorem dX6_factor_12 : decode cX6_factor 12 = .ok (.getfield 19, 3) := by decide +kernel
theorem dX6_factor_15 : decode cX6_factor 15 = .ok (.iload_n 2, 1) := by decide +kernel
theorem dX6_factor_16 : decode cX6_factor 16 = .ok (.invokevirtual 120, 3) := by decide +kernel
theorem dX6_factor_19 : decode cX6_factor 19 = .ok (.ifCond .eq 10, 3) := by decide +kernel
theorem dX6_factor_22 : decode cX6_factor 22 = .ok (.iload_n 3, 1) := by decide +kernel
theorem dX6_factor_23 : decode cX6_factor 23 = .ok (.invokestatic 123, 3) := by decide +kernel
theorem dX6_factor_26 : decode cX6_factor 26 = .ok (.ifCond .ne 5, 3) := by decide +kernel
theorem dX6_factor_29 : decode cX6_factor 29 = .ok (.iconst (-1), 1) := by decide +kernel
theorem dX6_factor_30 : decode cX6_factor 30 = .ok (.ireturn, 1) := by decide +kernel
theorem dX6_factor_31 : decode cX6_factor 31 = .ok (.aload_n 0, 1) := by decide +kernel
theorem dX6_factor_32 : decode cX6_factor 32 = .ok (.getfield 19, 3) := by decide +kernel
theorem dX6_factor_35 : decode cX6_factor 35 = .ok (.iload_n 1, 1) := by decide +kernel
theorem dX6_factor_36 : decode cX6_factor 36 = .ok (.iload_n 2, 1) := by decide +kernel
theorem dX6_factor_37 : decode cX6_factor 37 = .ok (.iload_n 3, 1) := by decide +kernel
theorem dX6_factor_38 : decode cX6_factor 38 = .ok (.invokevirtual 126, 3) := by decide +kernel
theorem dX6_factor_41 : decode cX6_factor 41 = .ok (.ireturn, 1) := by decide +kernel
set_option maxRecDepth 20000 in
theorem ggX6_value_X2_isNode : GoodIn wsX6_value wsX2_isNode := goodIn_r _ [6, 7, 52, 53, 54, 55, 56] (by decide +kernel) (by decide +kernel)
set_option maxRecDepth 20000 in
theorem gX6_value_X2_isNode_n96 : GoodIn wsX6_value (wsX2_isNode) := ggX6_value_X2_isNode
set_option maxRecDepth 20000 in
theorem ggX6_value_X2_isScene : GoodIn wsX6_value wsX2_isScene := goodIn_r _ [10, 11, 52, 53, 54, 55, 56] (by decide +kernel) (by decide +kernel)
set_option maxRecDepth 20000 in
theorem gX6_value_X2_isScene_n120 : GoodIn wsX6_value (wsX2_isScene) := ggX6_value_X2_isScene
set_option maxRecDepth 20000 in
theorem ggX6_value_X2_nodeValue : GoodIn wsX6_value wsX2_nodeValue := goodIn_r _ [14, 7, 15, 16, 17, 4, 18, 19, 20, 21, 22, 23, 24, 3, 5, 6, 25, 26, 27, 28, 29, 30, 31, 32, 33, 34, 35, 36, 37, 38, 39, 40, 41, 42, 43, 44, 45, 52, 53, 54, 55, 56] (by decide +kernel) (by decide +kernel)
set_option maxRecDepth 20000 in
theorem gX6_value_X2_nodeValue_n131 : GoodIn wsX6_value (wsX2_nodeValue) := ggX6_value_X2_nodeValue
theorem dX6_value_0 : decode cX6_value 0 = .ok (.aload_n 0, 1) := by decide +kernel
theorem dX6_value_1 : decode cX6_value 1 = .ok (.getfield 19, 3) := by decide +kernel
theorem dX6_value_4 : decode cX6_value 4 = .ok (.iload_n 1, 1) := by decide +kernel
theorem dX6_value_5 : decode cX6_value 5 = .ok (.invokevirtual 96, 3) := by decide +kernel
theorem dX6_value_8 : decode cX6_value 8 = .ok (.ifCond .eq 14, 3) := by decide +kernel
theorem dX6_value_11 : decode cX6_value 11 = .ok (.aload_n 0, 1) := by decide +kernel
theorem dX6_value_12 : decode cX6_value 12 = .ok (.getfield 19, 3) := by decide +kernel
theorem dX6_value_15 : decode cX6_value 15 = .ok (.iload_n 2, 1) := by decide +kernel
theorem dX6_value_16 : decode cX6_value 16 = .ok (.invokevirtual 120, 3) := by decide +kernel
theorem dX6_value_19 : decode cX6_value 19 = .ok (.ifCond .ne 6, 3) := by decide +kernel
theorem dX6_value_22 : decode cX6_value 22 = .ok (.ldc 130, 2) := by decide +kernel
theorem dX6_value_24 : decode cX6_value 24 = .ok (.ireturn, 1) := by decide +kernel
theorem dX6_value_25 : decode cX6_value 25 = .ok (.aload_n 0, 1) := by decide +kernel
theorem dX6_value_26 : decode cX6_value 26 = .ok (.getfield 19, 3) := by decide +kernel
theorem dX6_value_29 : decode cX6_value 29 = .ok (.iload_n 1, 1) := by decide +kernel
theorem dX6_value_30 : decode cX6_value 30 = .ok (.iload_n 2, 1) := by decide +kernel
theorem dX6_value_31 : decode cX6_value 31 = .ok (.invokevirtual 131, 3) := by decide +kernel
theorem dX6_value_34 : decode cX6_value 34 = .ok (.ireturn, 1) := by decide +kernel
set_option maxRecDepth 20000 in
theorem ggX6_how_X2_isLeaf : GoodIn wsX6_how wsX2_isLeaf := goodIn_r _ [6, 7, 8, 9, 10, 4, 11, 12, 32, 33, 34, 35, 36] (by decide +kernel) (by decide +kernel)
set_option maxRecDepth 20000 in
theorem gX6_how_X2_isLeaf_n117 : GoodIn wsX6_how (wsX2_isLeaf) := ggX6_how_X2_isLeaf
set_option maxRecDepth 20000 in
theorem ggX6_how_X2_isScene : GoodIn wsX6_how wsX2_isScene := goodIn_r _ [15, 16, 32, 33, 34, 35, 36] (by decide +kernel) (by decide +kernel)
set_option maxRecDepth 20000 in
theorem gX6_how_X2_isScene_n120 : GoodIn wsX6_how (wsX2_isScene) := ggX6_how_X2_isScene
set_option maxRecDepth 20000 in
theorem ggX6_how_X0_fateOf : GoodIn wsX6_how wsX0_fateOf := goodIn_r _ [20, 21, 22, 4, 23, 24, 25, 37, 38, 39, 32, 33, 34, 35, 36] (by decide +kernel) (by decide +kernel)
set_option maxRecDepth 20000 in
theorem gX6_how_X0_fateOf_n135 : GoodIn wsX6_how (wsX0_fateOf) := ggX6_how_X0_fateOf
theorem dX6_how_0 : decode cX6_how 0 = .ok (.aload_n 0, 1) := by decide +kernel
theorem dX6_how_1 : decode cX6_how 1 = .ok (.getfield 19, 3) := by decide +kernel
theorem dX6_how_4 : decode cX6_how 4 = .ok (.iload_n 1, 1) := by decide +kernel
theorem dX6_how_5 : decode cX6_how 5 = .ok (.invokevirtual 117, 3) := by decide +kernel
theorem dX6_how_8 : decode cX6_how 8 = .ok (.ifCond .eq 25, 3) := by decide +kernel
theorem dX6_how_11 : decode cX6_how 11 = .ok (.aload_n 0, 1) := by decide +kernel
theorem dX6_how_12 : decode cX6_how 12 = .ok (.getfield 19, 3) := by decide +kernel
theorem dX6_how_15 : decode cX6_how 15 = .ok (.iload_n 2, 1) := by decide +kernel
theorem dX6_how_16 : decode cX6_how 16 = .ok (.invokevirtual 120, 3) := by decide +kernel
theorem dX6_how_19 : decode cX6_how 19 = .ok (.ifCond .eq 14, 3) := by decide +kernel
theorem dX6_how_22 : decode cX6_how 22 = .ok (.aload_n 0, 1) := by decide +kernel
theorem dX6_how_23 : decode cX6_how 23 = .ok (.getfield 19, 3) := by decide +kernel
theorem dX6_how_26 : decode cX6_how 26 = .ok (.iload_n 3, 1) := by decide +kernel
theorem dX6_how_27 : decode cX6_how 27 = .ok (.invokevirtual 120, 3) := by decide +kernel
theorem dX6_how_30 : decode cX6_how 30 = .ok (.ifCond .ne 5, 3) := by decide +kernel
theorem dX6_how_33 : decode cX6_how 33 = .ok (.iconst (-1), 1) := by decide +kernel
theorem dX6_how_34 : decode cX6_how 34 = .ok (.ireturn, 1) := by decide +kernel
theorem dX6_how_35 : decode cX6_how 35 = .ok (.aload_n 0, 1) := by decide +kernel
theorem dX6_how_36 : decode cX6_how 36 = .ok (.getfield 40, 3) := by decide +kernel
theorem dX6_how_39 : decode cX6_how 39 = .ok (.iload_n 1, 1) := by decide +kernel
theorem dX6_how_40 : decode cX6_how 40 = .ok (.iload_n 2, 1) := by decide +kernel
theorem dX6_how_41 : decode cX6_how 41 = .ok (.iload_n 3, 1) := by decide +kernel
theorem dX6_how_42 : decode cX6_how 42 = .ok (.invokevirtual 135, 3) := by decide +kernel
theorem dX6_how_45 : decode cX6_how 45 = .ok (.ireturn, 1) := by decide +kernel
set_option maxRecDepth 20000 in
theorem ggX6_order_X6_isOrder : GoodIn wsX6_order wsX6_isOrder := goodIn_r _ [4] (by decide +kernel) (by decide +kernel)
set_option maxRecDepth 20000 in
theorem gX6_order_X6_isOrder : GoodIn wsX6_order (va_wsS RX6 138 yX6_isOrder wsX6_isOrder) := goodIn_app (goodIn_of _ (by decide +kernel)) ggX6_order_X6_isOrder
set_option maxRecDepth 20000 in
theorem ggX6_order_X6_digitsOfOrder : GoodIn wsX6_order wsX6_digitsOfOrder := goodIn_r _ [7, 8, 9, 3, 10, 11] (by decide +kernel) (by decide +kernel)
set_option maxRecDepth 20000 in
theorem gX6_order_X6_digitsOfOrder : GoodIn wsX6_order (va_wsS RX6 141 yX6_digitsOfOrder wsX6_digitsOfOrder) := goodIn_app (goodIn_of _ (by decide +kernel)) ggX6_order_X6_digitsOfOrder
theorem dX6_order_0 : decode cX6_order 0 = .ok (.iload_n 1, 1) := by decide +kernel
theorem dX6_order_1 : decode cX6_order 1 = .ok (.invokestatic 138, 3) := by decide +kernel
theorem dX6_order_4 : decode cX6_order 4 = .ok (.ifCond .ne 5, 3) := by decide +kernel
theorem dX6_order_7 : decode cX6_order 7 = .ok (.iconst (-1), 1) := by decide +kernel
theorem dX6_order_8 : decode cX6_order 8 = .ok (.ireturn, 1) := by decide +kernel
theorem dX6_order_9 : decode cX6_order 9 = .ok (.iload_n 1, 1) := by decide +kernel
theorem dX6_order_10 : decode cX6_order 10 = .ok (.invokestatic 141, 3) := by decide +kernel
theorem dX6_order_13 : decode cX6_order 13 = .ok (.ireturn, 1) := by decide +kernel
set_option maxRecDepth 20000 in
theorem ggX6_effect_X2_isNode : GoodIn wsX6_effect wsX2_isNode := goodIn_r _ [7, 8, 98, 99, 100, 101, 102] (by decide +kernel) (by decide +kernel)
set_option maxRecDepth 20000 in
theorem gX6_effect_X2_isNode_n96 : GoodIn wsX6_effect (wsX2_isNode) := ggX6_effect_X2_isNode
set_option maxRecDepth 20000 in
theorem ggX6_effect_X2_isScene : GoodIn wsX6_effect wsX2_isScene := goodIn_r _ [11, 12, 98, 99, 100, 101, 102] (by decide +kernel) (by decide +kernel)
set_option maxRecDepth 20000 in
theorem gX6_effect_X2_isScene_n120 : GoodIn wsX6_effect (wsX2_isScene) := ggX6_effect_X2_isScene
set_option maxRecDepth 20000 in
theorem ggX6_effect_X6_isOrder : GoodIn wsX6_effect wsX6_isOrder := goodIn_r _ [16] (by decide +kernel) (by decide +kernel)
set_option maxRecDepth 20000 in
theorem gX6_effect_X6_isOrder : GoodIn wsX6_effect (va_wsS RX6 138 yX6_isOrder wsX6_isOrder) := goodIn_app (goodIn_of _ (by decide +kernel)) ggX6_effect_X6_isOrder
set_option maxRecDepth 20000 in
theorem ggX6_effect_X0_nodeEffect : GoodIn wsX6_effect wsX0_nodeEffect := goodIn_r _ [20, 21, 22, 5, 23, 24, 8, 25, 26, 27, 28, 29, 30, 4, 6, 7, 31, 32, 33, 34, 35, 36, 37, 38, 18, 39, 40, 41, 42, 43, 44, 45, 46, 47, 48, 49, 50, 51, 52, 53, 54, 55, 56, 57, 15, 58, 59, 60, 61, 62, 63, 64, 65, 66, 67, 68, 69, 70, 71, 72, 73, 74, 75, 76, 77, 78, 79, 80, 81, 82, 83, 84, 85, 86, 87, 88, 89, 90, 91, 103, 104, 105, 98, 99, 100, 101, 102] (by decide +kernel) (by decide +kernel)
set_option maxRecDepth 20000 in
theorem gX6_effect_X0_nodeEffect_n144 : GoodIn wsX6_effect (wsX0_nodeEffect) := ggX6_effect_X0_nodeEffect
theorem dX6_effect_0 : decode cX6_effect 0 = .ok (.aload_n 0, 1) := by decide +kernel
theorem dX6_effect_1 : decode cX6_effect 1 = .ok (.getfield 19, 3) := by decide +kernel
theorem dX6_effect_4 : decode cX6_effect 4 = .ok (.iload_n 1, 1) := by decide +kernel
theorem dX6_effect_5 : decode cX6_effect 5 = .ok (.invokevirtual 96, 3) := by decide +kernel
theorem dX6_effect_8 : decode cX6_effect 8 = .ok (.ifCond .eq 25, 3) := by decide +kernel
theorem dX6_effect_11 : decode cX6_effect 11 = .ok (.aload_n 0, 1) := by decide +kernel
theorem dX6_effect_12 : decode cX6_effect 12 = .ok (.getfield 19, 3) := by decide +kernel
theorem dX6_effect_15 : decode cX6_effect 15 = .ok (.iload_n 2, 1) := by decide +kernel
theorem dX6_effect_16 : decode cX6_effect 16 = .ok (.invokevirtual 120, 3) := by decide +kernel
theorem dX6_effect_19 : decode cX6_effect 19 = .ok (.ifCond .eq 14, 3) := by decide +kernel
theorem dX6_effect_22 : decode cX6_effect 22 = .ok (.aload_n 0, 1) := by decide +kernel
theorem dX6_effect_23 : decode cX6_effect 23 = .ok (.getfield 19, 3) := by decide +kernel
theorem dX6_effect_26 : decode cX6_effect 26 = .ok (.iload_n 3, 1) := by decide +kernel
theorem dX6_effect_27 : decode cX6_effect 27 = .ok (.invokevirtual 120, 3) := by decide +kernel
theorem dX6_effect_30 : decode cX6_effect 30 = .ok (.ifCond .ne 6, 3) := by decide +kernel
theorem dX6_effect_33 : decode cX6_effect 33 = .ok (.ldc 130, 2) := by decide +kernel
theorem dX6_effect_35 : decode cX6_effect 35 = .ok (.ireturn, 1) := by decide +kernel
theorem dX6_effect_36 : decode cX6_effect 36 = .ok (.iload 4, 2) := by decide +kernel
theorem dX6_effect_38 : decode cX6_effect 38 = .ok (.iconst (-1), 1) := by decide +kernel
theorem dX6_effect_39 : decode cX6_effect 39 = .ok (.if_icmp .eq 11, 3) := by decide +kernel
theorem dX6_effect_42 : decode cX6_effect 42 = .ok (.iload 4, 2) := by decide +kernel
theorem dX6_effect_44 : decode cX6_effect 44 = .ok (.invokestatic 138, 3) := by decide +kernel
theorem dX6_effect_47 : decode cX6_effect 47 = .ok (.ifCond .eq 15, 3) := by decide +kernel
theorem dX6_effect_50 : decode cX6_effect 50 = .ok (.iload 5, 2) := by decide +kernel
theorem dX6_effect_52 : decode cX6_effect 52 = .ok (.ifCond .lt 10, 3) := by decide +kernel
theorem dX6_effect_55 : decode cX6_effect 55 = .ok (.iload 5, 2) := by decide +kernel
theorem dX6_effect_57 : decode cX6_effect 57 = .ok (.bipush 7, 2) := by decide +kernel
theorem dX6_effect_59 : decode cX6_effect 59 = .ok (.if_icmp .le 6, 3) := by decide +kernel
theorem dX6_effect_62 : decode cX6_effect 62 = .ok (.ldc 130, 2) := by decide +kernel
theorem dX6_effect_64 : decode cX6_effect 64 = .ok (.ireturn, 1) := by decide +kernel
theorem dX6_effect_65 : decode cX6_effect 65 = .ok (.aload_n 0, 1) := by decide +kernel
theorem dX6_effect_66 : decode cX6_effect 66 = .ok (.getfield 40, 3) := by decide +kernel
theorem dX6_effect_69 : decode cX6_effect 69 = .ok (.iload_n 1, 1) := by decide +kernel
theorem dX6_effect_70 : decode cX6_effect 70 = .ok (.iload_n 2, 1) := by decide +kernel
theorem dX6_effect_71 : decode cX6_effect 71 = .ok (.iload_n 3, 1) := by decide +kernel
theorem dX6_effect_72 : decode cX6_effect 72 = .ok (.iload 4, 2) := by decide +kernel
theorem dX6_effect_74 : decode cX6_effect 74 = .ok (.iload 5, 2) := by decide +kernel
theorem dX6_effect_76 : decode cX6_effect 76 = .ok (.invokevirtual 144, 3) := by decide +kernel
theorem dX6_effect_79 : decode cX6_effect 79 = .ok (.ireturn, 1) := by decide +kernel
set_option maxRecDepth 20000 in
theorem ggX6_mix_X2_isNode : GoodIn wsX6_mix wsX2_isNode := goodIn_r _ [7, 8, 50, 51, 52, 53, 54] (by decide +kernel) (by decide +kernel)
set_option maxRecDepth 20000 in
theorem gX6_mix_X2_isNode_n96 : GoodIn wsX6_mix (wsX2_isNode) := ggX6_mix_X2_isNode
set_option maxRecDepth 20000 in
theorem ggX6_mix_X2_isScene : GoodIn wsX6_mix wsX2_isScene := goodIn_r _ [11, 12, 50, 51, 52, 53, 54] (by decide +kernel) (by decide +kernel)
set_option maxRecDepth 20000 in
theorem gX6_mix_X2_isScene_n120 : GoodIn wsX6_mix (wsX2_isScene) := ggX6_mix_X2_isScene
set_option maxRecDepth 20000 in
theorem ggX6_mix_X0_mixOf : GoodIn wsX6_mix wsX0_mixOf := goodIn_r _ [16, 17, 18, 19, 20, 14, 21, 22, 5, 23, 24, 8, 25, 26, 27, 28, 29, 30, 4, 6, 7, 31, 32, 33, 34, 35, 36, 37, 38, 39, 40, 41, 42, 43, 55, 56, 57, 50, 51, 52, 53, 54] (by decide +kernel) (by decide +kernel)
set_option maxRecDepth 20000 in
theorem gX6_mix_X0_mixOf_n148 : GoodIn wsX6_mix (wsX0_mixOf) := ggX6_mix_X0_mixOf
theorem dX6_mix_0 : decode cX6_mix 0 = .ok (.aload_n 0, 1) := by decide +kernel
theorem dX6_mix_1 : decode cX6_mix 1 = .ok (.getfield 19, 3) := by decide +kernel
theorem dX6_mix_4 : decode cX6_mix 4 = .ok (.iload_n 1, 1) := by decide +kernel
theorem dX6_mix_5 : decode cX6_mix 5 = .ok (.invokevirtual 96, 3) := by decide +kernel
theorem dX6_mix_8 : decode cX6_mix 8 = .ok (.ifCond .eq 29, 3) := by decide +kernel
theorem dX6_mix_11 : decode cX6_mix 11 = .ok (.iload_n 1, 1) := by decide +kernel
theorem dX6_mix_12 : decode cX6_mix 12 = .ok (.ifCond .eq 25, 3) := by decide +kernel
theorem dX6_mix_15 : decode cX6_mix 15 = .ok (.aload_n 0, 1) := by decide +kernel
theorem dX6_mix_16 : decode cX6_mix 16 = .ok (.getfield 19, 3) := by decide +kernel
theorem dX6_mix_19 : decode cX6_mix 19 = .ok (.iload_n 2, 1) := by decide +kernel
theorem dX6_mix_20 : decode cX6_mix 20 = .ok (.invokevirtual 120, 3) := by decide +kernel
theorem dX6_mix_23 : decode cX6_mix 23 = .ok (.ifCond .eq 14, 3) := by decide +kernel
theorem dX6_mix_26 : decode cX6_mix 26 = .ok (.aload_n 0, 1) := by decide +kernel
theorem dX6_mix_27 : decode cX6_mix 27 = .ok (.getfield 19, 3) := by decide +kernel
theorem dX6_mix_30 : decode cX6_mix 30 = .ok (.iload_n 3, 1) := by decide +kernel
theorem dX6_mix_31 : decode cX6_mix 31 = .ok (.invokevirtual 120, 3) := by decide +kernel
theorem dX6_mix_34 : decode cX6_mix 34 = .ok (.ifCond .ne 6, 3) := by decide +kernel
theorem dX6_mix_37 : decode cX6_mix 37 = .ok (.ldc 130, 2) := by decide +kernel
theorem dX6_mix_39 : decode cX6_mix 39 = .ok (.ireturn, 1) := by decide +kernel
theorem dX6_mix_40 : decode cX6_mix 40 = .ok (.aload_n 0, 1) := by decide +kernel
theorem dX6_mix_41 : decode cX6_mix 41 = .ok (.getfield 40, 3) := by decide +kernel
theorem dX6_mix_44 : decode cX6_mix 44 = .ok (.iload_n 1, 1) := by decide +kernel
theorem dX6_mix_45 : decode cX6_mix 45 = .ok (.iload_n 2, 1) := by decide +kernel
theorem dX6_mix_46 : decode cX6_mix 46 = .ok (.iload_n 3, 1) := by decide +kernel
theorem dX6_mix_47 : decode cX6_mix 47 = .ok (.invokevirtual 148, 3) := by decide +kernel
theorem dX6_mix_50 : decode cX6_mix 50 = .ok (.ireturn, 1) := by decide +kernel
set_option maxRecDepth 20000 in
theorem ggX6_flatters_X2_isNode : GoodIn wsX6_flatters wsX2_isNode := goodIn_r _ [6, 7, 78, 79, 80, 81, 82] (by decide +kernel) (by decide +kernel)
set_option maxRecDepth 20000 in
theorem gX6_flatters_X2_isNode_n96 : GoodIn wsX6_flatters (wsX2_isNode) := ggX6_flatters_X2_isNode
set_option maxRecDepth 20000 in
theorem ggX6_flatters_X2_isScene : GoodIn wsX6_flatters wsX2_isScene := goodIn_r _ [10, 11, 78, 79, 80, 81, 82] (by decide +kernel) (by decide +kernel)
set_option maxRecDepth 20000 in
theorem gX6_flatters_X2_isScene_n120 : GoodIn wsX6_flatters (wsX2_isScene) := ggX6_flatters_X2_isScene
set_option maxRecDepth 20000 in
theorem ggX6_flatters_X6_isFactor : GoodIn wsX6_flatters wsX6_isFactor := goodIn_r _ [15] (by decide +kernel) (by decide +kernel)
set_option maxRecDepth 20000 in
theorem gX6_flatters_X6_isFactor : GoodIn wsX6_flatters (va_wsS RX6 123 yX6_isFactor wsX6_isFactor) := goodIn_app (goodIn_of _ (by decide +kernel)) ggX6_flatters_X6_isFactor
set_option maxRecDepth 20000 in
theorem ggX6_flatters_X0_mostFlattering : GoodIn wsX6_flatters wsX0_mostFlattering := goodIn_r _ [19, 20, 21, 22, 4, 23, 24, 7, 25, 26, 27, 28, 29, 30, 3, 5, 6, 31, 32, 33, 34, 35, 36, 37, 38, 39, 40, 41, 42, 17, 43, 44, 45, 46, 47, 48, 49, 50, 51, 52, 53, 54, 55, 56, 14, 57, 58, 59, 60, 61, 62, 63, 64, 65, 66, 67, 68, 69, 70, 71, 83, 84, 85, 78, 79, 80, 81, 82] (by decide +kernel) (by decide +kernel)
set_option maxRecDepth 20000 in
theorem gX6_flatters_X0_mostFlattering_n151 : GoodIn wsX6_flatters (wsX0_mostFlattering) := ggX6_flatters_X0_mostFlattering
theorem dX6_flatters_0 : decode cX6_flatters 0 = .ok (.aload_n 0, 1) := by decide +kernel
theorem dX6_flatters_1 : decode cX6_flatters 1 = .ok (.getfield 19, 3) := by decide +kernel
theorem dX6_flatters_4 : decode cX6_flatters 4 = .ok (.iload_n 1, 1) := by decide +kernel
theorem dX6_flatters_5 : decode cX6_flatters 5 = .ok (.invokevirtual 96, 3) := by decide +kernel
theorem dX6_flatters_8 : decode cX6_flatters 8 = .ok (.ifCond .eq 33, 3) := by decide +kernel
theorem dX6_flatters_11 : decode cX6_flatters 11 = .ok (.aload_n 0, 1) := by decide +kernel
theorem dX6_flatters_12 : decode cX6_flatters 12 = .ok (.getfield 19, 3) := by decide +kernel
theorem dX6_flatters_15 : decode cX6_flatters 15 = .ok (.iload_n 2, 1) := by decide +kernel
theorem dX6_flatters_16 : decode cX6_flatters 16 = .ok (.invokevirtual 120, 3) := by decide +kernel
theorem dX6_flatters_19 : decode cX6_flatters 19 = .ok (.ifCond .eq 22, 3) := by decide +kernel
theorem dX6_flatters_22 : decode cX6_flatters 22 = .ok (.aload_n 0, 1) := by decide +kernel
theorem dX6_flatters_23 : decode cX6_flatters 23 = .ok (.getfield 19, 3) := by decide +kernel
theorem dX6_flatters_26 : decode cX6_flatters 26 = .ok (.iload_n 3, 1) := by decide +kernel
theorem dX6_flatters_27 : decode cX6_flatters 27 = .ok (.invokevirtual 120, 3) := by decide +kernel
theorem dX6_flatters_30 : decode cX6_flatters 30 = .ok (.ifCond .eq 11, 3) := by decide +kernel
theorem dX6_flatters_33 : decode cX6_flatters 33 = .ok (.iload 4, 2) := by decide +kernel
theorem dX6_flatters_35 : decode cX6_flatters 35 = .ok (.invokestatic 123, 3) := by decide +kernel
theorem dX6_flatters_38 : decode cX6_flatters 38 = .ok (.ifCond .ne 5, 3) := by decide +kernel
theorem dX6_flatters_41 : decode cX6_flatters 41 = .ok (.iconst (-1), 1) := by decide +kernel
theorem dX6_flatters_42 : decode cX6_flatters 42 = .ok (.ireturn, 1) := by decide +kernel
theorem dX6_flatters_43 : decode cX6_flatters 43 = .ok (.aload_n 0, 1) := by decide +kernel
theorem dX6_flatters_44 : decode cX6_flatters 44 = .ok (.getfield 40, 3) := by decide +kernel
theorem dX6_flatters_47 : decode cX6_flatters 47 = .ok (.iload_n 1, 1) := by decide +kernel
theorem dX6_flatters_48 : decode cX6_flatters 48 = .ok (.iload_n 2, 1) := by decide +kernel
theorem dX6_flatters_49 : decode cX6_flatters 49 = .ok (.iload_n 3, 1) := by decide +kernel
theorem dX6_flatters_50 : decode cX6_flatters 50 = .ok (.iload 4, 2) := by decide +kernel
theorem dX6_flatters_52 : decode cX6_flatters 52 = .ok (.invokevirtual 151, 3) := by decide +kernel
theorem dX6_flatters_55 : decode cX6_flatters 55 = .ok (.ireturn, 1) := by decide +kernel
set_option maxRecDepth 20000 in
theorem ggX6_mover_X2_isScene : GoodIn wsX6_mover wsX2_isScene := goodIn_r _ [6, 7, 52, 53, 54, 55, 56] (by decide +kernel) (by decide +kernel)
set_option maxRecDepth 20000 in
theorem gX6_mover_X2_isScene_n120 : GoodIn wsX6_mover (wsX2_isScene) := ggX6_mover_X2_isScene
set_option maxRecDepth 20000 in
theorem ggX6_mover_X0_moverAt : GoodIn wsX6_mover wsX0_moverAt := goodIn_r _ [11, 12, 13, 14, 15, 16, 17, 18, 4, 19, 20, 21, 22, 23, 24, 25, 26, 27, 28, 29, 30, 31, 32, 33, 34, 35, 36, 37, 38, 39, 40, 41, 42, 43, 44, 9, 45, 57, 58, 59, 52, 53, 54, 55, 56] (by decide +kernel) (by decide +kernel)
set_option maxRecDepth 20000 in
theorem gX6_mover_X0_moverAt_n155 : GoodIn wsX6_mover (wsX0_moverAt) := ggX6_mover_X0_moverAt
theorem dX6_mover_0 : decode cX6_mover 0 = .ok (.aload_n 0, 1) := by decide +kernel
theorem dX6_mover_1 : decode cX6_mover 1 = .ok (.getfield 19, 3) := by decide +kernel
theorem dX6_mover_4 : decode cX6_mover 4 = .ok (.iload_n 1, 1) := by decide +kernel
theorem dX6_mover_5 : decode cX6_mover 5 = .ok (.invokevirtual 120, 3) := by decide +kernel
theorem dX6_mover_8 : decode cX6_mover 8 = .ok (.ifCond .eq 14, 3) := by decide +kernel
theorem dX6_mover_11 : decode cX6_mover 11 = .ok (.aload_n 0, 1) := by decide +kernel
theorem dX6_mover_12 : decode cX6_mover 12 = .ok (.getfield 19, 3) := by decide +kernel
theorem dX6_mover_15 : decode cX6_mover 15 = .ok (.iload_n 2, 1) := by decide +kernel
theorem dX6_mover_16 : decode cX6_mover 16 = .ok (.invokevirtual 120, 3) := by decide +kernel
theorem dX6_mover_19 : decode cX6_mover 19 = .ok (.ifCond .ne 5, 3) := by decide +kernel
theorem dX6_mover_22 : decode cX6_mover 22 = .ok (.iconst (-1), 1) := by decide +kernel
theorem dX6_mover_23 : decode cX6_mover 23 = .ok (.ireturn, 1) := by decide +kernel
theorem dX6_mover_24 : decode cX6_mover 24 = .ok (.aload_n 0, 1) := by decide +kernel
theorem dX6_mover_25 : decode cX6_mover 25 = .ok (.getfield 40, 3) := by decide +kernel
theorem dX6_mover_28 : decode cX6_mover 28 = .ok (.iload_n 1, 1) := by decide +kernel
theorem dX6_mover_29 : decode cX6_mover 29 = .ok (.iload_n 2, 1) := by decide +kernel
theorem dX6_mover_30 : decode cX6_mover 30 = .ok (.iload_n 3, 1) := by decide +kernel
theorem dX6_mover_31 : decode cX6_mover 31 = .ok (.invokevirtual 155, 3) := by decide +kernel
theorem dX6_mover_34 : decode cX6_mover 34 = .ok (.ireturn, 1) := by decide +kernel
set_option maxRecDepth 20000 in
theorem ggX6_branch_X2_isScene : GoodIn wsX6_branch wsX2_isScene := goodIn_r _ [6, 7, 64, 65, 66, 67, 68] (by decide +kernel) (by decide +kernel)
set_option maxRecDepth 20000 in
theorem gX6_branch_X2_isScene_n120 : GoodIn wsX6_branch (wsX2_isScene) := ggX6_branch_X2_isScene
set_option maxRecDepth 20000 in
theorem ggX6_branch_X0_greatestGroup : GoodIn wsX6_branch wsX0_greatestGroup := goodIn_r _ [11, 12, 13, 14, 15, 16, 17, 4, 18, 19, 20, 21, 22, 23, 24, 25, 26, 27, 28, 29, 30, 31, 32, 33, 34, 35, 36, 37, 38, 39, 40, 41, 42, 43, 44, 45, 46, 47, 48, 49, 50, 51, 52, 53, 54, 55, 56, 57, 69, 70, 71, 64, 65, 66, 67, 68] (by decide +kernel) (by decide +kernel)
set_option maxRecDepth 20000 in
theorem gX6_branch_X0_greatestGroup_n158 : GoodIn wsX6_branch (wsX0_greatestGroup) := ggX6_branch_X0_greatestGroup
theorem dX6_branch_0 : decode cX6_branch 0 = .ok (.aload_n 0, 1) := by decide +kernel
theorem dX6_branch_1 : decode cX6_branch 1 = .ok (.getfield 19, 3) := by decide +kernel
theorem dX6_branch_4 : decode cX6_branch 4 = .ok (.iload_n 1, 1) := by decide +kernel
theorem dX6_branch_5 : decode cX6_branch 5 = .ok (.invokevirtual 120, 3) := by decide +kernel
theorem dX6_branch_8 : decode cX6_branch 8 = .ok (.ifCond .eq 14, 3) := by decide +kernel
theorem dX6_branch_11 : decode cX6_branch 11 = .ok (.aload_n 0, 1) := by decide +kernel
theorem dX6_branch_12 : decode cX6_branch 12 = .ok (.getfield 19, 3) := by decide +kernel
theorem dX6_branch_15 : decode cX6_branch 15 = .ok (.iload_n 2, 1) := by decide +kernel
theorem dX6_branch_16 : decode cX6_branch 16 = .ok (.invokevirtual 120, 3) := by decide +kernel
theorem dX6_branch_19 : decode cX6_branch 19 = .ok (.ifCond .ne 5, 3) := by decide +kernel
theorem dX6_branch_22 : decode cX6_branch 22 = .ok (.iconst (-1), 1) := by decide +kernel
theorem dX6_branch_23 : decode cX6_branch 23 = .ok (.ireturn, 1) := by decide +kernel
theorem dX6_branch_24 : decode cX6_branch 24 = .ok (.aload_n 0, 1) := by decide +kernel
theorem dX6_branch_25 : decode cX6_branch 25 = .ok (.getfield 40, 3) := by decide +kernel
theorem dX6_branch_28 : decode cX6_branch 28 = .ok (.iload_n 1, 1) := by decide +kernel
theorem dX6_branch_29 : decode cX6_branch 29 = .ok (.iload_n 2, 1) := by decide +kernel
theorem dX6_branch_30 : decode cX6_branch 30 = .ok (.invokevirtual 158, 3) := by decide +kernel
theorem dX6_branch_33 : decode cX6_branch 33 = .ok (.ireturn, 1) := by decide +kernel
set_option maxRecDepth 20000 in
theorem ggX6_would_X2_isLeaf : GoodIn wsX6_would wsX2_isLeaf := goodIn_r _ [6, 7, 8, 9, 10, 4, 11, 12, 54, 55, 56, 57, 58] (by decide +kernel) (by decide +kernel)
set_option maxRecDepth 20000 in
theorem gX6_would_X2_isLeaf_n117 : GoodIn wsX6_would (wsX2_isLeaf) := ggX6_would_X2_isLeaf
set_option maxRecDepth 20000 in
theorem ggX6_would_X2_isScene : GoodIn wsX6_would wsX2_isScene := goodIn_r _ [15, 16, 54, 55, 56, 57, 58] (by decide +kernel) (by decide +kernel)
set_option maxRecDepth 20000 in
theorem gX6_would_X2_isScene_n120 : GoodIn wsX6_would (wsX2_isScene) := ggX6_would_X2_isScene
set_option maxRecDepth 20000 in
theorem ggX6_would_X6_isFactorValue : GoodIn wsX6_would wsX6_isFactorValue := goodIn_r _ [20, 21, 22, 23, 24, 19, 25] (by decide +kernel) (by decide +kernel)
set_option maxRecDepth 20000 in
theorem gX6_would_X6_isFactorValue : GoodIn wsX6_would (va_wsS RX6 161 yX6_isFactorValue wsX6_isFactorValue) := goodIn_app (goodIn_of _ (by decide +kernel)) ggX6_would_X6_isFactorValue
set_option maxRecDepth 20000 in
theorem ggX6_would_X2_gainIfSet : GoodIn wsX6_would wsX2_gainIfSet := goodIn_r _ [28, 29, 30, 31, 4, 32, 33, 34, 35, 36, 37, 38, 39, 40, 41, 42, 19, 43, 44, 45, 46, 47, 54, 55, 56, 57, 58] (by decide +kernel) (by decide +kernel)
set_option maxRecDepth 20000 in
theorem gX6_would_X2_gainIfSet_n165 : GoodIn wsX6_would (wsX2_gainIfSet) := ggX6_would_X2_gainIfSet
theorem dX6_would_0 : decode cX6_would 0 = .ok (.aload_n 0, 1) := by decide +kernel
theorem dX6_would_1 : decode cX6_would 1 = .ok (.getfield 19, 3) := by decide +kernel
theorem dX6_would_4 : decode cX6_would 4 = .ok (.iload_n 1, 1) := by decide +kernel
theorem dX6_would_5 : decode cX6_would 5 = .ok (.invokevirtual 117, 3) := by decide +kernel
theorem dX6_would_8 : decode cX6_would 8 = .ok (.ifCond .eq 23, 3) := by decide +kernel
theorem dX6_would_11 : decode cX6_would 11 = .ok (.aload_n 0, 1) := by decide +kernel
theorem dX6_would_12 : decode cX6_would 12 = .ok (.getfield 19, 3) := by decide +kernel
theorem dX6_would_15 : decode cX6_would 15 = .ok (.iload_n 2, 1) := by decide +kernel
theorem dX6_would_16 : decode cX6_would 16 = .ok (.invokevirtual 120, 3) := by decide +kernel
theorem dX6_would_19 : decode cX6_would 19 = .ok (.ifCond .eq 12, 3) := by decide +kernel
theorem dX6_would_22 : decode cX6_would 22 = .ok (.iload_n 3, 1) := by decide +kernel
theorem dX6_would_23 : decode cX6_would 23 = .ok (.iload 4, 2) := by decide +kernel
theorem dX6_would_25 : decode cX6_would 25 = .ok (.invokestatic 161, 3) := by decide +kernel
theorem dX6_would_28 : decode cX6_would 28 = .ok (.ifCond .ne 6, 3) := by decide +kernel
theorem dX6_would_31 : decode cX6_would 31 = .ok (.ldc 130, 2) := by decide +kernel
theorem dX6_would_33 : decode cX6_would 33 = .ok (.ireturn, 1) := by decide +kernel
theorem dX6_would_34 : decode cX6_would 34 = .ok (.aload_n 0, 1) := by decide +kernel
theorem dX6_would_35 : decode cX6_would 35 = .ok (.getfield 19, 3) := by decide +kernel
theorem dX6_would_38 : decode cX6_would 38 = .ok (.iload_n 1, 1) := by decide +kernel
theorem dX6_would_39 : decode cX6_would 39 = .ok (.iload_n 2, 1) := by decide +kernel
theorem dX6_would_40 : decode cX6_would 40 = .ok (.iload_n 3, 1) := by decide +kernel
theorem dX6_would_41 : decode cX6_would 41 = .ok (.iload 4, 2) := by decide +kernel
theorem dX6_would_43 : decode cX6_would 43 = .ok (.invokevirtual 165, 3) := by decide +kernel
theorem dX6_would_46 : decode cX6_would 46 = .ok (.ireturn, 1) := by decide +kernel
set_option maxRecDepth 20000 in
theorem ggX6_needs_X2_isLeaf : GoodIn wsX6_needs wsX2_isLeaf := goodIn_r _ [7, 8, 9, 10, 11, 5, 12, 13, 61, 62, 63, 64, 65] (by decide +kernel) (by decide +kernel)
set_option maxRecDepth 20000 in
theorem gX6_needs_X2_isLeaf_n117 : GoodIn wsX6_needs (wsX2_isLeaf) := ggX6_needs_X2_isLeaf
set_option maxRecDepth 20000 in
theorem ggX6_needs_X2_isScene : GoodIn wsX6_needs wsX2_isScene := goodIn_r _ [16, 17, 61, 62, 63, 64, 65] (by decide +kernel) (by decide +kernel)
set_option maxRecDepth 20000 in
theorem gX6_needs_X2_isScene_n120 : GoodIn wsX6_needs (wsX2_isScene) := ggX6_needs_X2_isScene
set_option maxRecDepth 20000 in
theorem ggX6_needs_X2_unitsNeeded : GoodIn wsX6_needs wsX2_unitsNeeded := goodIn_r _ [20, 21, 22, 23, 5, 24, 13, 25, 26, 27, 28, 29, 4, 6, 7, 8, 9, 10, 11, 12, 30, 31, 32, 33, 34, 35, 36, 37, 38, 39, 40, 41, 42, 43, 44, 45, 46, 47, 48, 49, 50, 51, 52, 53, 54, 61, 62, 63, 64, 65] (by decide +kernel) (by decide +kernel)
set_option maxRecDepth 20000 in
theorem gX6_needs_X2_unitsNeeded_n170 : GoodIn wsX6_needs (wsX2_unitsNeeded) := ggX6_needs_X2_unitsNeeded
theorem dX6_needs_0 : decode cX6_needs 0 = .ok (.aload_n 0, 1) := by decide +kernel
theorem dX6_needs_1 : decode cX6_needs 1 = .ok (.getfield 19, 3) := by decide +kernel
theorem dX6_needs_4 : decode cX6_needs 4 = .ok (.iload_n 1, 1) := by decide +kernel
theorem dX6_needs_5 : decode cX6_needs 5 = .ok (.invokevirtual 117, 3) := by decide +kernel
theorem dX6_needs_8 : decode cX6_needs 8 = .ok (.ifCond .eq 26, 3) := by decide +kernel
theorem dX6_needs_11 : decode cX6_needs 11 = .ok (.aload_n 0, 1) := by decide +kernel
theorem dX6_needs_12 : decode cX6_needs 12 = .ok (.getfield 19, 3) := by decide +kernel
theorem dX6_needs_15 : decode cX6_needs 15 = .ok (.iload_n 2, 1) := by decide +kernel
theorem dX6_needs_16 : decode cX6_needs 16 = .ok (.invokevirtual 120, 3) := by decide +kernel
theorem dX6_needs_19 : decode cX6_needs 19 = .ok (.ifCond .eq 15, 3) := by decide +kernel
theorem dX6_needs_22 : decode cX6_needs 22 = .ok (.iload_n 3, 1) := by decide +kernel
theorem dX6_needs_23 : decode cX6_needs 23 = .ok (.ldc 168, 2) := by decide +kernel
theorem dX6_needs_25 : decode cX6_needs 25 = .ok (.if_icmp .lt 9, 3) := by decide +kernel
theorem dX6_needs_28 : decode cX6_needs 28 = .ok (.iload_n 3, 1) := by decide +kernel
theorem dX6_needs_29 : decode cX6_needs 29 = .ok (.ldc 169, 2) := by decide +kernel
theorem dX6_needs_31 : decode cX6_needs 31 = .ok (.if_icmp .le 5, 3) := by decide +kernel
theorem dX6_needs_34 : decode cX6_needs 34 = .ok (.iconst (-1), 1) := by decide +kernel
theorem dX6_needs_35 : decode cX6_needs 35 = .ok (.ireturn, 1) := by decide +kernel
theorem dX6_needs_36 : decode cX6_needs 36 = .ok (.aload_n 0, 1) := by decide +kernel
theorem dX6_needs_37 : decode cX6_needs 37 = .ok (.getfield 19, 3) := by decide +kernel
theorem dX6_needs_40 : decode cX6_needs 40 = .ok (.iload_n 1, 1) := by decide +kernel
theorem dX6_needs_41 : decode cX6_needs 41 = .ok (.iload_n 2, 1) := by decide +kernel
theorem dX6_needs_42 : decode cX6_needs 42 = .ok (.iload_n 3, 1) := by decide +kernel
theorem dX6_needs_43 : decode cX6_needs 43 = .ok (.invokevirtual 170, 3) := by decide +kernel
theorem dX6_needs_46 : decode cX6_needs 46 = .ok (.ireturn, 1) := by decide +kernel
set_option maxRecDepth 20000 in
theorem ggX6_set_X2_isLeaf : GoodIn wsX6_set wsX2_isLeaf := goodIn_r _ [6, 7, 8, 9, 10, 4, 11, 12, 61, 62, 63, 64, 65] (by decide +kernel) (by decide +kernel)
set_option maxRecDepth 20000 in
theorem gX6_set_X2_isLeaf_n117 : GoodIn wsX6_set (wsX2_isLeaf) := ggX6_set_X2_isLeaf
set_option maxRecDepth 20000 in
theorem ggX6_set_X2_isScene : GoodIn wsX6_set wsX2_isScene := goodIn_r _ [15, 16, 61, 62, 63, 64, 65] (by decide +kernel) (by decide +kernel)
set_option maxRecDepth 20000 in
theorem gX6_set_X2_isScene_n120 : GoodIn wsX6_set (wsX2_isScene) := ggX6_set_X2_isScene
set_option maxRecDepth 20000 in
theorem ggX6_set_X6_isFactorValue : GoodIn wsX6_set wsX6_isFactorValue := goodIn_r _ [20, 21, 22, 23, 24, 19, 25] (by decide +kernel) (by decide +kernel)
set_option maxRecDepth 20000 in
theorem gX6_set_X6_isFactorValue : GoodIn wsX6_set (va_wsS RX6 161 yX6_isFactorValue wsX6_isFactorValue) := goodIn_app (goodIn_of _ (by decide +kernel)) ggX6_set_X6_isFactorValue
set_option maxRecDepth 20000 in
theorem ggX6_set_X2_factorOf : GoodIn wsX6_set wsX2_factorOf := goodIn_r _ [28, 29, 61, 62, 63, 64, 65] (by decide +kernel) (by decide +kernel)
set_option maxRecDepth 20000 in
theorem gX6_set_X2_factorOf_n126 : GoodIn wsX6_set (wsX2_factorOf) := ggX6_set_X2_factorOf
set_option maxRecDepth 20000 in
theorem ggX6_set_X1_keepScene : GoodIn wsX6_set wsX1_keepScene := goodIn_r _ [33, 34, 35, 36, 37, 38, 39, 40, 41, 42, 43, 31, 44, 45, 46, 47, 48, 49, 50, 51, 66, 67, 68, 69, 70, 71, 72, 61, 62, 63, 64, 65] (by decide +kernel) (by decide +kernel)
set_option maxRecDepth 20000 in
theorem gX6_set_X1_keepScene_n173 : GoodIn wsX6_set (wsX1_keepScene) := ggX6_set_X1_keepScene
set_option maxRecDepth 20000 in
theorem ggX6_set_X2_putFactor : GoodIn wsX6_set wsX2_putFactor := goodIn_r _ [54, 29, 61, 62, 63, 64, 65] (by decide +kernel) (by decide +kernel)
set_option maxRecDepth 20000 in
theorem gX6_set_X2_putFactor_n176 : GoodIn wsX6_set (wsX2_putFactor) := ggX6_set_X2_putFactor
theorem dX6_set_0 : decode cX6_set 0 = .ok (.aload_n 0, 1) := by decide +kernel
theorem dX6_set_1 : decode cX6_set 1 = .ok (.getfield 19, 3) := by decide +kernel
theorem dX6_set_4 : decode cX6_set 4 = .ok (.iload_n 1, 1) := by decide +kernel
theorem dX6_set_5 : decode cX6_set 5 = .ok (.invokevirtual 117, 3) := by decide +kernel
theorem dX6_set_8 : decode cX6_set 8 = .ok (.ifCond .eq 23, 3) := by decide +kernel
theorem dX6_set_11 : decode cX6_set 11 = .ok (.aload_n 0, 1) := by decide +kernel
theorem dX6_set_12 : decode cX6_set 12 = .ok (.getfield 19, 3) := by decide +kernel
theorem dX6_set_15 : decode cX6_set 15 = .ok (.iload_n 2, 1) := by decide +kernel
theorem dX6_set_16 : decode cX6_set 16 = .ok (.invokevirtual 120, 3) := by decide +kernel
theorem dX6_set_19 : decode cX6_set 19 = .ok (.ifCond .eq 12, 3) := by decide +kernel
theorem dX6_set_22 : decode cX6_set 22 = .ok (.iload_n 3, 1) := by decide +kernel
theorem dX6_set_23 : decode cX6_set 23 = .ok (.iload 4, 2) := by decide +kernel
theorem dX6_set_25 : decode cX6_set 25 = .ok (.invokestatic 161, 3) := by decide +kernel
theorem dX6_set_28 : decode cX6_set 28 = .ok (.ifCond .ne 5, 3) := by decide +kernel
theorem dX6_set_31 : decode cX6_set 31 = .ok (.iconst (-1), 1) := by decide +kernel
theorem dX6_set_32 : decode cX6_set 32 = .ok (.ireturn, 1) := by decide +kernel
theorem dX6_set_33 : decode cX6_set 33 = .ok (.aload_n 0, 1) := by decide +kernel
theorem dX6_set_34 : decode cX6_set 34 = .ok (.getfield 19, 3) := by decide +kernel
theorem dX6_set_37 : decode cX6_set 37 = .ok (.iload_n 1, 1) := by decide +kernel
theorem dX6_set_38 : decode cX6_set 38 = .ok (.iload_n 2, 1) := by decide +kernel
theorem dX6_set_39 : decode cX6_set 39 = .ok (.iload_n 3, 1) := by decide +kernel
theorem dX6_set_40 : decode cX6_set 40 = .ok (.invokevirtual 126, 3) := by decide +kernel
theorem dX6_set_43 : decode cX6_set 43 = .ok (.istore 5, 2) := by decide +kernel
theorem dX6_set_45 : decode cX6_set 45 = .ok (.aload_n 0, 1) := by decide +kernel
theorem dX6_set_46 : decode cX6_set 46 = .ok (.getfield 47, 3) := by decide +kernel
theorem dX6_set_49 : decode cX6_set 49 = .ok (.iload_n 2, 1) := by decide +kernel
theorem dX6_set_50 : decode cX6_set 50 = .ok (.invokevirtual 173, 3) := by decide +kernel
theorem dX6_set_53 : decode cX6_set 53 = .ok (.aload_n 0, 1) := by decide +kernel
theorem dX6_set_54 : decode cX6_set 54 = .ok (.getfield 19, 3) := by decide +kernel
theorem dX6_set_57 : decode cX6_set 57 = .ok (.iload_n 1, 1) := by decide +kernel
theorem dX6_set_58 : decode cX6_set 58 = .ok (.iload_n 2, 1) := by decide +kernel
theorem dX6_set_59 : decode cX6_set 59 = .ok (.iload_n 3, 1) := by decide +kernel
theorem dX6_set_60 : decode cX6_set 60 = .ok (.iload 4, 2) := by decide +kernel
theorem dX6_set_62 : decode cX6_set 62 = .ok (.invokevirtual 176, 3) := by decide +kernel
theorem dX6_set_65 : decode cX6_set 65 = .ok (.iload 5, 2) := by decide +kernel
theorem dX6_set_67 : decode cX6_set 67 = .ok (.ireturn, 1) := by decide +kernel
set_option maxRecDepth 20000 in
theorem ggX6_copy_X2_isScene : GoodIn wsX6_copy wsX2_isScene := goodIn_r _ [6, 7, 58, 59, 60, 61, 62] (by decide +kernel) (by decide +kernel)
set_option maxRecDepth 20000 in
theorem gX6_copy_X2_isScene_n120 : GoodIn wsX6_copy (wsX2_isScene) := ggX6_copy_X2_isScene
set_option maxRecDepth 20000 in
theorem ggX6_copy_X1_keepScene : GoodIn wsX6_copy wsX1_keepScene := goodIn_r _ [11, 12, 13, 14, 15, 16, 17, 18, 19, 20, 21, 9, 22, 23, 24, 25, 26, 27, 28, 29, 63, 64, 65, 66, 67, 68, 69, 58, 59, 60, 61, 62] (by decide +kernel) (by decide +kernel)
set_option maxRecDepth 20000 in
theorem gX6_copy_X1_keepScene_n173 : GoodIn wsX6_copy (wsX1_keepScene) := ggX6_copy_X1_keepScene
set_option maxRecDepth 20000 in
theorem ggX6_copy_X2_copyScene : GoodIn wsX6_copy wsX2_copyScene := goodIn_r _ [32, 33, 34, 35, 36, 4, 37, 38, 39, 40, 41, 42, 43, 44, 45, 46, 47, 48, 49, 50, 51, 58, 59, 60, 61, 62] (by decide +kernel) (by decide +kernel)
set_option maxRecDepth 20000 in
theorem gX6_copy_X2_copyScene_n180 : GoodIn wsX6_copy (wsX2_copyScene) := ggX6_copy_X2_copyScene
theorem dX6_copy_0 : decode cX6_copy 0 = .ok (.aload_n 0, 1) := by decide +kernel
theorem dX6_copy_1 : decode cX6_copy 1 = .ok (.getfield 19, 3) := by decide +kernel
theorem dX6_copy_4 : decode cX6_copy 4 = .ok (.iload_n 1, 1) := by decide +kernel
theorem dX6_copy_5 : decode cX6_copy 5 = .ok (.invokevirtual 120, 3) := by decide +kernel
theorem dX6_copy_8 : decode cX6_copy 8 = .ok (.ifCond .eq 19, 3) := by decide +kernel
theorem dX6_copy_11 : decode cX6_copy 11 = .ok (.aload_n 0, 1) := by decide +kernel
theorem dX6_copy_12 : decode cX6_copy 12 = .ok (.getfield 19, 3) := by decide +kernel
theorem dX6_copy_15 : decode cX6_copy 15 = .ok (.iload_n 2, 1) := by decide +kernel
theorem dX6_copy_16 : decode cX6_copy 16 = .ok (.invokevirtual 120, 3) := by decide +kernel
theorem dX6_copy_19 : decode cX6_copy 19 = .ok (.ifCond .eq 8, 3) := by decide +kernel
theorem dX6_copy_22 : decode cX6_copy 22 = .ok (.iload_n 1, 1) := by decide +kernel
theorem dX6_copy_23 : decode cX6_copy 23 = .ok (.iload_n 2, 1) := by decide +kernel
theorem dX6_copy_24 : decode cX6_copy 24 = .ok (.if_icmp .ne 5, 3) := by decide +kernel
theorem dX6_copy_27 : decode cX6_copy 27 = .ok (.iconst (-1), 1) := by decide +kernel
theorem dX6_copy_28 : decode cX6_copy 28 = .ok (.ireturn, 1) := by decide +kernel
theorem dX6_copy_29 : decode cX6_copy 29 = .ok (.aload_n 0, 1) := by decide +kernel
theorem dX6_copy_30 : decode cX6_copy 30 = .ok (.getfield 47, 3) := by decide +kernel
theorem dX6_copy_33 : decode cX6_copy 33 = .ok (.iload_n 2, 1) := by decide +kernel
theorem dX6_copy_34 : decode cX6_copy 34 = .ok (.invokevirtual 173, 3) := by decide +kernel
theorem dX6_copy_37 : decode cX6_copy 37 = .ok (.aload_n 0, 1) := by decide +kernel
theorem dX6_copy_38 : decode cX6_copy 38 = .ok (.getfield 19, 3) := by decide +kernel
theorem dX6_copy_41 : decode cX6_copy 41 = .ok (.iload_n 1, 1) := by decide +kernel
theorem dX6_copy_42 : decode cX6_copy 42 = .ok (.iload_n 2, 1) := by decide +kernel
theorem dX6_copy_43 : decode cX6_copy 43 = .ok (.invokevirtual 180, 3) := by decide +kernel
theorem dX6_copy_46 : decode cX6_copy 46 = .ok (.ireturn, 1) := by decide +kernel
set_option maxRecDepth 20000 in
theorem ggX6_move_X2_isNode : GoodIn wsX6_move wsX2_isNode := goodIn_r _ [6, 7, 41, 42, 43, 44, 45] (by decide +kernel) (by decide +kernel)
set_option maxRecDepth 20000 in
theorem gX6_move_X2_isNode_n96 : GoodIn wsX6_move (wsX2_isNode) := ggX6_move_X2_isNode
set_option maxRecDepth 20000 in
theorem ggX6_move_X2_isGroup : GoodIn wsX6_move wsX2_isGroup := goodIn_r _ [10, 11, 12, 3, 5, 4, 6, 7, 41, 42, 43, 44, 45] (by decide +kernel) (by decide +kernel)
set_option maxRecDepth 20000 in
theorem gX6_move_X2_isGroup_n111 : GoodIn wsX6_move (wsX2_isGroup) := ggX6_move_X2_isGroup
set_option maxRecDepth 20000 in
theorem ggX6_move_X2_isWithin : GoodIn wsX6_move wsX2_isWithin := goodIn_r _ [15, 16, 12, 3, 5, 4, 6, 7, 41, 42, 43, 44, 45] (by decide +kernel) (by decide +kernel)
set_option maxRecDepth 20000 in
theorem gX6_move_X2_isWithin_n183 : GoodIn wsX6_move (wsX2_isWithin) := ggX6_move_X2_isWithin
set_option maxRecDepth 20000 in
theorem ggX6_move_X1_keepParent : GoodIn wsX6_move wsX1_keepParent := goodIn_r _ [20, 21, 22, 23, 24, 25, 26, 18, 27, 28, 29, 30, 31, 32, 33, 34, 46, 47, 48, 49, 50, 51, 52, 41, 42, 43, 44, 45] (by decide +kernel) (by decide +kernel)
set_option maxRecDepth 20000 in
theorem gX6_move_X1_keepParent_n186 : GoodIn wsX6_move (wsX1_keepParent) := ggX6_move_X1_keepParent
theorem dX6_move_0 : decode cX6_move 0 = .ok (.aload_n 0, 1) := by decide +kernel
theorem dX6_move_1 : decode cX6_move 1 = .ok (.getfield 19, 3) := by decide +kernel
theorem dX6_move_4 : decode cX6_move 4 = .ok (.iload_n 1, 1) := by decide +kernel
theorem dX6_move_5 : decode cX6_move 5 = .ok (.invokevirtual 96, 3) := by decide +kernel
theorem dX6_move_8 : decode cX6_move 8 = .ok (.ifCond .eq 18, 3) := by decide +kernel
theorem dX6_move_11 : decode cX6_move 11 = .ok (.iload_n 1, 1) := by decide +kernel
theorem dX6_move_12 : decode cX6_move 12 = .ok (.ifCond .eq 14, 3) := by decide +kernel
theorem dX6_move_15 : decode cX6_move 15 = .ok (.aload_n 0, 1) := by decide +kernel
theorem dX6_move_16 : decode cX6_move 16 = .ok (.getfield 19, 3) := by decide +kernel
theorem dX6_move_19 : decode cX6_move 19 = .ok (.iload_n 2, 1) := by decide +kernel
theorem dX6_move_20 : decode cX6_move 20 = .ok (.invokevirtual 111, 3) := by decide +kernel
theorem dX6_move_23 : decode cX6_move 23 = .ok (.ifCond .ne 5, 3) := by decide +kernel
theorem dX6_move_26 : decode cX6_move 26 = .ok (.iconst 0, 1) := by decide +kernel
theorem dX6_move_27 : decode cX6_move 27 = .ok (.ireturn, 1) := by decide +kernel
theorem dX6_move_28 : decode cX6_move 28 = .ok (.aload_n 0, 1) := by decide +kernel
theorem dX6_move_29 : decode cX6_move 29 = .ok (.getfield 19, 3) := by decide +kernel
theorem dX6_move_32 : decode cX6_move 32 = .ok (.getfield 107, 3) := by decide +kernel
theorem dX6_move_35 : decode cX6_move 35 = .ok (.iload_n 1, 1) := by decide +kernel
theorem dX6_move_36 : decode cX6_move 36 = .ok (.iaload, 1) := by decide +kernel
theorem dX6_move_37 : decode cX6_move 37 = .ok (.iload_n 2, 1) := by decide +kernel
theorem dX6_move_38 : decode cX6_move 38 = .ok (.if_icmp .eq 15, 3) := by decide +kernel
theorem dX6_move_41 : decode cX6_move 41 = .ok (.aload_n 0, 1) := by decide +kernel
theorem dX6_move_42 : decode cX6_move 42 = .ok (.getfield 19, 3) := by decide +kernel
theorem dX6_move_45 : decode cX6_move 45 = .ok (.iload_n 2, 1) := by decide +kernel
theorem dX6_move_46 : decode cX6_move 46 = .ok (.iload_n 1, 1) := by decide +kernel
theorem dX6_move_47 : decode cX6_move 47 = .ok (.invokevirtual 183, 3) := by decide +kernel
theorem dX6_move_50 : decode cX6_move 50 = .ok (.ifCond .eq 5, 3) := by decide +kernel
theorem dX6_move_53 : decode cX6_move 53 = .ok (.iconst 0, 1) := by decide +kernel
theorem dX6_move_54 : decode cX6_move 54 = .ok (.ireturn, 1) := by decide +kernel
theorem dX6_move_55 : decode cX6_move 55 = .ok (.aload_n 0, 1) := by decide +kernel
theorem dX6_move_56 : decode cX6_move 56 = .ok (.getfield 47, 3) := by decide +kernel
theorem dX6_move_59 : decode cX6_move 59 = .ok (.iload_n 1, 1) := by decide +kernel
theorem dX6_move_60 : decode cX6_move 60 = .ok (.invokevirtual 186, 3) := by decide +kernel
theorem dX6_move_63 : decode cX6_move 63 = .ok (.aload_n 0, 1) := by decide +kernel
theorem dX6_move_64 : decode cX6_move 64 = .ok (.getfield 19, 3) := by decide +kernel
theorem dX6_move_67 : decode cX6_move 67 = .ok (.getfield 107, 3) := by decide +kernel
theorem dX6_move_70 : decode cX6_move 70 = .ok (.iload_n 1, 1) := by decide +kernel
theorem dX6_move_71 : decode cX6_move 71 = .ok (.iload_n 2, 1) := by decide +kernel
theorem dX6_move_72 : decode cX6_move 72 = .ok (.iastore, 1) := by decide +kernel
theorem dX6_move_73 : decode cX6_move 73 = .ok (.iconst 1, 1) := by decide +kernel
theorem dX6_move_74 : decode cX6_move 74 = .ok (.ireturn, 1) := by decide +kernel
set_option maxRecDepth 20000 in
theorem ggX6_grow_X2_isGroup : GoodIn wsX6_grow wsX2_isGroup := goodIn_r _ [6, 7, 8, 9, 10, 4, 11, 12, 44, 45, 46, 47, 48] (by decide +kernel) (by decide +kernel)
set_option maxRecDepth 20000 in
theorem gX6_grow_X2_isGroup_n111 : GoodIn wsX6_grow (wsX2_isGroup) := ggX6_grow_X2_isGroup
set_option maxRecDepth 20000 in
theorem ggX6_grow_X1_keepGrowth : GoodIn wsX6_grow wsX1_keepGrowth := goodIn_r _ [16, 17, 18, 19, 14, 20, 21, 22, 23, 24, 25, 26, 27, 28, 49, 50, 51, 52, 53, 54, 55] (by decide +kernel) (by decide +kernel)
set_option maxRecDepth 20000 in
theorem gX6_grow_X1_keepGrowth_n189 : GoodIn wsX6_grow (wsX1_keepGrowth) := ggX6_grow_X1_keepGrowth
set_option maxRecDepth 20000 in
theorem ggX6_grow_X2_addLeaf : GoodIn wsX6_grow wsX2_addLeaf := goodIn_r _ [31, 12, 32, 33, 34, 35, 4, 36, 37, 44, 45, 46, 47, 48] (by decide +kernel) (by decide +kernel)
set_option maxRecDepth 20000 in
theorem gX6_grow_X2_addLeaf_n192 : GoodIn wsX6_grow (wsX2_addLeaf) := ggX6_grow_X2_addLeaf
theorem dX6_grow_0 : decode cX6_grow 0 = .ok (.aload_n 0, 1) := by decide +kernel
theorem dX6_grow_1 : decode cX6_grow 1 = .ok (.getfield 19, 3) := by decide +kernel
theorem dX6_grow_4 : decode cX6_grow 4 = .ok (.iload_n 1, 1) := by decide +kernel
theorem dX6_grow_5 : decode cX6_grow 5 = .ok (.invokevirtual 111, 3) := by decide +kernel
theorem dX6_grow_8 : decode cX6_grow 8 = .ok (.ifCond .ne 5, 3) := by decide +kernel
theorem dX6_grow_11 : decode cX6_grow 11 = .ok (.iconst (-1), 1) := by decide +kernel
theorem dX6_grow_12 : decode cX6_grow 12 = .ok (.ireturn, 1) := by decide +kernel
theorem dX6_grow_13 : decode cX6_grow 13 = .ok (.aload_n 0, 1) := by decide +kernel
theorem dX6_grow_14 : decode cX6_grow 14 = .ok (.getfield 19, 3) := by decide +kernel
theorem dX6_grow_17 : decode cX6_grow 17 = .ok (.getfield 81, 3) := by decide +kernel
theorem dX6_grow_20 : decode cX6_grow 20 = .ok (.bipush 20, 2) := by decide +kernel
theorem dX6_grow_22 : decode cX6_grow 22 = .ok (.if_icmp .lt 6, 3) := by decide +kernel
theorem dX6_grow_25 : decode cX6_grow 25 = .ok (.bipush (-2), 2) := by decide +kernel
theorem dX6_grow_27 : decode cX6_grow 27 = .ok (.ireturn, 1) := by decide +kernel
theorem dX6_grow_28 : decode cX6_grow 28 = .ok (.aload_n 0, 1) := by decide +kernel
theorem dX6_grow_29 : decode cX6_grow 29 = .ok (.getfield 47, 3) := by decide +kernel
theorem dX6_grow_32 : decode cX6_grow 32 = .ok (.invokevirtual 189, 3) := by decide +kernel
theorem dX6_grow_35 : decode cX6_grow 35 = .ok (.aload_n 0, 1) := by decide +kernel
theorem dX6_grow_36 : decode cX6_grow 36 = .ok (.getfield 19, 3) := by decide +kernel
theorem dX6_grow_39 : decode cX6_grow 39 = .ok (.iload_n 1, 1) := by decide +kernel
theorem dX6_grow_40 : decode cX6_grow 40 = .ok (.invokevirtual 192, 3) := by decide +kernel
theorem dX6_grow_43 : decode cX6_grow 43 = .ok (.ireturn, 1) := by decide +kernel
set_option maxRecDepth 20000 in
theorem ggX6_undo_X1_takeBack : GoodIn wsX6_undo wsX1_takeBack := goodIn_r _ [5, 6, 7, 8, 9, 10, 11, 12, 13, 14, 15, 16, 17, 18, 19, 20, 21, 28, 29, 30, 31, 32, 33, 34, 35, 36, 37, 38, 39] (by decide +kernel) (by decide +kernel)
set_option maxRecDepth 20000 in
theorem gX6_undo_X1_takeBack_n195 : GoodIn wsX6_undo (wsX1_takeBack) := ggX6_undo_X1_takeBack
theorem dX6_undo_0 : decode cX6_undo 0 = .ok (.aload_n 0, 1) := by decide +kernel
theorem dX6_undo_1 : decode cX6_undo 1 = .ok (.getfield 47, 3) := by decide +kernel
theorem dX6_undo_4 : decode cX6_undo 4 = .ok (.getfield 93, 3) := by decide +kernel
theorem dX6_undo_7 : decode cX6_undo 7 = .ok (.ifCond .ne 5, 3) := by decide +kernel
theorem dX6_undo_10 : decode cX6_undo 10 = .ok (.iconst (-1), 1) := by decide +kernel
theorem dX6_undo_11 : decode cX6_undo 11 = .ok (.ireturn, 1) := by decide +kernel
theorem dX6_undo_12 : decode cX6_undo 12 = .ok (.aload_n 0, 1) := by decide +kernel
theorem dX6_undo_13 : decode cX6_undo 13 = .ok (.getfield 47, 3) := by decide +kernel
theorem dX6_undo_16 : decode cX6_undo 16 = .ok (.invokevirtual 195, 3) := by decide +kernel
theorem dX6_undo_19 : decode cX6_undo 19 = .ok (.aload_n 0, 1) := by decide +kernel
theorem dX6_undo_20 : decode cX6_undo 20 = .ok (.getfield 47, 3) := by decide +kernel
theorem dX6_undo_23 : decode cX6_undo 23 = .ok (.getfield 93, 3) := by decide +kernel
theorem dX6_undo_26 : decode cX6_undo 26 = .ok (.ireturn, 1) := by decide +kernel
theorem dX6_isFactor_0 : decode cX6_isFactor 0 = .ok (.iload_n 0, 1) := by decide +kernel
theorem dX6_isFactor_1 : decode cX6_isFactor 1 = .ok (.ifCond .lt 12, 3) := by decide +kernel
theorem dX6_isFactor_4 : decode cX6_isFactor 4 = .ok (.iload_n 0, 1) := by decide +kernel
theorem dX6_isFactor_5 : decode cX6_isFactor 5 = .ok (.iconst 5, 1) := by decide +kernel
theorem dX6_isFactor_6 : decode cX6_isFactor 6 = .ok (.if_icmp .ge 7, 3) := by decide +kernel
theorem dX6_isFactor_9 : decode cX6_isFactor 9 = .ok (.iconst 1, 1) := by decide +kernel
theorem dX6_isFactor_10 : decode cX6_isFactor 10 = .ok (.goto 4, 3) := by decide +kernel
theorem dX6_isFactor_13 : decode cX6_isFactor 13 = .ok (.iconst 0, 1) := by decide +kernel
theorem dX6_isFactor_14 : decode cX6_isFactor 14 = .ok (.ireturn, 1) := by decide +kernel
set_option maxRecDepth 20000 in
theorem ggX6_isFactorValue_X6_isFactor : GoodIn wsX6_isFactorValue wsX6_isFactor := goodIn_r _ [6] (by decide +kernel) (by decide +kernel)
set_option maxRecDepth 20000 in
theorem gX6_isFactorValue_X6_isFactor : GoodIn wsX6_isFactorValue (va_wsS RX6 123 yX6_isFactor wsX6_isFactor) := goodIn_app (goodIn_of _ (by decide +kernel)) ggX6_isFactorValue_X6_isFactor
theorem dX6_isFactorValue_0 : decode cX6_isFactorValue 0 = .ok (.iload_n 0, 1) := by decide +kernel
theorem dX6_isFactorValue_1 : decode cX6_isFactorValue 1 = .ok (.invokestatic 123, 3) := by decide +kernel
theorem dX6_isFactorValue_4 : decode cX6_isFactorValue 4 = .ok (.ifCond .eq 25, 3) := by decide +kernel
theorem dX6_isFactorValue_7 : decode cX6_isFactorValue 7 = .ok (.iload_n 1, 1) := by decide +kernel
theorem dX6_isFactorValue_8 : decode cX6_isFactorValue 8 = .ok (.getstatic 198, 3) := by decide +kernel
theorem dX6_isFactorValue_11 : decode cX6_isFactorValue 11 = .ok (.iload_n 0, 1) := by decide +kernel
theorem dX6_isFactorValue_12 : decode cX6_isFactorValue 12 = .ok (.iaload, 1) := by decide +kernel
theorem dX6_isFactorValue_13 : decode cX6_isFactorValue 13 = .ok (.if_icmp .lt 16, 3) := by decide +kernel
theorem dX6_isFactorValue_16 : decode cX6_isFactorValue 16 = .ok (.iload_n 1, 1) := by decide +kernel
theorem dX6_isFactorValue_17 : decode cX6_isFactorValue 17 = .ok (.getstatic 201, 3) := by decide +kernel
theorem dX6_isFactorValue_20 : decode cX6_isFactorValue 20 = .ok (.iload_n 0, 1) := by decide +kernel
theorem dX6_isFactorValue_21 : decode cX6_isFactorValue 21 = .ok (.iaload, 1) := by decide +kernel
theorem dX6_isFactorValue_22 : decode cX6_isFactorValue 22 = .ok (.if_icmp .gt 7, 3) := by decide +kernel
theorem dX6_isFactorValue_25 : decode cX6_isFactorValue 25 = .ok (.iconst 1, 1) := by decide +kernel
theorem dX6_isFactorValue_26 : decode cX6_isFactorValue 26 = .ok (.goto 4, 3) := by decide +kernel
theorem dX6_isFactorValue_29 : decode cX6_isFactorValue 29 = .ok (.iconst 0, 1) := by decide +kernel
theorem dX6_isFactorValue_30 : decode cX6_isFactorValue 30 = .ok (.ireturn, 1) := by decide +kernel
theorem dX6_isOrder_0 : decode cX6_isOrder 0 = .ok (.iload_n 0, 1) := by decide +kernel
theorem dX6_isOrder_1 : decode cX6_isOrder 1 = .ok (.ifCond .lt 13, 3) := by decide +kernel
theorem dX6_isOrder_4 : decode cX6_isOrder 4 = .ok (.iload_n 0, 1) := by decide +kernel
theorem dX6_isOrder_5 : decode cX6_isOrder 5 = .ok (.bipush 120, 2) := by decide +kernel
theorem dX6_isOrder_7 : decode cX6_isOrder 7 = .ok (.if_icmp .ge 7, 3) := by decide +kernel
theorem dX6_isOrder_10 : decode cX6_isOrder 10 = .ok (.iconst 1, 1) := by decide +kernel
theorem dX6_isOrder_11 : decode cX6_isOrder 11 = .ok (.goto 4, 3) := by decide +kernel
theorem dX6_isOrder_14 : decode cX6_isOrder 14 = .ok (.iconst 0, 1) := by decide +kernel
theorem dX6_isOrder_15 : decode cX6_isOrder 15 = .ok (.ireturn, 1) := by decide +kernel
theorem dX6_marginOf_0 : decode cX6_marginOf 0 = .ok (.iload_n 3, 1) := by decide +kernel
theorem dX6_marginOf_1 : decode cX6_marginOf 1 = .ok (.ifCond .ne 5, 3) := by decide +kernel
theorem dX6_marginOf_4 : decode cX6_marginOf 4 = .ok (.iconst 0, 1) := by decide +kernel
theorem dX6_marginOf_5 : decode cX6_marginOf 5 = .ok (.ireturn, 1) := by decide +kernel
theorem dX6_marginOf_6 : decode cX6_marginOf 6 = .ok (.iload_n 0, 1) := by decide +kernel
theorem dX6_marginOf_7 : decode cX6_marginOf 7 = .ok (.iload_n 2, 1) := by decide +kernel
theorem dX6_marginOf_8 : decode cX6_marginOf 8 = .ok (.imul, 1) := by decide +kernel
theorem dX6_marginOf_9 : decode cX6_marginOf 9 = .ok (.bipush 100, 2) := by decide +kernel
theorem dX6_marginOf_11 : decode cX6_marginOf 11 = .ok (.idiv, 1) := by decide +kernel
theorem dX6_marginOf_12 : decode cX6_marginOf 12 = .ok (.iload_n 1, 1) := by decide +kernel
theorem dX6_marginOf_13 : decode cX6_marginOf 13 = .ok (.bipush 100, 2) := by decide +kernel
theorem dX6_marginOf_15 : decode cX6_marginOf 15 = .ok (.imul, 1) := by decide +kernel
theorem dX6_marginOf_16 : decode cX6_marginOf 16 = .ok (.iload_n 3, 1) := by decide +kernel
theorem dX6_marginOf_17 : decode cX6_marginOf 17 = .ok (.idiv, 1) := by decide +kernel
theorem dX6_marginOf_18 : decode cX6_marginOf 18 = .ok (.isub, 1) := by decide +kernel
theorem dX6_marginOf_19 : decode cX6_marginOf 19 = .ok (.ireturn, 1) := by decide +kernel
set_option maxRecDepth 20000 in
theorem ggX6_digitsOfOrder_X6_factorAt : GoodIn wsX6_digitsOfOrder wsX6_factorAt := goodIn_r _ [4, 5] (by decide +kernel) (by decide +kernel)
set_option maxRecDepth 20000 in
theorem gX6_digitsOfOrder_X6_factorAt : GoodIn wsX6_digitsOfOrder (va_wsS RX6 204 yX6_factorAt wsX6_factorAt) := goodIn_app (goodIn_of _ (by decide +kernel)) ggX6_digitsOfOrder_X6_factorAt
theorem dX6_digitsOfOrder_0 : decode cX6_digitsOfOrder 0 = .ok (.iconst 0, 1) := by decide +kernel
theorem dX6_digitsOfOrder_1 : decode cX6_digitsOfOrder 1 = .ok (.istore_n 1, 1) := by decide +kernel
theorem dX6_digitsOfOrder_2 : decode cX6_digitsOfOrder 2 = .ok (.iconst 0, 1) := by decide +kernel
theorem dX6_digitsOfOrder_3 : decode cX6_digitsOfOrder 3 = .ok (.istore_n 2, 1) := by decide +kernel
theorem dX6_digitsOfOrder_4 : decode cX6_digitsOfOrder 4 = .ok (.iconst 0, 1) := by decide +kernel
theorem dX6_digitsOfOrder_5 : decode cX6_digitsOfOrder 5 = .ok (.istore_n 3, 1) := by decide +kernel
theorem dX6_digitsOfOrder_6 : decode cX6_digitsOfOrder 6 = .ok (.iload_n 3, 1) := by decide +kernel
theorem dX6_digitsOfOrder_7 : decode cX6_digitsOfOrder 7 = .ok (.iconst 5, 1) := by decide +kernel
theorem dX6_digitsOfOrder_8 : decode cX6_digitsOfOrder 8 = .ok (.if_icmp .ge 32, 3) := by decide +kernel
theorem dX6_digitsOfOrder_11 : decode cX6_digitsOfOrder 11 = .ok (.iload_n 0, 1) := by decide +kernel
theorem dX6_digitsOfOrder_12 : decode cX6_digitsOfOrder 12 = .ok (.iload_n 3, 1) := by decide +kernel
theorem dX6_digitsOfOrder_13 : decode cX6_digitsOfOrder 13 = .ok (.iload_n 2, 1) := by decide +kernel
theorem dX6_digitsOfOrder_14 : decode cX6_digitsOfOrder 14 = .ok (.invokestatic 204, 3) := by decide +kernel
theorem dX6_digitsOfOrder_17 : decode cX6_digitsOfOrder 17 = .ok (.istore 4, 2) := by decide +kernel
theorem dX6_digitsOfOrder_19 : decode cX6_digitsOfOrder 19 = .ok (.iload_n 1, 1) := by decide +kernel
theorem dX6_digitsOfOrder_20 : decode cX6_digitsOfOrder 20 = .ok (.bipush 10, 2) := by decide +kernel
theorem dX6_digitsOfOrder_22 : decode cX6_digitsOfOrder 22 = .ok (.imul, 1) := by decide +kernel
theorem dX6_digitsOfOrder_23 : decode cX6_digitsOfOrder 23 = .ok (.iload 4, 2) := by decide +kernel
theorem dX6_digitsOfOrder_25 : decode cX6_digitsOfOrder 25 = .ok (.iadd, 1) := by decide +kernel
theorem dX6_digitsOfOrder_26 : decode cX6_digitsOfOrder 26 = .ok (.istore_n 1, 1) := by decide +kernel
theorem dX6_digitsOfOrder_27 : decode cX6_digitsOfOrder 27 = .ok (.iload_n 2, 1) := by decide +kernel
theorem dX6_digitsOfOrder_28 : decode cX6_digitsOfOrder 28 = .ok (.iconst 1, 1) := by decide +kernel
theorem dX6_digitsOfOrder_29 : decode cX6_digitsOfOrder 29 = .ok (.iload 4, 2) := by decide +kernel
theorem dX6_digitsOfOrder_31 : decode cX6_digitsOfOrder 31 = .ok (.ishl, 1) := by decide +kernel
theorem dX6_digitsOfOrder_32 : decode cX6_digitsOfOrder 32 = .ok (.ior, 1) := by decide +kernel
theorem dX6_digitsOfOrder_33 : decode cX6_digitsOfOrder 33 = .ok (.istore_n 2, 1) := by decide +kernel
theorem dX6_digitsOfOrder_34 : decode cX6_digitsOfOrder 34 = .ok (.iinc 3 1, 3) := by decide +kernel
theorem dX6_digitsOfOrder_37 : decode cX6_digitsOfOrder 37 = .ok (.goto (-31), 3) := by decide +kernel
theorem dX6_digitsOfOrder_40 : decode cX6_digitsOfOrder 40 = .ok (.iload_n 1, 1) := by decide +kernel
theorem dX6_digitsOfOrder_41 : decode cX6_digitsOfOrder 41 = .ok (.ireturn, 1) := by decide +kernel
set_option maxRecDepth 20000 in
theorem ggX6_aheadInOrder_X6_factorAt : GoodIn wsX6_aheadInOrder wsX6_factorAt := goodIn_r _ [4, 5] (by decide +kernel) (by decide +kernel)
set_option maxRecDepth 20000 in
theorem gX6_aheadInOrder_X6_factorAt : GoodIn wsX6_aheadInOrder (va_wsS RX6 204 yX6_factorAt wsX6_factorAt) := goodIn_app (goodIn_of _ (by decide +kernel)) ggX6_aheadInOrder_X6_factorAt
theorem dX6_aheadInOrder_0 : decode cX6_aheadInOrder 0 = .ok (.iconst 0, 1) := by decide +kernel
theorem dX6_aheadInOrder_1 : decode cX6_aheadInOrder 1 = .ok (.istore_n 2, 1) := by decide +kernel
theorem dX6_aheadInOrder_2 : decode cX6_aheadInOrder 2 = .ok (.iconst 0, 1) := by decide +kernel
theorem dX6_aheadInOrder_3 : decode cX6_aheadInOrder 3 = .ok (.istore_n 3, 1) := by decide +kernel
theorem dX6_aheadInOrder_4 : decode cX6_aheadInOrder 4 = .ok (.iload_n 3, 1) := by decide +kernel
theorem dX6_aheadInOrder_5 : decode cX6_aheadInOrder 5 = .ok (.iconst 5, 1) := by decide +kernel
theorem dX6_aheadInOrder_6 : decode cX6_aheadInOrder 6 = .ok (.if_icmp .ge 33, 3) := by decide +kernel
theorem dX6_aheadInOrder_9 : decode cX6_aheadInOrder 9 = .ok (.iload_n 0, 1) := by decide +kernel
theorem dX6_aheadInOrder_10 : decode cX6_aheadInOrder 10 = .ok (.iload_n 3, 1) := by decide +kernel
theorem dX6_aheadInOrder_11 : decode cX6_aheadInOrder 11 = .ok (.iload_n 2, 1) := by decide +kernel
theorem dX6_aheadInOrder_12 : decode cX6_aheadInOrder 12 = .ok (.invokestatic 204, 3) := by decide +kernel
theorem dX6_aheadInOrder_15 : decode cX6_aheadInOrder 15 = .ok (.istore 4, 2) := by decide +kernel
theorem dX6_aheadInOrder_17 : decode cX6_aheadInOrder 17 = .ok (.iload 4, 2) := by decide +kernel
theorem dX6_aheadInOrder_19 : decode cX6_aheadInOrder 19 = .ok (.iload_n 1, 1) := by decide +kernel
theorem dX6_aheadInOrder_20 : decode cX6_aheadInOrder 20 = .ok (.if_icmp .ne 6, 3) := by decide +kernel
theorem dX6_aheadInOrder_23 : decode cX6_aheadInOrder 23 = .ok (.goto 16, 3) := by decide +kernel
theorem dX6_aheadInOrder_26 : decode cX6_aheadInOrder 26 = .ok (.iload_n 2, 1) := by decide +kernel
theorem dX6_aheadInOrder_27 : decode cX6_aheadInOrder 27 = .ok (.iconst 1, 1) := by decide +kernel
theorem dX6_aheadInOrder_28 : decode cX6_aheadInOrder 28 = .ok (.iload 4, 2) := by decide +kernel
theorem dX6_aheadInOrder_30 : decode cX6_aheadInOrder 30 = .ok (.ishl, 1) := by decide +kernel
theorem dX6_aheadInOrder_31 : decode cX6_aheadInOrder 31 = .ok (.ior, 1) := by decide +kernel
theorem dX6_aheadInOrder_32 : decode cX6_aheadInOrder 32 = .ok (.istore_n 2, 1) := by decide +kernel
theorem dX6_aheadInOrder_33 : decode cX6_aheadInOrder 33 = .ok (.iinc 3 1, 3) := by decide +kernel
theorem dX6_aheadInOrder_36 : decode cX6_aheadInOrder 36 = .ok (.goto (-32), 3) := by decide +kernel
theorem dX6_aheadInOrder_39 : decode cX6_aheadInOrder 39 = .ok (.iload_n 2, 1) := by decide +kernel
theorem dX6_aheadInOrder_40 : decode cX6_aheadInOrder 40 = .ok (.ireturn, 1) := by decide +kernel
theorem dX6_factorAt_0 : decode cX6_factorAt 0 = .ok (.iload_n 0, 1) := by decide +kernel
theorem dX6_factorAt_1 : decode cX6_factorAt 1 = .ok (.getstatic 207, 3) := by decide +kernel
theorem dX6_factorAt_4 : decode cX6_factorAt 4 = .ok (.iload_n 1, 1) := by decide +kernel
theorem dX6_factorAt_5 : decode cX6_factorAt 5 = .ok (.iaload, 1) := by decide +kernel
theorem dX6_factorAt_6 : decode cX6_factorAt 6 = .ok (.idiv, 1) := by decide +kernel
theorem dX6_factorAt_7 : decode cX6_factorAt 7 = .ok (.iconst 5, 1) := by decide +kernel
theorem dX6_factorAt_8 : decode cX6_factorAt 8 = .ok (.iload_n 1, 1) := by decide +kernel
theorem dX6_factorAt_9 : decode cX6_factorAt 9 = .ok (.isub, 1) := by decide +kernel
theorem dX6_factorAt_10 : decode cX6_factorAt 10 = .ok (.irem, 1) := by decide +kernel
theorem dX6_factorAt_11 : decode cX6_factorAt 11 = .ok (.istore_n 3, 1) := by decide +kernel
theorem dX6_factorAt_12 : decode cX6_factorAt 12 = .ok (.iconst 0, 1) := by decide +kernel
theorem dX6_factorAt_13 : decode cX6_factorAt 13 = .ok (.istore 4, 2) := by decide +kernel
theorem dX6_factorAt_15 : decode cX6_factorAt 15 = .ok (.iconst 0, 1) := by decide +kernel
theorem dX6_factorAt_16 : decode cX6_factorAt 16 = .ok (.istore 5, 2) := by decide +kernel
theorem dX6_factorAt_18 : decode cX6_factorAt 18 = .ok (.iload 5, 2) := by decide +kernel
theorem dX6_factorAt_20 : decode cX6_factorAt 20 = .ok (.iconst 5, 1) := by decide +kernel
theorem dX6_factorAt_21 : decode cX6_factorAt 21 = .ok (.if_icmp .ge 32, 3) := by decide +kernel
theorem dX6_factorAt_24 : decode cX6_factorAt 24 = .ok (.iload_n 2, 1) := by decide +kernel
theorem dX6_factorAt_25 : decode cX6_factorAt 25 = .ok (.iload 5, 2) := by decide +kernel
theorem dX6_factorAt_27 : decode cX6_factorAt 27 = .ok (.ishr, 1) := by decide +kernel
theorem dX6_factorAt_28 : decode cX6_factorAt 28 = .ok (.iconst 1, 1) := by decide +kernel
theorem dX6_factorAt_29 : decode cX6_factorAt 29 = .ok (.iand, 1) := by decide +kernel
theorem dX6_factorAt_30 : decode cX6_factorAt 30 = .ok (.ifCond .ne 17, 3) := by decide +kernel
theorem dX6_factorAt_33 : decode cX6_factorAt 33 = .ok (.iload_n 3, 1) := by decide +kernel
theorem dX6_factorAt_34 : decode cX6_factorAt 34 = .ok (.ifCond .ne 10, 3) := by decide +kernel
theorem dX6_factorAt_37 : decode cX6_factorAt 37 = .ok (.iload 5, 2) := by decide +kernel
theorem dX6_factorAt_39 : decode cX6_factorAt 39 = .ok (.istore 4, 2) := by decide +kernel
theorem dX6_factorAt_41 : decode cX6_factorAt 41 = .ok (.goto 12, 3) := by decide +kernel
theorem dX6_factorAt_44 : decode cX6_factorAt 44 = .ok (.iinc 3 (-1), 3) := by decide +kernel
theorem dX6_factorAt_47 : decode cX6_factorAt 47 = .ok (.iinc 5 1, 3) := by decide +kernel
theorem dX6_factorAt_50 : decode cX6_factorAt 50 = .ok (.goto (-32), 3) := by decide +kernel
theorem dX6_factorAt_53 : decode cX6_factorAt 53 = .ok (.iload 4, 2) := by decide +kernel
theorem dX6_factorAt_55 : decode cX6_factorAt 55 = .ok (.ireturn, 1) := by decide +kernel
