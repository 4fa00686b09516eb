theorem dX7_thrown_0 : decode cX7_thrown 0 = .ok (.aload_n 0, 1) := by decide +kernel
theorem dX7_thrown_1 : decode cX7_thrown 1 = .ok (.getfield 1, 3) := by decide +kernel
theorem dX7_thrown_4 : decode cX7_thrown 4 = .ok (.ireturn, 1) := by decide +kernel
theorem dX7_refuse_0 : decode cX7_refuse 0 = .ok (.aload_n 0, 1) := by decide +kernel
theorem dX7_refuse_1 : decode cX7_refuse 1 = .ok (.iconst 1, 1) := by decide +kernel
theorem dX7_refuse_2 : decode cX7_refuse 2 = .ok (.putfield 1, 3) := by decide +kernel
theorem dX7_refuse_5 : decode cX7_refuse 5 = .ok (.iconst 0, 1) := by decide +kernel
theorem dX7_refuse_6 : decode cX7_refuse 6 = .ok (.ireturn, 1) := by decide +kernel
theorem dX7_isIn_0 : decode cX7_isIn 0 = .ok (.iload_n 0, 1) := by decide +kernel
theorem dX7_isIn_1 : decode cX7_isIn 1 = .ok (.iload_n 1, 1) := by decide +kernel
theorem dX7_isIn_2 : decode cX7_isIn 2 = .ok (.if_icmp .lt 12, 3) := by decide +kernel
theorem dX7_isIn_5 : decode cX7_isIn 5 = .ok (.iload_n 0, 1) := by decide +kernel
theorem dX7_isIn_6 : decode cX7_isIn 6 = .ok (.iload_n 2, 1) := by decide +kernel
theorem dX7_isIn_7 : decode cX7_isIn 7 = .ok (.if_icmp .gt 7, 3) := by decide +kernel
theorem dX7_isIn_10 : decode cX7_isIn 10 = .ok (.iconst 1, 1) := by decide +kernel
theorem dX7_isIn_11 : decode cX7_isIn 11 = .ok (.goto 4, 3) := by decide +kernel
theorem dX7_isIn_14 : decode cX7_isIn 14 = .ok (.iconst 0, 1) := by decide +kernel
theorem dX7_isIn_15 : decode cX7_isIn 15 = .ok (.ireturn, 1) := by decide +kernel
theorem dX7_lays_0 : decode cX7_lays 0 = .ok (.bipush 24, 2) := by decide +kernel
theorem dX7_lays_2 : decode cX7_lays 2 = .ok (.istore_n 2, 1) := by decide +kernel
theorem dX7_lays_3 : decode cX7_lays 3 = .ok (.iload_n 2, 1) := by decide +kernel
theorem dX7_lays_4 : decode cX7_lays 4 = .ok (.ifCond .lt 35, 3) := by decide +kernel
theorem dX7_lays_7 : decode cX7_lays 7 = .ok (.aload_n 0, 1) := by decide +kernel
theorem dX7_lays_8 : decode cX7_lays 8 = .ok (.getfield 7, 3) := by decide +kernel
theorem dX7_lays_11 : decode cX7_lays 11 = .ok (.aload_n 0, 1) := by decide +kernel
theorem dX7_lays_12 : decode cX7_lays 12 = .ok (.getfield 11, 3) := by decide +kernel
theorem dX7_lays_15 : decode cX7_lays 15 = .ok (.iload_n 1, 1) := by decide +kernel
theorem dX7_lays_16 : decode cX7_lays 16 = .ok (.iload_n 2, 1) := by decide +kernel
theorem dX7_lays_17 : decode cX7_lays 17 = .ok (.iushr, 1) := by decide +kernel
theorem dX7_lays_18 : decode cX7_lays 18 = .ok (.sipush 255, 3) := by decide +kernel
theorem dX7_lays_21 : decode cX7_lays 21 = .ok (.iand, 1) := by decide +kernel
theorem dX7_lays_22 : decode cX7_lays 22 = .ok (.iastore, 1) := by decide +kernel
theorem dX7_lays_23 : decode cX7_lays 23 = .ok (.aload_n 0, 1) := by decide +kernel
theorem dX7_lays_24 : decode cX7_lays 24 = .ok (.dup, 1) := by decide +kernel
theorem dX7_lays_25 : decode cX7_lays 25 = .ok (.getfield 11, 3) := by decide +kernel
theorem dX7_lays_28 : decode cX7_lays 28 = .ok (.iconst 1, 1) := by decide +kernel
theorem dX7_lays_29 : decode cX7_lays 29 = .ok (.iadd, 1) := by decide +kernel
theorem dX7_lays_30 : decode cX7_lays 30 = .ok (.putfield 11, 3) := by decide +kernel
theorem dX7_lays_33 : decode cX7_lays 33 = .ok (.iinc 2 (-8), 3) := by decide +kernel
theorem dX7_lays_36 : decode cX7_lays 36 = .ok (.goto (-33), 3) := by decide +kernel
theorem dX7_lays_39 : decode cX7_lays 39 = .ok (.return_, 1) := by decide +kernel
set_option maxRecDepth 20000 in
theorem ggX7_feed_X7_lays : GoodIn wsX7_feed wsX7_lays := goodIn_r _ [7, 8, 2, 9, 10, 11, 12, 13, 14, 15, 16, 17, 18, 19, 20, 21, 22, 23, 24, 25] (by decide +kernel) (by decide +kernel)
set_option maxRecDepth 20000 in
theorem gX7_feed_X7_lays : GoodIn wsX7_feed (wsV RX7 14 RX7 yX7_lays wsX7_lays) := goodIn_app (goodIn_of _ (by decide +kernel)) ggX7_feed_X7_lays
theorem dX7_feed_0 : decode cX7_feed 0 = .ok (.aload_n 0, 1) := by decide +kernel
theorem dX7_feed_1 : decode cX7_feed 1 = .ok (.iconst 0, 1) := by decide +kernel
theorem dX7_feed_2 : decode cX7_feed 2 = .ok (.putfield 1, 3) := by decide +kernel
theorem dX7_feed_5 : decode cX7_feed 5 = .ok (.aload_n 0, 1) := by decide +kernel
theorem dX7_feed_6 : decode cX7_feed 6 = .ok (.getfield 11, 3) := by decide +kernel
theorem dX7_feed_9 : decode cX7_feed 9 = .ok (.bipush 20, 2) := by decide +kernel
theorem dX7_feed_11 : decode cX7_feed 11 = .ok (.iadd, 1) := by decide +kernel
theorem dX7_feed_12 : decode cX7_feed 12 = .ok (.sipush 640, 3) := by decide +kernel
theorem dX7_feed_15 : decode cX7_feed 15 = .ok (.if_icmp .le 5, 3) := by decide +kernel
theorem dX7_feed_18 : decode cX7_feed 18 = .ok (.iconst (-1), 1) := by decide +kernel
theorem dX7_feed_19 : decode cX7_feed 19 = .ok (.ireturn, 1) := by decide +kernel
theorem dX7_feed_20 : decode cX7_feed 20 = .ok (.aload_n 0, 1) := by decide +kernel
theorem dX7_feed_21 : decode cX7_feed 21 = .ok (.iload_n 1, 1) := by decide +kernel
theorem dX7_feed_22 : decode cX7_feed 22 = .ok (.invokevirtual 14, 3) := by decide +kernel
theorem dX7_feed_25 : decode cX7_feed 25 = .ok (.aload_n 0, 1) := by decide +kernel
theorem dX7_feed_26 : decode cX7_feed 26 = .ok (.iload_n 2, 1) := by decide +kernel
theorem dX7_feed_27 : decode cX7_feed 27 = .ok (.invokevirtual 14, 3) := by decide +kernel
theorem dX7_feed_30 : decode cX7_feed 30 = .ok (.aload_n 0, 1) := by decide +kernel
theorem dX7_feed_31 : decode cX7_feed 31 = .ok (.iload_n 3, 1) := by decide +kernel
theorem dX7_feed_32 : decode cX7_feed 32 = .ok (.invokevirtual 14, 3) := by decide +kernel
theorem dX7_feed_35 : decode cX7_feed 35 = .ok (.aload_n 0, 1) := by decide +kernel
theorem dX7_feed_36 : decode cX7_feed 36 = .ok (.iload 4, 2) := by decide +kernel
theorem dX7_feed_38 : decode cX7_feed 38 = .ok (.invokevirtual 14, 3) := by decide +kernel
theorem dX7_feed_41 : decode cX7_feed 41 = .ok (.aload_n 0, 1) := by decide +kernel
theorem dX7_feed_42 : decode cX7_feed 42 = .ok (.iload 5, 2) := by decide +kernel
theorem dX7_feed_44 : decode cX7_feed 44 = .ok (.invokevirtual 14, 3) := by decide +kernel
theorem dX7_feed_47 : decode cX7_feed 47 = .ok (.aload_n 0, 1) := by decide +kernel
theorem dX7_feed_48 : decode cX7_feed 48 = .ok (.getfield 11, 3) := by decide +kernel
theorem dX7_feed_51 : decode cX7_feed 51 = .ok (.ireturn, 1) := by decide +kernel
theorem dX7_end_0 : decode cX7_end 0 = .ok (.aload_n 0, 1) := by decide +kernel
theorem dX7_end_1 : decode cX7_end 1 = .ok (.iconst 0, 1) := by decide +kernel
theorem dX7_end_2 : decode cX7_end 2 = .ok (.putfield 1, 3) := by decide +kernel
theorem dX7_end_5 : decode cX7_end 5 = .ok (.iload_n 1, 1) := by decide +kernel
theorem dX7_end_6 : decode cX7_end 6 = .ok (.ifCond .lt 11, 3) := by decide +kernel
theorem dX7_end_9 : decode cX7_end 9 = .ok (.iload_n 1, 1) := by decide +kernel
theorem dX7_end_10 : decode cX7_end 10 = .ok (.aload_n 0, 1) := by decide +kernel
theorem dX7_end_11 : decode cX7_end 11 = .ok (.getfield 11, 3) := by decide +kernel
theorem dX7_end_14 : decode cX7_end 14 = .ok (.if_icmp .le 5, 3) := by decide +kernel
theorem dX7_end_17 : decode cX7_end 17 = .ok (.iconst 0, 1) := by decide +kernel
theorem dX7_end_18 : decode cX7_end 18 = .ok (.ireturn, 1) := by decide +kernel
theorem dX7_end_19 : decode cX7_end 19 = .ok (.aload_n 0, 1) := by decide +kernel
theorem dX7_end_20 : decode cX7_end 20 = .ok (.iload_n 1, 1) := by decide +kernel
theorem dX7_end_21 : decode cX7_end 21 = .ok (.putfield 11, 3) := by decide +kernel
theorem dX7_end_24 : decode cX7_end 24 = .ok (.iconst 1, 1) := by decide +kernel
theorem dX7_end_25 : decode cX7_end 25 = .ok (.ireturn, 1) := by decide +kernel
theorem dX7_tapeAt_0 : decode cX7_tapeAt 0 = .ok (.iload_n 1, 1) := by decide +kernel
theorem dX7_tapeAt_1 : decode cX7_tapeAt 1 = .ok (.aload_n 0, 1) := by decide +kernel
theorem dX7_tapeAt_2 : decode cX7_tapeAt 2 = .ok (.getfield 18, 3) := by decide +kernel
theorem dX7_tapeAt_5 : decode cX7_tapeAt 5 = .ok (.if_icmp .ge 12, 3) := by decide +kernel
theorem dX7_tapeAt_8 : decode cX7_tapeAt 8 = .ok (.aload_n 0, 1) := by decide +kernel
theorem dX7_tapeAt_9 : decode cX7_tapeAt 9 = .ok (.getfield 7, 3) := by decide +kernel
theorem dX7_tapeAt_12 : decode cX7_tapeAt 12 = .ok (.iload_n 1, 1) := by decide +kernel
theorem dX7_tapeAt_13 : decode cX7_tapeAt 13 = .ok (.iaload, 1) := by decide +kernel
theorem dX7_tapeAt_14 : decode cX7_tapeAt 14 = .ok (.goto 4, 3) := by decide +kernel
theorem dX7_tapeAt_17 : decode cX7_tapeAt 17 = .ok (.iconst 0, 1) := by decide +kernel
theorem dX7_tapeAt_18 : decode cX7_tapeAt 18 = .ok (.ireturn, 1) := by decide +kernel
theorem dX7_isDigit_0 : decode cX7_isDigit 0 = .ok (.iload_n 0, 1) := by decide +kernel
theorem dX7_isDigit_1 : decode cX7_isDigit 1 = .ok (.bipush 48, 2) := by decide +kernel
theorem dX7_isDigit_3 : decode cX7_isDigit 3 = .ok (.if_icmp .lt 13, 3) := by decide +kernel
theorem dX7_isDigit_6 : decode cX7_isDigit 6 = .ok (.iload_n 0, 1) := by decide +kernel
theorem dX7_isDigit_7 : decode cX7_isDigit 7 = .ok (.bipush 57, 2) := by decide +kernel
theorem dX7_isDigit_9 : decode cX7_isDigit 9 = .ok (.if_icmp .gt 7, 3) := by decide +kernel
theorem dX7_isDigit_12 : decode cX7_isDigit 12 = .ok (.iconst 1, 1) := by decide +kernel
theorem dX7_isDigit_13 : decode cX7_isDigit 13 = .ok (.goto 4, 3) := by decide +kernel
theorem dX7_isDigit_16 : decode cX7_isDigit 16 = .ok (.iconst 0, 1) := by decide +kernel
theorem dX7_isDigit_17 : decode cX7_isDigit 17 = .ok (.ireturn, 1) := by decide +kernel
theorem dX7_isLetter_0 : decode cX7_isLetter 0 = .ok (.iload_n 0, 1) := by decide +kernel
theorem dX7_isLetter_1 : decode cX7_isLetter 1 = .ok (.bipush 97, 2) := by decide +kernel
theorem dX7_isLetter_3 : decode cX7_isLetter 3 = .ok (.if_icmp .lt 13, 3) := by decide +kernel
theorem dX7_isLetter_6 : decode cX7_isLetter 6 = .ok (.iload_n 0, 1) := by decide +kernel
theorem dX7_isLetter_7 : decode cX7_isLetter 7 = .ok (.bipush 122, 2) := by decide +kernel
theorem dX7_isLetter_9 : decode cX7_isLetter 9 = .ok (.if_icmp .gt 7, 3) := by decide +kernel
theorem dX7_isLetter_12 : decode cX7_isLetter 12 = .ok (.iconst 1, 1) := by decide +kernel
theorem dX7_isLetter_13 : decode cX7_isLetter 13 = .ok (.goto 4, 3) := by decide +kernel
theorem dX7_isLetter_16 : decode cX7_isLetter 16 = .ok (.iconst 0, 1) := by decide +kernel
theorem dX7_isLetter_17 : decode cX7_isLetter 17 = .ok (.ireturn, 1) := by decide +kernel
set_option maxRecDepth 20000 in
theorem ggX7_go_X7_isLetter : GoodIn wsX7_go wsX7_isLetter := goodIn_r _ [13] (by decide +kernel) (by decide +kernel)
set_option maxRecDepth 20000 in
theorem gX7_go_X7_isLetter : GoodIn wsX7_go (va_wsS RX7 30 yX7_isLetter wsX7_isLetter) := goodIn_app (goodIn_of _ (by decide +kernel)) ggX7_go_X7_isLetter
set_option maxRecDepth 20000 in
theorem ggX7_go_X7_isDigit : GoodIn wsX7_go wsX7_isDigit := goodIn_r _ [16] (by decide +kernel) (by decide +kernel)
set_option maxRecDepth 20000 in
theorem gX7_go_X7_isDigit : GoodIn wsX7_go (va_wsS RX7 34 yX7_isDigit wsX7_isDigit) := goodIn_app (goodIn_of _ (by decide +kernel)) ggX7_go_X7_isDigit
set_option maxRecDepth 20000 in
theorem ggX7_go_X7_tapeAt : GoodIn wsX7_go wsX7_tapeAt := goodIn_r _ [20, 2, 3, 21, 22, 23, 24, 25, 26, 27, 28, 29, 30, 31, 32, 33, 34, 35, 36, 37] (by decide +kernel) (by decide +kernel)
set_option maxRecDepth 20000 in
theorem gX7_go_X7_tapeAt : GoodIn wsX7_go (wsV RX7 44 RX7 yX7_tapeAt wsX7_tapeAt) := goodIn_app (goodIn_of _ (by decide +kernel)) ggX7_go_X7_tapeAt
theorem dX7_go_0 : decode cX7_go 0 = .ok (.aload_n 0, 1) := by decide +kernel
theorem dX7_go_1 : decode cX7_go 1 = .ok (.getfield 21, 3) := by decide +kernel
theorem dX7_go_4 : decode cX7_go 4 = .ok (.aload_n 0, 1) := by decide +kernel
theorem dX7_go_5 : decode cX7_go 5 = .ok (.getfield 18, 3) := by decide +kernel
theorem dX7_go_8 : decode cX7_go 8 = .ok (.if_icmp .ge 44, 3) := by decide +kernel
theorem dX7_go_11 : decode cX7_go 11 = .ok (.aload_n 0, 1) := by decide +kernel
theorem dX7_go_12 : decode cX7_go 12 = .ok (.getfield 7, 3) := by decide +kernel
theorem dX7_go_15 : decode cX7_go 15 = .ok (.aload_n 0, 1) := by decide +kernel
theorem dX7_go_16 : decode cX7_go 16 = .ok (.getfield 21, 3) := by decide +kernel
theorem dX7_go_19 : decode cX7_go 19 = .ok (.iaload, 1) := by decide +kernel
theorem dX7_go_20 : decode cX7_go 20 = .ok (.bipush 32, 2) := by decide +kernel
theorem dX7_go_22 : decode cX7_go 22 = .ok (.if_icmp .eq 17, 3) := by decide +kernel
theorem dX7_go_25 : decode cX7_go 25 = .ok (.aload_n 0, 1) := by decide +kernel
theorem dX7_go_26 : decode cX7_go 26 = .ok (.getfield 7, 3) := by decide +kernel
theorem dX7_go_29 : decode cX7_go 29 = .ok (.aload_n 0, 1) := by decide +kernel
theorem dX7_go_30 : decode cX7_go 30 = .ok (.getfield 21, 3) := by decide +kernel
theorem dX7_go_33 : decode cX7_go 33 = .ok (.iaload, 1) := by decide +kernel
theorem dX7_go_34 : decode cX7_go 34 = .ok (.bipush 10, 2) := by decide +kernel
theorem dX7_go_36 : decode cX7_go 36 = .ok (.if_icmp .ne 16, 3) := by decide +kernel
theorem dX7_go_39 : decode cX7_go 39 = .ok (.aload_n 0, 1) := by decide +kernel
theorem dX7_go_40 : decode cX7_go 40 = .ok (.dup, 1) := by decide +kernel
theorem dX7_go_41 : decode cX7_go 41 = .ok (.getfield 21, 3) := by decide +kernel
theorem dX7_go_44 : decode cX7_go 44 = .ok (.iconst 1, 1) := by decide +kernel
theorem dX7_go_45 : decode cX7_go 45 = .ok (.iadd, 1) := by decide +kernel
theorem dX7_go_46 : decode cX7_go 46 = .ok (.putfield 21, 3) := by decide +kernel
theorem dX7_go_49 : decode cX7_go 49 = .ok (.goto (-49), 3) := by decide +kernel
theorem dX7_go_52 : decode cX7_go 52 = .ok (.aload_n 0, 1) := by decide +kernel
theorem dX7_go_53 : decode cX7_go 53 = .ok (.aload_n 0, 1) := by decide +kernel
theorem dX7_go_54 : decode cX7_go 54 = .ok (.getfield 21, 3) := by decide +kernel
theorem dX7_go_57 : decode cX7_go 57 = .ok (.putfield 24, 3) := by decide +kernel
theorem dX7_go_60 : decode cX7_go 60 = .ok (.aload_n 0, 1) := by decide +kernel
theorem dX7_go_61 : decode cX7_go 61 = .ok (.getfield 18, 3) := by decide +kernel
theorem dX7_go_64 : decode cX7_go 64 = .ok (.sipush 600, 3) := by decide +kernel
theorem dX7_go_67 : decode cX7_go 67 = .ok (.if_icmp .le 26, 3) := by decide +kernel
theorem dX7_go_70 : decode cX7_go 70 = .ok (.aload_n 0, 1) := by decide +kernel
theorem dX7_go_71 : decode cX7_go 71 = .ok (.getfield 24, 3) := by decide +kernel
theorem dX7_go_74 : decode cX7_go 74 = .ok (.sipush 600, 3) := by decide +kernel
theorem dX7_go_77 : decode cX7_go 77 = .ok (.if_icmp .lt 16, 3) := by decide +kernel
theorem dX7_go_80 : decode cX7_go 80 = .ok (.aload_n 0, 1) := by decide +kernel
theorem dX7_go_81 : decode cX7_go 81 = .ok (.sipush 600, 3) := by decide +kernel
theorem dX7_go_84 : decode cX7_go 84 = .ok (.putfield 24, 3) := by decide +kernel
theorem dX7_go_87 : decode cX7_go 87 = .ok (.aload_n 0, 1) := by decide +kernel
theorem dX7_go_88 : decode cX7_go 88 = .ok (.iconst 1, 1) := by decide +kernel
theorem dX7_go_89 : decode cX7_go 89 = .ok (.putfield 27, 3) := by decide +kernel
theorem dX7_go_92 : decode cX7_go 92 = .ok (.return_, 1) := by decide +kernel
theorem dX7_go_93 : decode cX7_go 93 = .ok (.aload_n 0, 1) := by decide +kernel
theorem dX7_go_94 : decode cX7_go 94 = .ok (.getfield 21, 3) := by decide +kernel
theorem dX7_go_97 : decode cX7_go 97 = .ok (.aload_n 0, 1) := by decide +kernel
theorem dX7_go_98 : decode cX7_go 98 = .ok (.getfield 18, 3) := by decide +kernel
theorem dX7_go_101 : decode cX7_go 101 = .ok (.if_icmp .lt 9, 3) := by decide +kernel
theorem dX7_go_104 : decode cX7_go 104 = .ok (.aload_n 0, 1) := by decide +kernel
theorem dX7_go_105 : decode cX7_go 105 = .ok (.iconst 0, 1) := by decide +kernel
theorem dX7_go_106 : decode cX7_go 106 = .ok (.putfield 27, 3) := by decide +kernel
theorem dX7_go_109 : decode cX7_go 109 = .ok (.return_, 1) := by decide +kernel
theorem dX7_go_110 : decode cX7_go 110 = .ok (.aload_n 0, 1) := by decide +kernel
theorem dX7_go_111 : decode cX7_go 111 = .ok (.getfield 7, 3) := by decide +kernel
theorem dX7_go_114 : decode cX7_go 114 = .ok (.aload_n 0, 1) := by decide +kernel
theorem dX7_go_115 : decode cX7_go 115 = .ok (.getfield 21, 3) := by decide +kernel
theorem dX7_go_118 : decode cX7_go 118 = .ok (.iaload, 1) := by decide +kernel
theorem dX7_go_119 : decode cX7_go 119 = .ok (.istore_n 1, 1) := by decide +kernel
theorem dX7_go_120 : decode cX7_go 120 = .ok (.iload_n 1, 1) := by decide +kernel
theorem dX7_go_121 : decode cX7_go 121 = .ok (.invokestatic 30, 3) := by decide +kernel
theorem dX7_go_124 : decode cX7_go 124 = .ok (.ifCond .ne 36, 3) := by decide +kernel
theorem dX7_go_127 : decode cX7_go 127 = .ok (.iload_n 1, 1) := by decide +kernel
theorem dX7_go_128 : decode cX7_go 128 = .ok (.invokestatic 34, 3) := by decide +kernel
theorem dX7_go_131 : decode cX7_go 131 = .ok (.ifCond .ne 29, 3) := by decide +kernel
theorem dX7_go_134 : decode cX7_go 134 = .ok (.aload_n 0, 1) := by decide +kernel
theorem dX7_go_135 : decode cX7_go 135 = .ok (.iload_n 1, 1) := by decide +kernel
theorem dX7_go_136 : decode cX7_go 136 = .ok (.bipush 59, 2) := by decide +kernel
theorem dX7_go_138 : decode cX7_go 138 = .ok (.if_icmp .ne 7, 3) := by decide +kernel
theorem dX7_go_141 : decode cX7_go 141 = .ok (.iconst 4, 1) := by decide +kernel
theorem dX7_go_142 : decode cX7_go 142 = .ok (.goto 4, 3) := by decide +kernel
theorem dX7_go_145 : decode cX7_go 145 = .ok (.iconst 1, 1) := by decide +kernel
theorem dX7_go_146 : decode cX7_go 146 = .ok (.putfield 27, 3) := by decide +kernel
theorem dX7_go_149 : decode cX7_go 149 = .ok (.aload_n 0, 1) := by decide +kernel
theorem dX7_go_150 : decode cX7_go 150 = .ok (.dup, 1) := by decide +kernel
theorem dX7_go_151 : decode cX7_go 151 = .ok (.getfield 21, 3) := by decide +kernel
theorem dX7_go_154 : decode cX7_go 154 = .ok (.iconst 1, 1) := by decide +kernel
theorem dX7_go_155 : decode cX7_go 155 = .ok (.iadd, 1) := by decide +kernel
theorem dX7_go_156 : decode cX7_go 156 = .ok (.putfield 21, 3) := by decide +kernel
theorem dX7_go_159 : decode cX7_go 159 = .ok (.return_, 1) := by decide +kernel
theorem dX7_go_160 : decode cX7_go 160 = .ok (.iload_n 1, 1) := by decide +kernel
theorem dX7_go_161 : decode cX7_go 161 = .ok (.invokestatic 30, 3) := by decide +kernel
theorem dX7_go_164 : decode cX7_go 164 = .ok (.istore_n 2, 1) := by decide +kernel
theorem dX7_go_165 : decode cX7_go 165 = .ok (.iconst 1, 1) := by decide +kernel
theorem dX7_go_166 : decode cX7_go 166 = .ok (.istore_n 3, 1) := by decide +kernel
theorem dX7_go_167 : decode cX7_go 167 = .ok (.aload_n 0, 1) := by decide +kernel
theorem dX7_go_168 : decode cX7_go 168 = .ok (.lconst 0, 1) := by decide +kernel
theorem dX7_go_169 : decode cX7_go 169 = .ok (.putfield 37, 3) := by decide +kernel
theorem dX7_go_172 : decode cX7_go 172 = .ok (.aload_n 0, 1) := by decide +kernel
theorem dX7_go_173 : decode cX7_go 173 = .ok (.iconst 0, 1) := by decide +kernel
theorem dX7_go_174 : decode cX7_go 174 = .ok (.putfield 41, 3) := by decide +kernel
theorem dX7_go_177 : decode cX7_go 177 = .ok (.aload_n 0, 1) := by decide +kernel
theorem dX7_go_178 : decode cX7_go 178 = .ok (.aload_n 0, 1) := by decide +kernel
theorem dX7_go_179 : decode cX7_go 179 = .ok (.getfield 21, 3) := by decide +kernel
theorem dX7_go_182 : decode cX7_go 182 = .ok (.invokevirtual 44, 3) := by decide +kernel
theorem dX7_go_185 : decode cX7_go 185 = .ok (.invokestatic 30, 3) := by decide +kernel
theorem dX7_go_188 : decode cX7_go 188 = .ok (.ifCond .ne 17, 3) := by decide +kernel
theorem dX7_go_191 : decode cX7_go 191 = .ok (.aload_n 0, 1) := by decide +kernel
theorem dX7_go_192 : decode cX7_go 192 = .ok (.aload_n 0, 1) := by decide +kernel
theorem dX7_go_193 : decode cX7_go 193 = .ok (.getfield 21, 3) := by decide +kernel
theorem dX7_go_196 : decode cX7_go 196 = .ok (.invokevirtual 44, 3) := by decide +kernel
theorem dX7_go_199 : decode cX7_go 199 = .ok (.invokestatic 34, 3) := by decide +kernel
theorem dX7_go_202 : decode cX7_go 202 = .ok (.ifCond .eq 110, 3) := by decide +kernel
theorem dX7_go_205 : decode cX7_go 205 = .ok (.aload_n 0, 1) := by decide +kernel
theorem dX7_go_206 : decode cX7_go 206 = .ok (.getfield 7, 3) := by decide +kernel
theorem dX7_go_209 : decode cX7_go 209 = .ok (.aload_n 0, 1) := by decide +kernel
theorem dX7_go_210 : decode cX7_go 210 = .ok (.getfield 21, 3) := by decide +kernel
theorem dX7_go_213 : decode cX7_go 213 = .ok (.iaload, 1) := by decide +kernel
theorem dX7_go_214 : decode cX7_go 214 = .ok (.istore 4, 2) := by decide +kernel
theorem dX7_go_216 : decode cX7_go 216 = .ok (.iload_n 3, 1) := by decide +kernel
theorem dX7_go_217 : decode cX7_go 217 = .ok (.ifCond .eq 16, 3) := by decide +kernel
theorem dX7_go_220 : decode cX7_go 220 = .ok (.iload 4, 2) := by decide +kernel
theorem dX7_go_222 : decode cX7_go 222 = .ok (.invokestatic 30, 3) := by decide +kernel
theorem dX7_go_225 : decode cX7_go 225 = .ok (.iload_n 2, 1) := by decide +kernel
theorem dX7_go_226 : decode cX7_go 226 = .ok (.if_icmp .ne 7, 3) := by decide +kernel
theorem dX7_go_229 : decode cX7_go 229 = .ok (.iconst 1, 1) := by decide +kernel
theorem dX7_go_230 : decode cX7_go 230 = .ok (.goto 4, 3) := by decide +kernel
theorem dX7_go_233 : decode cX7_go 233 = .ok (.iconst 0, 1) := by decide +kernel
theorem dX7_go_234 : decode cX7_go 234 = .ok (.istore_n 3, 1) := by decide +kernel
theorem dX7_go_235 : decode cX7_go 235 = .ok (.aload_n 0, 1) := by decide +kernel
theorem dX7_go_236 : decode cX7_go 236 = .ok (.getfield 21, 3) := by decide +kernel
theorem dX7_go_239 : decode cX7_go 239 = .ok (.aload_n 0, 1) := by decide +kernel
theorem dX7_go_240 : decode cX7_go 240 = .ok (.getfield 24, 3) := by decide +kernel
theorem dX7_go_243 : decode cX7_go 243 = .ok (.isub, 1) := by decide +kernel
theorem dX7_go_244 : decode cX7_go 244 = .ok (.bipush 7, 2) := by decide +kernel
theorem dX7_go_246 : decode cX7_go 246 = .ok (.if_icmp .ge 23, 3) := by decide +kernel
theorem dX7_go_249 : decode cX7_go 249 = .ok (.aload_n 0, 1) := by decide +kernel
theorem dX7_go_250 : decode cX7_go 250 = .ok (.ldc2_w 48, 3) := by decide +kernel
theorem dX7_go_253 : decode cX7_go 253 = .ok (.aload_n 0, 1) := by decide +kernel
theorem dX7_go_254 : decode cX7_go 254 = .ok (.getfield 37, 3) := by decide +kernel
theorem dX7_go_257 : decode cX7_go 257 = .ok (.lmul, 1) := by decide +kernel
theorem dX7_go_258 : decode cX7_go 258 = .ok (.iload 4, 2) := by decide +kernel
theorem dX7_go_260 : decode cX7_go 260 = .ok (.i2l, 1) := by decide +kernel
theorem dX7_go_261 : decode cX7_go 261 = .ok (.ladd, 1) := by decide +kernel
theorem dX7_go_262 : decode cX7_go 262 = .ok (.ldc2_w 50, 3) := by decide +kernel
theorem dX7_go_265 : decode cX7_go 265 = .ok (.lsub, 1) := by decide +kernel
theorem dX7_go_266 : decode cX7_go 266 = .ok (.putfield 37, 3) := by decide +kernel
theorem dX7_go_269 : decode cX7_go 269 = .ok (.aload_n 0, 1) := by decide +kernel
theorem dX7_go_270 : decode cX7_go 270 = .ok (.getfield 21, 3) := by decide +kernel
theorem dX7_go_273 : decode cX7_go 273 = .ok (.aload_n 0, 1) := by decide +kernel
theorem dX7_go_274 : decode cX7_go 274 = .ok (.getfield 24, 3) := by decide +kernel
theorem dX7_go_277 : decode cX7_go 277 = .ok (.isub, 1) := by decide +kernel
theorem dX7_go_278 : decode cX7_go 278 = .ok (.iconst 4, 1) := by decide +kernel
theorem dX7_go_279 : decode cX7_go 279 = .ok (.if_icmp .ge 20, 3) := by decide +kernel
theorem dX7_go_282 : decode cX7_go 282 = .ok (.aload_n 0, 1) := by decide +kernel
theorem dX7_go_283 : decode cX7_go 283 = .ok (.bipush 10, 2) := by decide +kernel
theorem dX7_go_285 : decode cX7_go 285 = .ok (.aload_n 0, 1) := by decide +kernel
theorem dX7_go_286 : decode cX7_go 286 = .ok (.getfield 41, 3) := by decide +kernel
theorem dX7_go_289 : decode cX7_go 289 = .ok (.imul, 1) := by decide +kernel
theorem dX7_go_290 : decode cX7_go 290 = .ok (.iload 4, 2) := by decide +kernel
theorem dX7_go_292 : decode cX7_go 292 = .ok (.iadd, 1) := by decide +kernel
theorem dX7_go_293 : decode cX7_go 293 = .ok (.bipush 48, 2) := by decide +kernel
theorem dX7_go_295 : decode cX7_go 295 = .ok (.isub, 1) := by decide +kernel
theorem dX7_go_296 : decode cX7_go 296 = .ok (.putfield 41, 3) := by decide +kernel
theorem dX7_go_299 : decode cX7_go 299 = .ok (.aload_n 0, 1) := by decide +kernel
theorem dX7_go_300 : decode cX7_go 300 = .ok (.dup, 1) := by decide +kernel
theorem dX7_go_301 : decode cX7_go 301 = .ok (.getfield 21, 3) := by decide +kernel
theorem dX7_go_304 : decode cX7_go 304 = .ok (.iconst 1, 1) := by decide +kernel
theorem dX7_go_305 : decode cX7_go 305 = .ok (.iadd, 1) := by decide +kernel
theorem dX7_go_306 : decode cX7_go 306 = .ok (.putfield 21, 3) := by decide +kernel
theorem dX7_go_309 : decode cX7_go 309 = .ok (.goto (-132), 3) := by decide +kernel
theorem dX7_go_312 : decode cX7_go 312 = .ok (.aload_n 0, 1) := by decide +kernel
theorem dX7_go_313 : decode cX7_go 313 = .ok (.iload_n 3, 1) := by decide +kernel
theorem dX7_go_314 : decode cX7_go 314 = .ok (.ifCond .eq 20, 3) := by decide +kernel
theorem dX7_go_317 : decode cX7_go 317 = .ok (.iload_n 2, 1) := by decide +kernel
theorem dX7_go_318 : decode cX7_go 318 = .ok (.ifCond .ne 20, 3) := by decide +kernel
theorem dX7_go_321 : decode cX7_go 321 = .ok (.aload_n 0, 1) := by decide +kernel
theorem dX7_go_322 : decode cX7_go 322 = .ok (.getfield 21, 3) := by decide +kernel
theorem dX7_go_325 : decode cX7_go 325 = .ok (.aload_n 0, 1) := by decide +kernel
theorem dX7_go_326 : decode cX7_go 326 = .ok (.getfield 24, 3) := by decide +kernel
theorem dX7_go_329 : decode cX7_go 329 = .ok (.isub, 1) := by decide +kernel
theorem dX7_go_330 : decode cX7_go 330 = .ok (.iconst 4, 1) := by decide +kernel
theorem dX7_go_331 : decode cX7_go 331 = .ok (.if_icmp .le 7, 3) := by decide +kernel
theorem dX7_go_334 : decode cX7_go 334 = .ok (.iconst 1, 1) := by decide +kernel
theorem dX7_go_335 : decode cX7_go 335 = .ok (.goto 12, 3) := by decide +kernel
theorem dX7_go_338 : decode cX7_go 338 = .ok (.iload_n 2, 1) := by decide +kernel
theorem dX7_go_339 : decode cX7_go 339 = .ok (.ifCond .eq 7, 3) := by decide +kernel
theorem dX7_go_342 : decode cX7_go 342 = .ok (.iconst 2, 1) := by decide +kernel
theorem dX7_go_343 : decode cX7_go 343 = .ok (.goto 4, 3) := by decide +kernel
theorem dX7_go_346 : decode cX7_go 346 = .ok (.iconst 3, 1) := by decide +kernel
theorem dX7_go_347 : decode cX7_go 347 = .ok (.putfield 27, 3) := by decide +kernel
theorem dX7_go_350 : decode cX7_go 350 = .ok (.return_, 1) := by decide +kernel
theorem dX7_three_0 : decode cX7_three 0 = .ok (.ldc2_w 48, 3) := by decide +kernel
theorem dX7_three_3 : decode cX7_three 3 = .ok (.ldc2_w 48, 3) := by decide +kernel
theorem dX7_three_6 : decode cX7_three 6 = .ok (.iload_n 0, 1) := by decide +kernel
theorem dX7_three_7 : decode cX7_three 7 = .ok (.i2l, 1) := by decide +kernel
theorem dX7_three_8 : decode cX7_three 8 = .ok (.ldc2_w 50, 3) := by decide +kernel
theorem dX7_three_11 : decode cX7_three 11 = .ok (.lsub, 1) := by decide +kernel
theorem dX7_three_12 : decode cX7_three 12 = .ok (.lmul, 1) := by decide +kernel
theorem dX7_three_13 : decode cX7_three 13 = .ok (.iload_n 1, 1) := by decide +kernel
theorem dX7_three_14 : decode cX7_three 14 = .ok (.i2l, 1) := by decide +kernel
theorem dX7_three_15 : decode cX7_three 15 = .ok (.ladd, 1) := by decide +kernel
theorem dX7_three_16 : decode cX7_three 16 = .ok (.ldc2_w 50, 3) := by decide +kernel
theorem dX7_three_19 : decode cX7_three 19 = .ok (.lsub, 1) := by decide +kernel
theorem dX7_three_20 : decode cX7_three 20 = .ok (.lmul, 1) := by decide +kernel
theorem dX7_three_21 : decode cX7_three 21 = .ok (.iload_n 2, 1) := by decide +kernel
theorem dX7_three_22 : decode cX7_three 22 = .ok (.i2l, 1) := by decide +kernel
theorem dX7_three_23 : decode cX7_three 23 = .ok (.ladd, 1) := by decide +kernel
theorem dX7_three_24 : decode cX7_three 24 = .ok (.ldc2_w 50, 3) := by decide +kernel
theorem dX7_three_27 : decode cX7_three 27 = .ok (.lsub, 1) := by decide +kernel
theorem dX7_three_28 : decode cX7_three 28 = .ok (.lreturn, 1) := by decide +kernel
theorem dX7_isWord_0 : decode cX7_isWord 0 = .ok (.aload_n 0, 1) := by decide +kernel
theorem dX7_isWord_1 : decode cX7_isWord 1 = .ok (.getfield 27, 3) := by decide +kernel
theorem dX7_isWord_4 : decode cX7_isWord 4 = .ok (.iconst 2, 1) := by decide +kernel
theorem dX7_isWord_5 : decode cX7_isWord 5 = .ok (.if_icmp .ne 16, 3) := by decide +kernel
theorem dX7_isWord_8 : decode cX7_isWord 8 = .ok (.aload_n 0, 1) := by decide +kernel
theorem dX7_isWord_9 : decode cX7_isWord 9 = .ok (.getfield 37, 3) := by decide +kernel
theorem dX7_isWord_12 : decode cX7_isWord 12 = .ok (.lload_n 1, 1) := by decide +kernel
theorem dX7_isWord_13 : decode cX7_isWord 13 = .ok (.lcmp, 1) := by decide +kernel
theorem dX7_isWord_14 : decode cX7_isWord 14 = .ok (.ifCond .ne 7, 3) := by decide +kernel
theorem dX7_isWord_17 : decode cX7_isWord 17 = .ok (.iconst 1, 1) := by decide +kernel
theorem dX7_isWord_18 : decode cX7_isWord 18 = .ok (.goto 4, 3) := by decide +kernel
theorem dX7_isWord_21 : decode cX7_isWord 21 = .ok (.iconst 0, 1) := by decide +kernel
theorem dX7_isWord_22 : decode cX7_isWord 22 = .ok (.ireturn, 1) := by decide +kernel
theorem dX7_bad_0 : decode cX7_bad 0 = .ok (.aload_n 0, 1) := by decide +kernel
theorem dX7_bad_1 : decode cX7_bad 1 = .ok (.aload_n 0, 1) := by decide +kernel
theorem dX7_bad_2 : decode cX7_bad 2 = .ok (.getfield 27, 3) := by decide +kernel
theorem dX7_bad_5 : decode cX7_bad 5 = .ok (.iconst 1, 1) := by decide +kernel
theorem dX7_bad_6 : decode cX7_bad 6 = .ok (.if_icmp .ne 7, 3) := by decide +kernel
theorem dX7_bad_9 : decode cX7_bad 9 = .ok (.iconst 1, 1) := by decide +kernel
theorem dX7_bad_10 : decode cX7_bad 10 = .ok (.goto 4, 3) := by decide +kernel
theorem dX7_bad_13 : decode cX7_bad 13 = .ok (.iload_n 1, 1) := by decide +kernel
theorem dX7_bad_14 : decode cX7_bad 14 = .ok (.putfield 52, 3) := by decide +kernel
theorem dX7_bad_17 : decode cX7_bad 17 = .ok (.aload_n 0, 1) := by decide +kernel
theorem dX7_bad_18 : decode cX7_bad 18 = .ok (.aload_n 0, 1) := by decide +kernel
theorem dX7_bad_19 : decode cX7_bad 19 = .ok (.getfield 24, 3) := by decide +kernel
theorem dX7_bad_22 : decode cX7_bad 22 = .ok (.putfield 55, 3) := by decide +kernel
theorem dX7_bad_25 : decode cX7_bad 25 = .ok (.iconst 0, 1) := by decide +kernel
theorem dX7_bad_26 : decode cX7_bad 26 = .ok (.ireturn, 1) := by decide +kernel
set_option maxRecDepth 20000 in
theorem ggX7_init_X7_begins : GoodIn wsX7_init wsX7_begins := goodIn_r _ [14] (by decide +kernel) (by decide +kernel)
set_option maxRecDepth 20000 in
theorem gX7_init_X7_begins : GoodIn wsX7_init (va_wsS RX7 77 yX7_begins wsX7_begins) := goodIn_app (goodIn_of _ (by decide +kernel)) ggX7_init_X7_begins
theorem dX7_init_0 : decode cX7_init 0 = .ok (.aload_n 0, 1) := by decide +kernel
theorem dX7_init_1 : decode cX7_init 1 = .ok (.invokespecial 58, 3) := by decide +kernel
theorem dX7_init_4 : decode cX7_init 4 = .ok (.aload_n 0, 1) := by decide +kernel
theorem dX7_init_5 : decode cX7_init 5 = .ok (.sipush 640, 3) := by decide +kernel
theorem dX7_init_8 : decode cX7_init 8 = .ok (.newarray .int, 2) := by decide +kernel
theorem dX7_init_10 : decode cX7_init 10 = .ok (.putfield 7, 3) := by decide +kernel
theorem dX7_init_13 : decode cX7_init 13 = .ok (.aload_n 0, 1) := by decide +kernel
theorem dX7_init_14 : decode cX7_init 14 = .ok (.sipush 442, 3) := by decide +kernel
theorem dX7_init_17 : decode cX7_init 17 = .ok (.newarray .int, 2) := by decide +kernel
theorem dX7_init_19 : decode cX7_init 19 = .ok (.putfield 64, 3) := by decide +kernel
theorem dX7_init_22 : decode cX7_init 22 = .ok (.aload_n 0, 1) := by decide +kernel
theorem dX7_init_23 : decode cX7_init 23 = .ok (.sipush 442, 3) := by decide +kernel
theorem dX7_init_26 : decode cX7_init 26 = .ok (.newarray .int, 2) := by decide +kernel
theorem dX7_init_28 : decode cX7_init 28 = .ok (.putfield 67, 3) := by decide +kernel
theorem dX7_init_31 : decode cX7_init 31 = .ok (.aload_n 0, 1) := by decide +kernel
theorem dX7_init_32 : decode cX7_init 32 = .ok (.sipush 4420, 3) := by decide +kernel
theorem dX7_init_35 : decode cX7_init 35 = .ok (.newarray .int, 2) := by decide +kernel
theorem dX7_init_37 : decode cX7_init 37 = .ok (.putfield 70, 3) := by decide +kernel
theorem dX7_init_40 : decode cX7_init 40 = .ok (.aload_n 0, 1) := by decide +kernel
theorem dX7_init_41 : decode cX7_init 41 = .ok (.bipush 80, 2) := by decide +kernel
theorem dX7_init_43 : decode cX7_init 43 = .ok (.newarray .boolean, 2) := by decide +kernel
theorem dX7_init_45 : decode cX7_init 45 = .ok (.putfield 73, 3) := by decide +kernel
theorem dX7_init_48 : decode cX7_init 48 = .ok (.aload_n 0, 1) := by decide +kernel
theorem dX7_init_49 : decode cX7_init 49 = .ok (.getfield 64, 3) := by decide +kernel
theorem dX7_init_52 : decode cX7_init 52 = .ok (.iconst 0, 1) := by decide +kernel
theorem dX7_init_53 : decode cX7_init 53 = .ok (.iconst 1, 1) := by decide +kernel
theorem dX7_init_54 : decode cX7_init 54 = .ok (.iastore, 1) := by decide +kernel
theorem dX7_init_55 : decode cX7_init 55 = .ok (.aload_n 0, 1) := by decide +kernel
theorem dX7_init_56 : decode cX7_init 56 = .ok (.getfield 64, 3) := by decide +kernel
theorem dX7_init_59 : decode cX7_init 59 = .ok (.invokestatic 77, 3) := by decide +kernel
theorem dX7_init_62 : decode cX7_init 62 = .ok (.return_, 1) := by decide +kernel
theorem dX7_begins_0 : decode cX7_begins 0 = .ok (.aload_n 0, 1) := by decide +kernel
theorem dX7_begins_1 : decode cX7_begins 1 = .ok (.iconst 1, 1) := by decide +kernel
theorem dX7_begins_2 : decode cX7_begins 2 = .ok (.iconst 1, 1) := by decide +kernel
theorem dX7_begins_3 : decode cX7_begins 3 = .ok (.iastore, 1) := by decide +kernel
theorem dX7_begins_4 : decode cX7_begins 4 = .ok (.aload_n 0, 1) := by decide +kernel
theorem dX7_begins_5 : decode cX7_begins 5 = .ok (.iconst 2, 1) := by decide +kernel
theorem dX7_begins_6 : decode cX7_begins 6 = .ok (.iconst (-1), 1) := by decide +kernel
theorem dX7_begins_7 : decode cX7_begins 7 = .ok (.iastore, 1) := by decide +kernel
theorem dX7_begins_8 : decode cX7_begins 8 = .ok (.aload_n 0, 1) := by decide +kernel
theorem dX7_begins_9 : decode cX7_begins 9 = .ok (.bipush 22, 2) := by decide +kernel
theorem dX7_begins_11 : decode cX7_begins 11 = .ok (.iconst 1, 1) := by decide +kernel
theorem dX7_begins_12 : decode cX7_begins 12 = .ok (.iastore, 1) := by decide +kernel
theorem dX7_begins_13 : decode cX7_begins 13 = .ok (.return_, 1) := by decide +kernel
theorem dX7_at_0 : decode cX7_at 0 = .ok (.bipush 42, 2) := by decide +kernel
theorem dX7_at_2 : decode cX7_at 2 = .ok (.bipush 20, 2) := by decide +kernel
theorem dX7_at_4 : decode cX7_at 4 = .ok (.iload_n 0, 1) := by decide +kernel
theorem dX7_at_5 : decode cX7_at 5 = .ok (.imul, 1) := by decide +kernel
theorem dX7_at_6 : decode cX7_at 6 = .ok (.iadd, 1) := by decide +kernel
theorem dX7_at_7 : decode cX7_at 7 = .ok (.iconst 5, 1) := by decide +kernel
theorem dX7_at_8 : decode cX7_at 8 = .ok (.iload_n 1, 1) := by decide +kernel
theorem dX7_at_9 : decode cX7_at 9 = .ok (.imul, 1) := by decide +kernel
theorem dX7_at_10 : decode cX7_at 10 = .ok (.iadd, 1) := by decide +kernel
theorem dX7_at_11 : decode cX7_at 11 = .ok (.iload_n 2, 1) := by decide +kernel
theorem dX7_at_12 : decode cX7_at 12 = .ok (.iadd, 1) := by decide +kernel
theorem dX7_at_13 : decode cX7_at 13 = .ok (.ireturn, 1) := by decide +kernel
set_option maxRecDepth 20000 in
theorem ggX7_adds_X7_at : GoodIn wsX7_adds wsX7_at := goodIn_r _ [4] (by decide +kernel) (by decide +kernel)
set_option maxRecDepth 20000 in
theorem gX7_adds_X7_at : GoodIn wsX7_adds (va_wsS RX7 81 yX7_at wsX7_at) := goodIn_app (goodIn_of _ (by decide +kernel)) ggX7_adds_X7_at
theorem dX7_adds_0 : decode cX7_adds 0 = .ok (.aload_n 0, 1) := by decide +kernel
theorem dX7_adds_1 : decode cX7_adds 1 = .ok (.iconst 1, 1) := by decide +kernel
theorem dX7_adds_2 : decode cX7_adds 2 = .ok (.iaload, 1) := by decide +kernel
theorem dX7_adds_3 : decode cX7_adds 3 = .ok (.istore_n 3, 1) := by decide +kernel
theorem dX7_adds_4 : decode cX7_adds 4 = .ok (.aload_n 0, 1) := by decide +kernel
theorem dX7_adds_5 : decode cX7_adds 5 = .ok (.iconst 2, 1) := by decide +kernel
theorem dX7_adds_6 : decode cX7_adds 6 = .ok (.iload_n 3, 1) := by decide +kernel
theorem dX7_adds_7 : decode cX7_adds 7 = .ok (.iadd, 1) := by decide +kernel
theorem dX7_adds_8 : decode cX7_adds 8 = .ok (.iload_n 1, 1) := by decide +kernel
theorem dX7_adds_9 : decode cX7_adds 9 = .ok (.iastore, 1) := by decide +kernel
theorem dX7_adds_10 : decode cX7_adds 10 = .ok (.aload_n 0, 1) := by decide +kernel
theorem dX7_adds_11 : decode cX7_adds 11 = .ok (.bipush 22, 2) := by decide +kernel
theorem dX7_adds_13 : decode cX7_adds 13 = .ok (.iload_n 3, 1) := by decide +kernel
theorem dX7_adds_14 : decode cX7_adds 14 = .ok (.iadd, 1) := by decide +kernel
theorem dX7_adds_15 : decode cX7_adds 15 = .ok (.iload_n 2, 1) := by decide +kernel
theorem dX7_adds_16 : decode cX7_adds 16 = .ok (.ifCond .eq 7, 3) := by decide +kernel
theorem dX7_adds_19 : decode cX7_adds 19 = .ok (.iconst 1, 1) := by decide +kernel
theorem dX7_adds_20 : decode cX7_adds 20 = .ok (.goto 4, 3) := by decide +kernel
theorem dX7_adds_23 : decode cX7_adds 23 = .ok (.iconst 0, 1) := by decide +kernel
theorem dX7_adds_24 : decode cX7_adds 24 = .ok (.iastore, 1) := by decide +kernel
theorem dX7_adds_25 : decode cX7_adds 25 = .ok (.iconst 0, 1) := by decide +kernel
theorem dX7_adds_26 : decode cX7_adds 26 = .ok (.istore 4, 2) := by decide +kernel
theorem dX7_adds_28 : decode cX7_adds 28 = .ok (.iload 4, 2) := by decide +kernel
theorem dX7_adds_30 : decode cX7_adds 30 = .ok (.iconst 4, 1) := by decide +kernel
theorem dX7_adds_31 : decode cX7_adds 31 = .ok (.if_icmp .ge 46, 3) := by decide +kernel
theorem dX7_adds_34 : decode cX7_adds 34 = .ok (.iconst 0, 1) := by decide +kernel
theorem dX7_adds_35 : decode cX7_adds 35 = .ok (.istore 5, 2) := by decide +kernel
theorem dX7_adds_37 : decode cX7_adds 37 = .ok (.iload 5, 2) := by decide +kernel
theorem dX7_adds_39 : decode cX7_adds 39 = .ok (.iconst 5, 1) := by decide +kernel
theorem dX7_adds_40 : decode cX7_adds 40 = .ok (.if_icmp .ge 31, 3) := by decide +kernel
theorem dX7_adds_43 : decode cX7_adds 43 = .ok (.aload_n 0, 1) := by decide +kernel
theorem dX7_adds_44 : decode cX7_adds 44 = .ok (.iload_n 3, 1) := by decide +kernel
theorem dX7_adds_45 : decode cX7_adds 45 = .ok (.iload 4, 2) := by decide +kernel
theorem dX7_adds_47 : decode cX7_adds 47 = .ok (.iload 5, 2) := by decide +kernel
theorem dX7_adds_49 : decode cX7_adds 49 = .ok (.invokestatic 81, 3) := by decide +kernel
theorem dX7_adds_52 : decode cX7_adds 52 = .ok (.iload 5, 2) := by decide +kernel
theorem dX7_adds_54 : decode cX7_adds 54 = .ok (.iconst 3, 1) := by decide +kernel
theorem dX7_adds_55 : decode cX7_adds 55 = .ok (.if_icmp .ge 7, 3) := by decide +kernel
theorem dX7_adds_58 : decode cX7_adds 58 = .ok (.iconst 0, 1) := by decide +kernel
theorem dX7_adds_59 : decode cX7_adds 59 = .ok (.goto 5, 3) := by decide +kernel
theorem dX7_adds_62 : decode cX7_adds 62 = .ok (.bipush 100, 2) := by decide +kernel
theorem dX7_adds_64 : decode cX7_adds 64 = .ok (.iastore, 1) := by decide +kernel
theorem dX7_adds_65 : decode cX7_adds 65 = .ok (.iinc 5 1, 3) := by decide +kernel
theorem dX7_adds_68 : decode cX7_adds 68 = .ok (.goto (-31), 3) := by decide +kernel
theorem dX7_adds_71 : decode cX7_adds 71 = .ok (.iinc 4 1, 3) := by decide +kernel
theorem dX7_adds_74 : decode cX7_adds 74 = .ok (.goto (-46), 3) := by decide +kernel
theorem dX7_adds_77 : decode cX7_adds 77 = .ok (.aload_n 0, 1) := by decide +kernel
theorem dX7_adds_78 : decode cX7_adds 78 = .ok (.iconst 1, 1) := by decide +kernel
theorem dX7_adds_79 : decode cX7_adds 79 = .ok (.dup2, 1) := by decide +kernel
theorem dX7_adds_80 : decode cX7_adds 80 = .ok (.iaload, 1) := by decide +kernel
theorem dX7_adds_81 : decode cX7_adds 81 = .ok (.iconst 1, 1) := by decide +kernel
theorem dX7_adds_82 : decode cX7_adds 82 = .ok (.iadd, 1) := by decide +kernel
theorem dX7_adds_83 : decode cX7_adds 83 = .ok (.iastore, 1) := by decide +kernel
theorem dX7_adds_84 : decode cX7_adds 84 = .ok (.return_, 1) := by decide +kernel
set_option maxRecDepth 20000 in
theorem ggX7_takes_X7_bad : GoodIn wsX7_takes wsX7_bad := goodIn_r _ [8, 1, 9, 10, 11, 35, 36, 37, 38, 39, 40, 41, 42, 43, 44, 45, 46, 47, 48, 49, 50, 51] (by decide +kernel) (by decide +kernel)
set_option maxRecDepth 20000 in
theorem gX7_takes_X7_bad : GoodIn wsX7_takes (wsV RX7 85 RX7 yX7_bad wsX7_bad) := goodIn_app (goodIn_of _ (by decide +kernel)) ggX7_takes_X7_bad
set_option maxRecDepth 20000 in
theorem ggX7_takes_X7_isIn : GoodIn wsX7_takes wsX7_isIn := goodIn_r _ [14] (by decide +kernel) (by decide +kernel)
set_option maxRecDepth 20000 in
theorem gX7_takes_X7_isIn : GoodIn wsX7_takes (va_wsS RX7 88 yX7_isIn wsX7_isIn) := goodIn_app (goodIn_of _ (by decide +kernel)) ggX7_takes_X7_isIn
set_option maxRecDepth 20000 in
theorem ggX7_takes_X7_go : GoodIn wsX7_takes wsX7_go := goodIn_r _ [18, 19, 20, 21, 10, 1, 22, 2, 23, 24, 25, 26, 7, 27, 28, 29, 30, 31, 32, 33, 34, 35, 36, 37, 38, 39, 40, 41, 42, 43, 44, 45, 46, 47, 48, 49, 50, 51] (by decide +kernel) (by decide +kernel)
set_option maxRecDepth 20000 in
theorem gX7_takes_X7_go : GoodIn wsX7_takes (wsV RX7 95 RX7 yX7_go wsX7_go) := goodIn_app (goodIn_of _ (by decide +kernel)) ggX7_takes_X7_go
theorem dX7_takes_0 : decode cX7_takes 0 = .ok (.aload_n 0, 1) := by decide +kernel
theorem dX7_takes_1 : decode cX7_takes 1 = .ok (.getfield 27, 3) := by decide +kernel
theorem dX7_takes_4 : decode cX7_takes 4 = .ok (.iconst 3, 1) := by decide +kernel
theorem dX7_takes_5 : decode cX7_takes 5 = .ok (.if_icmp .eq 9, 3) := by decide +kernel
theorem dX7_takes_8 : decode cX7_takes 8 = .ok (.aload_n 0, 1) := by decide +kernel
theorem dX7_takes_9 : decode cX7_takes 9 = .ok (.iconst 1, 1) := by decide +kernel
theorem dX7_takes_10 : decode cX7_takes 10 = .ok (.invokevirtual 85, 3) := by decide +kernel
theorem dX7_takes_13 : decode cX7_takes 13 = .ok (.ireturn, 1) := by decide +kernel
theorem dX7_takes_14 : decode cX7_takes 14 = .ok (.aload_n 0, 1) := by decide +kernel
theorem dX7_takes_15 : decode cX7_takes 15 = .ok (.getfield 41, 3) := by decide +kernel
theorem dX7_takes_18 : decode cX7_takes 18 = .ok (.iload_n 1, 1) := by decide +kernel
theorem dX7_takes_19 : decode cX7_takes 19 = .ok (.iload_n 2, 1) := by decide +kernel
theorem dX7_takes_20 : decode cX7_takes 20 = .ok (.invokestatic 88, 3) := by decide +kernel
theorem dX7_takes_23 : decode cX7_takes 23 = .ok (.ifCond .ne 9, 3) := by decide +kernel
theorem dX7_takes_26 : decode cX7_takes 26 = .ok (.aload_n 0, 1) := by decide +kernel
theorem dX7_takes_27 : decode cX7_takes 27 = .ok (.iconst 2, 1) := by decide +kernel
theorem dX7_takes_28 : decode cX7_takes 28 = .ok (.invokevirtual 85, 3) := by decide +kernel
theorem dX7_takes_31 : decode cX7_takes 31 = .ok (.ireturn, 1) := by decide +kernel
theorem dX7_takes_32 : decode cX7_takes 32 = .ok (.aload_n 0, 1) := by decide +kernel
theorem dX7_takes_33 : decode cX7_takes 33 = .ok (.aload_n 0, 1) := by decide +kernel
theorem dX7_takes_34 : decode cX7_takes 34 = .ok (.getfield 41, 3) := by decide +kernel
theorem dX7_takes_37 : decode cX7_takes 37 = .ok (.putfield 92, 3) := by decide +kernel
theorem dX7_takes_40 : decode cX7_takes 40 = .ok (.aload_n 0, 1) := by decide +kernel
theorem dX7_takes_41 : decode cX7_takes 41 = .ok (.invokevirtual 95, 3) := by decide +kernel
theorem dX7_takes_44 : decode cX7_takes 44 = .ok (.iconst 1, 1) := by decide +kernel
theorem dX7_takes_45 : decode cX7_takes 45 = .ok (.ireturn, 1) := by decide +kernel
set_option maxRecDepth 20000 in
theorem ggX7_readEnd_X7_bad : GoodIn wsX7_readEnd wsX7_bad := goodIn_r _ [6, 1, 7, 8, 9, 31, 32, 33, 34, 35, 36, 37, 38, 39, 40, 41, 42, 43, 44, 45, 46, 47] (by decide +kernel) (by decide +kernel)
set_option maxRecDepth 20000 in
theorem gX7_readEnd_X7_bad : GoodIn wsX7_readEnd (wsV RX7 85 RX7 yX7_bad wsX7_bad) := goodIn_app (goodIn_of _ (by decide +kernel)) ggX7_readEnd_X7_bad
set_option maxRecDepth 20000 in
theorem ggX7_readEnd_X7_go : GoodIn wsX7_readEnd wsX7_go := goodIn_r _ [13, 14, 15, 16, 8, 1, 17, 18, 19, 20, 21, 22, 5, 23, 24, 25, 26, 27, 28, 29, 30, 31, 32, 33, 34, 35, 36, 37, 38, 39, 40, 41, 42, 43, 44, 45, 46, 47] (by decide +kernel) (by decide +kernel)
set_option maxRecDepth 20000 in
theorem gX7_readEnd_X7_go : GoodIn wsX7_readEnd (wsV RX7 95 RX7 yX7_go wsX7_go) := goodIn_app (goodIn_of _ (by decide +kernel)) ggX7_readEnd_X7_go
theorem dX7_readEnd_0 : decode cX7_readEnd 0 = .ok (.aload_n 0, 1) := by decide +kernel
theorem dX7_readEnd_1 : decode cX7_readEnd 1 = .ok (.getfield 27, 3) := by decide +kernel
theorem dX7_readEnd_4 : decode cX7_readEnd 4 = .ok (.iconst 4, 1) := by decide +kernel
theorem dX7_readEnd_5 : decode cX7_readEnd 5 = .ok (.if_icmp .eq 9, 3) := by decide +kernel
theorem dX7_readEnd_8 : decode cX7_readEnd 8 = .ok (.aload_n 0, 1) := by decide +kernel
theorem dX7_readEnd_9 : decode cX7_readEnd 9 = .ok (.iconst 1, 1) := by decide +kernel
theorem dX7_readEnd_10 : decode cX7_readEnd 10 = .ok (.invokevirtual 85, 3) := by decide +kernel
theorem dX7_readEnd_13 : decode cX7_readEnd 13 = .ok (.ireturn, 1) := by decide +kernel
theorem dX7_readEnd_14 : decode cX7_readEnd 14 = .ok (.aload_n 0, 1) := by decide +kernel
theorem dX7_readEnd_15 : decode cX7_readEnd 15 = .ok (.invokevirtual 95, 3) := by decide +kernel
theorem dX7_readEnd_18 : decode cX7_readEnd 18 = .ok (.iconst 1, 1) := by decide +kernel
theorem dX7_readEnd_19 : decode cX7_readEnd 19 = .ok (.ireturn, 1) := by decide +kernel
theorem dX7_lowOf_0 : decode cX7_lowOf 0 = .ok (.iload_n 0, 1) := by decide +kernel
theorem dX7_lowOf_1 : decode cX7_lowOf 1 = .ok (.iconst 3, 1) := by decide +kernel
theorem dX7_lowOf_2 : decode cX7_lowOf 2 = .ok (.if_icmp .ne 7, 3) := by decide +kernel
theorem dX7_lowOf_5 : decode cX7_lowOf 5 = .ok (.iconst 1, 1) := by decide +kernel
theorem dX7_lowOf_6 : decode cX7_lowOf 6 = .ok (.goto 14, 3) := by decide +kernel
theorem dX7_lowOf_9 : decode cX7_lowOf 9 = .ok (.iload_n 0, 1) := by decide +kernel
theorem dX7_lowOf_10 : decode cX7_lowOf 10 = .ok (.iconst 4, 1) := by decide +kernel
theorem dX7_lowOf_11 : decode cX7_lowOf 11 = .ok (.if_icmp .ne 8, 3) := by decide +kernel
theorem dX7_lowOf_14 : decode cX7_lowOf 14 = .ok (.bipush 10, 2) := by decide +kernel
theorem dX7_lowOf_16 : decode cX7_lowOf 16 = .ok (.goto 4, 3) := by decide +kernel
theorem dX7_lowOf_19 : decode cX7_lowOf 19 = .ok (.iconst 0, 1) := by decide +kernel
theorem dX7_lowOf_20 : decode cX7_lowOf 20 = .ok (.ireturn, 1) := by decide +kernel
theorem dX7_highOf_0 : decode cX7_highOf 0 = .ok (.iload_n 0, 1) := by decide +kernel
theorem dX7_highOf_1 : decode cX7_highOf 1 = .ok (.iconst 3, 1) := by decide +kernel
theorem dX7_highOf_2 : decode cX7_highOf 2 = .ok (.if_icmp .ne 9, 3) := by decide +kernel
theorem dX7_highOf_5 : decode cX7_highOf 5 = .ok (.sipush 200, 3) := by decide +kernel
theorem dX7_highOf_8 : decode cX7_highOf 8 = .ok (.goto 16, 3) := by decide +kernel
theorem dX7_highOf_11 : decode cX7_highOf 11 = .ok (.iload_n 0, 1) := by decide +kernel
theorem dX7_highOf_12 : decode cX7_highOf 12 = .ok (.iconst 4, 1) := by decide +kernel
theorem dX7_highOf_13 : decode cX7_highOf 13 = .ok (.if_icmp .ne 8, 3) := by decide +kernel
theorem dX7_highOf_16 : decode cX7_highOf 16 = .ok (.bipush 100, 2) := by decide +kernel
theorem dX7_highOf_18 : decode cX7_highOf 18 = .ok (.goto 6, 3) := by decide +kernel
theorem dX7_highOf_21 : decode cX7_highOf 21 = .ok (.sipush 999, 3) := by decide +kernel
theorem dX7_highOf_24 : decode cX7_highOf 24 = .ok (.ireturn, 1) := by decide +kernel
set_option maxRecDepth 20000 in
theorem ggX7_readNode_X7_bad : GoodIn wsX7_readNode wsX7_bad := goodIn_r _ [8, 2, 9, 10, 11, 42, 43, 44, 45, 46, 47, 48, 49, 50, 51, 52, 53, 54, 55, 56, 57, 58] (by decide +kernel) (by decide +kernel)
set_option maxRecDepth 20000 in
theorem gX7_readNode_X7_bad : GoodIn wsX7_readNode (wsV RX7 85 RX7 yX7_bad wsX7_bad) := goodIn_app (goodIn_of _ (by decide +kernel)) ggX7_readNode_X7_bad
set_option maxRecDepth 20000 in
theorem ggX7_readNode_X7_go : GoodIn wsX7_readNode wsX7_go := goodIn_r _ [15, 16, 17, 18, 10, 2, 19, 3, 20, 21, 22, 23, 7, 24, 25, 26, 27, 28, 29, 30, 31, 42, 43, 44, 45, 46, 47, 48, 49, 50, 51, 52, 53, 54, 55, 56, 57, 58] (by decide +kernel) (by decide +kernel)
set_option maxRecDepth 20000 in
theorem gX7_readNode_X7_go : GoodIn wsX7_readNode (wsV RX7 95 RX7 yX7_go wsX7_go) := goodIn_app (goodIn_of _ (by decide +kernel)) ggX7_readNode_X7_go
set_option maxRecDepth 20000 in
theorem ggX7_readNode_X7_adds : GoodIn wsX7_readNode wsX7_adds := goodIn_r _ [34, 35, 36, 7, 37] (by decide +kernel) (by decide +kernel)
set_option maxRecDepth 20000 in
theorem gX7_readNode_X7_adds : GoodIn wsX7_readNode (va_wsS RX7 98 yX7_adds wsX7_adds) := goodIn_app (goodIn_of _ (by decide +kernel)) ggX7_readNode_X7_adds
set_option maxRecDepth 20000 in
theorem ggX7_readNode_X7_readEnd : GoodIn wsX7_readNode wsX7_readEnd := goodIn_r _ [41, 2, 4, 5, 6, 7, 8, 9, 10, 11, 12, 13, 14, 15, 16, 17, 18, 19, 3, 20, 21, 22, 23, 24, 25, 26, 27, 28, 29, 30, 31, 42, 43, 44, 45, 46, 47, 48, 49, 50, 51, 52, 53, 54, 55, 56, 57, 58] (by decide +kernel) (by decide +kernel)
set_option maxRecDepth 20000 in
theorem gX7_readNode_X7_readEnd : GoodIn wsX7_readNode (wsV RX7 102 RX7 yX7_readEnd wsX7_readEnd) := goodIn_app (goodIn_of _ (by decide +kernel)) ggX7_readNode_X7_readEnd
theorem dX7_readNode_0 : decode cX7_readNode 0 = .ok (.aload_n 0, 1) := by decide +kernel
theorem dX7_readNode_1 : decode cX7_readNode 1 = .ok (.getfield 67, 3) := by decide +kernel
theorem dX7_readNode_4 : decode cX7_readNode 4 = .ok (.iconst 1, 1) := by decide +kernel
theorem dX7_readNode_5 : decode cX7_readNode 5 = .ok (.iaload, 1) := by decide +kernel
theorem dX7_readNode_6 : decode cX7_readNode 6 = .ok (.bipush 15, 2) := by decide +kernel
theorem dX7_readNode_8 : decode cX7_readNode 8 = .ok (.if_icmp .le 9, 3) := by decide +kernel
theorem dX7_readNode_11 : decode cX7_readNode 11 = .ok (.aload_n 0, 1) := by decide +kernel
theorem dX7_readNode_12 : decode cX7_readNode 12 = .ok (.iconst 3, 1) := by decide +kernel
theorem dX7_readNode_13 : decode cX7_readNode 13 = .ok (.invokevirtual 85, 3) := by decide +kernel
theorem dX7_readNode_16 : decode cX7_readNode 16 = .ok (.ireturn, 1) := by decide +kernel
theorem dX7_readNode_17 : decode cX7_readNode 17 = .ok (.aload_n 0, 1) := by decide +kernel
theorem dX7_readNode_18 : decode cX7_readNode 18 = .ok (.invokevirtual 95, 3) := by decide +kernel
theorem dX7_readNode_21 : decode cX7_readNode 21 = .ok (.aload_n 0, 1) := by decide +kernel
theorem dX7_readNode_22 : decode cX7_readNode 22 = .ok (.getfield 27, 3) := by decide +kernel
theorem dX7_readNode_25 : decode cX7_readNode 25 = .ok (.iconst 3, 1) := by decide +kernel
theorem dX7_readNode_26 : decode cX7_readNode 26 = .ok (.if_icmp .eq 9, 3) := by decide +kernel
theorem dX7_readNode_29 : decode cX7_readNode 29 = .ok (.aload_n 0, 1) := by decide +kernel
theorem dX7_readNode_30 : decode cX7_readNode 30 = .ok (.iconst 1, 1) := by decide +kernel
theorem dX7_readNode_31 : decode cX7_readNode 31 = .ok (.invokevirtual 85, 3) := by decide +kernel
theorem dX7_readNode_34 : decode cX7_readNode 34 = .ok (.ireturn, 1) := by decide +kernel
theorem dX7_readNode_35 : decode cX7_readNode 35 = .ok (.aload_n 0, 1) := by decide +kernel
theorem dX7_readNode_36 : decode cX7_readNode 36 = .ok (.getfield 41, 3) := by decide +kernel
theorem dX7_readNode_39 : decode cX7_readNode 39 = .ok (.aload_n 0, 1) := by decide +kernel
theorem dX7_readNode_40 : decode cX7_readNode 40 = .ok (.getfield 67, 3) := by decide +kernel
theorem dX7_readNode_43 : decode cX7_readNode 43 = .ok (.iconst 1, 1) := by decide +kernel
theorem dX7_readNode_44 : decode cX7_readNode 44 = .ok (.iaload, 1) := by decide +kernel
theorem dX7_readNode_45 : decode cX7_readNode 45 = .ok (.if_icmp .ge 18, 3) := by decide +kernel
theorem dX7_readNode_48 : decode cX7_readNode 48 = .ok (.aload_n 0, 1) := by decide +kernel
theorem dX7_readNode_49 : decode cX7_readNode 49 = .ok (.getfield 67, 3) := by decide +kernel
theorem dX7_readNode_52 : decode cX7_readNode 52 = .ok (.bipush 22, 2) := by decide +kernel
theorem dX7_readNode_54 : decode cX7_readNode 54 = .ok (.aload_n 0, 1) := by decide +kernel
theorem dX7_readNode_55 : decode cX7_readNode 55 = .ok (.getfield 41, 3) := by decide +kernel
theorem dX7_readNode_58 : decode cX7_readNode 58 = .ok (.iadd, 1) := by decide +kernel
theorem dX7_readNode_59 : decode cX7_readNode 59 = .ok (.iaload, 1) := by decide +kernel
theorem dX7_readNode_60 : decode cX7_readNode 60 = .ok (.ifCond .ne 9, 3) := by decide +kernel
theorem dX7_readNode_63 : decode cX7_readNode 63 = .ok (.aload_n 0, 1) := by decide +kernel
theorem dX7_readNode_64 : decode cX7_readNode 64 = .ok (.iconst 2, 1) := by decide +kernel
theorem dX7_readNode_65 : decode cX7_readNode 65 = .ok (.invokevirtual 85, 3) := by decide +kernel
theorem dX7_readNode_68 : decode cX7_readNode 68 = .ok (.ireturn, 1) := by decide +kernel
theorem dX7_readNode_69 : decode cX7_readNode 69 = .ok (.aload_n 0, 1) := by decide +kernel
theorem dX7_readNode_70 : decode cX7_readNode 70 = .ok (.getfield 67, 3) := by decide +kernel
theorem dX7_readNode_73 : decode cX7_readNode 73 = .ok (.aload_n 0, 1) := by decide +kernel
theorem dX7_readNode_74 : decode cX7_readNode 74 = .ok (.getfield 41, 3) := by decide +kernel
theorem dX7_readNode_77 : decode cX7_readNode 77 = .ok (.iload_n 1, 1) := by decide +kernel
theorem dX7_readNode_78 : decode cX7_readNode 78 = .ok (.invokestatic 98, 3) := by decide +kernel
theorem dX7_readNode_81 : decode cX7_readNode 81 = .ok (.aload_n 0, 1) := by decide +kernel
theorem dX7_readNode_82 : decode cX7_readNode 82 = .ok (.invokevirtual 95, 3) := by decide +kernel
theorem dX7_readNode_85 : decode cX7_readNode 85 = .ok (.aload_n 0, 1) := by decide +kernel
theorem dX7_readNode_86 : decode cX7_readNode 86 = .ok (.invokevirtual 102, 3) := by decide +kernel
theorem dX7_readNode_89 : decode cX7_readNode 89 = .ok (.ireturn, 1) := by decide +kernel
set_option maxRecDepth 20000 in
theorem ggX7_readSet_X7_go : GoodIn wsX7_readSet wsX7_go := goodIn_r _ [10, 11, 12, 13, 14, 1, 15, 2, 16, 17, 18, 19, 9, 20, 21, 22, 23, 24, 25, 26, 27, 54, 55, 56, 57, 58, 59, 60, 61, 62, 63, 64, 65, 66, 67, 68, 69, 70] (by decide +kernel) (by decide +kernel)
set_option maxRecDepth 20000 in
theorem gX7_readSet_X7_go : GoodIn wsX7_readSet (wsV RX7 95 RX7 yX7_go wsX7_go) := goodIn_app (goodIn_of _ (by decide +kernel)) ggX7_readSet_X7_go
set_option maxRecDepth 20000 in
theorem ggX7_readSet_X7_bad : GoodIn wsX7_readSet wsX7_bad := goodIn_r _ [31, 1, 32, 14, 33, 54, 55, 56, 57, 58, 59, 60, 61, 62, 63, 64, 65, 66, 67, 68, 69, 70] (by decide +kernel) (by decide +kernel)
set_option maxRecDepth 20000 in
theorem gX7_readSet_X7_bad : GoodIn wsX7_readSet (wsV RX7 85 RX7 yX7_bad wsX7_bad) := goodIn_app (goodIn_of _ (by decide +kernel)) ggX7_readSet_X7_bad
set_option maxRecDepth 20000 in
theorem ggX7_readSet_X7_lowOf : GoodIn wsX7_readSet wsX7_lowOf := goodIn_r _ [36] (by decide +kernel) (by decide +kernel)
set_option maxRecDepth 20000 in
theorem gX7_readSet_X7_lowOf : GoodIn wsX7_readSet (va_wsS RX7 106 yX7_lowOf wsX7_lowOf) := goodIn_app (goodIn_of _ (by decide +kernel)) ggX7_readSet_X7_lowOf
set_option maxRecDepth 20000 in
theorem ggX7_readSet_X7_highOf : GoodIn wsX7_readSet wsX7_highOf := goodIn_r _ [39] (by decide +kernel) (by decide +kernel)
set_option maxRecDepth 20000 in
theorem gX7_readSet_X7_highOf : GoodIn wsX7_readSet (va_wsS RX7 109 yX7_highOf wsX7_highOf) := goodIn_app (goodIn_of _ (by decide +kernel)) ggX7_readSet_X7_highOf
set_option maxRecDepth 20000 in
theorem ggX7_readSet_X7_takes : GoodIn wsX7_readSet wsX7_takes := goodIn_r _ [43, 1, 2, 5, 28, 29, 30, 9, 31, 32, 14, 33, 44, 45, 46, 6, 7, 8, 10, 11, 12, 13, 15, 16, 17, 18, 19, 20, 21, 22, 23, 24, 25, 26, 27, 54, 55, 56, 57, 58, 59, 60, 61, 62, 63, 64, 65, 66, 67, 68, 69, 70] (by decide +kernel) (by decide +kernel)
set_option maxRecDepth 20000 in
theorem gX7_readSet_X7_takes : GoodIn wsX7_readSet (wsV RX7 112 RX7 yX7_takes wsX7_takes) := goodIn_app (goodIn_of _ (by decide +kernel)) ggX7_readSet_X7_takes
set_option maxRecDepth 20000 in
theorem ggX7_readSet_X7_at : GoodIn wsX7_readSet wsX7_at := goodIn_r _ [49] (by decide +kernel) (by decide +kernel)
set_option maxRecDepth 20000 in
theorem gX7_readSet_X7_at : GoodIn wsX7_readSet (va_wsS RX7 81 yX7_at wsX7_at) := goodIn_app (goodIn_of _ (by decide +kernel)) ggX7_readSet_X7_at
set_option maxRecDepth 20000 in
theorem ggX7_readSet_X7_readEnd : GoodIn wsX7_readSet wsX7_readEnd := goodIn_r _ [53, 1, 28, 29, 30, 9, 31, 32, 14, 33, 6, 7, 8, 10, 11, 12, 13, 15, 2, 16, 17, 18, 19, 20, 21, 22, 23, 24, 25, 26, 27, 54, 55, 56, 57, 58, 59, 60, 61, 62, 63, 64, 65, 66, 67, 68, 69, 70] (by decide +kernel) (by decide +kernel)
set_option maxRecDepth 20000 in
theorem gX7_readSet_X7_readEnd : GoodIn wsX7_readSet (wsV RX7 102 RX7 yX7_readEnd wsX7_readEnd) := goodIn_app (goodIn_of _ (by decide +kernel)) ggX7_readSet_X7_readEnd
theorem dX7_readSet_0 : decode cX7_readSet 0 = .ok (.aload_n 0, 1) := by decide +kernel
theorem dX7_readSet_1 : decode cX7_readSet 1 = .ok (.invokevirtual 95, 3) := by decide +kernel
theorem dX7_readSet_4 : decode cX7_readSet 4 = .ok (.aload_n 0, 1) := by decide +kernel
theorem dX7_readSet_5 : decode cX7_readSet 5 = .ok (.getfield 27, 3) := by decide +kernel
theorem dX7_readSet_8 : decode cX7_readSet 8 = .ok (.iconst 3, 1) := by decide +kernel
theorem dX7_readSet_9 : decode cX7_readSet 9 = .ok (.if_icmp .eq 9, 3) := by decide +kernel
theorem dX7_readSet_12 : decode cX7_readSet 12 = .ok (.aload_n 0, 1) := by decide +kernel
theorem dX7_readSet_13 : decode cX7_readSet 13 = .ok (.iconst 1, 1) := by decide +kernel
theorem dX7_readSet_14 : decode cX7_readSet 14 = .ok (.invokevirtual 85, 3) := by decide +kernel
theorem dX7_readSet_17 : decode cX7_readSet 17 = .ok (.ireturn, 1) := by decide +kernel
theorem dX7_readSet_18 : decode cX7_readSet 18 = .ok (.aload_n 0, 1) := by decide +kernel
theorem dX7_readSet_19 : decode cX7_readSet 19 = .ok (.getfield 41, 3) := by decide +kernel
theorem dX7_readSet_22 : decode cX7_readSet 22 = .ok (.aload_n 0, 1) := by decide +kernel
theorem dX7_readSet_23 : decode cX7_readSet 23 = .ok (.getfield 67, 3) := by decide +kernel
theorem dX7_readSet_26 : decode cX7_readSet 26 = .ok (.iconst 1, 1) := by decide +kernel
theorem dX7_readSet_27 : decode cX7_readSet 27 = .ok (.iaload, 1) := by decide +kernel
theorem dX7_readSet_28 : decode cX7_readSet 28 = .ok (.if_icmp .ge 19, 3) := by decide +kernel
theorem dX7_readSet_31 : decode cX7_readSet 31 = .ok (.aload_n 0, 1) := by decide +kernel
theorem dX7_readSet_32 : decode cX7_readSet 32 = .ok (.getfield 67, 3) := by decide +kernel
theorem dX7_readSet_35 : decode cX7_readSet 35 = .ok (.bipush 22, 2) := by decide +kernel
theorem dX7_readSet_37 : decode cX7_readSet 37 = .ok (.aload_n 0, 1) := by decide +kernel
theorem dX7_readSet_38 : decode cX7_readSet 38 = .ok (.getfield 41, 3) := by decide +kernel
theorem dX7_readSet_41 : decode cX7_readSet 41 = .ok (.iadd, 1) := by decide +kernel
theorem dX7_readSet_42 : decode cX7_readSet 42 = .ok (.iaload, 1) := by decide +kernel
theorem dX7_readSet_43 : decode cX7_readSet 43 = .ok (.iconst 1, 1) := by decide +kernel
theorem dX7_readSet_44 : decode cX7_readSet 44 = .ok (.if_icmp .ne 9, 3) := by decide +kernel
theorem dX7_readSet_47 : decode cX7_readSet 47 = .ok (.aload_n 0, 1) := by decide +kernel
theorem dX7_readSet_48 : decode cX7_readSet 48 = .ok (.iconst 2, 1) := by decide +kernel
theorem dX7_readSet_49 : decode cX7_readSet 49 = .ok (.invokevirtual 85, 3) := by decide +kernel
theorem dX7_readSet_52 : decode cX7_readSet 52 = .ok (.ireturn, 1) := by decide +kernel
theorem dX7_readSet_53 : decode cX7_readSet 53 = .ok (.aload_n 0, 1) := by decide +kernel
theorem dX7_readSet_54 : decode cX7_readSet 54 = .ok (.getfield 41, 3) := by decide +kernel
theorem dX7_readSet_57 : decode cX7_readSet 57 = .ok (.istore_n 1, 1) := by decide +kernel
theorem dX7_readSet_58 : decode cX7_readSet 58 = .ok (.aload_n 0, 1) := by decide +kernel
theorem dX7_readSet_59 : decode cX7_readSet 59 = .ok (.invokevirtual 95, 3) := by decide +kernel
theorem dX7_readSet_62 : decode cX7_readSet 62 = .ok (.aload_n 0, 1) := by decide +kernel
theorem dX7_readSet_63 : decode cX7_readSet 63 = .ok (.getfield 27, 3) := by decide +kernel
theorem dX7_readSet_66 : decode cX7_readSet 66 = .ok (.iconst 3, 1) := by decide +kernel
theorem dX7_readSet_67 : decode cX7_readSet 67 = .ok (.if_icmp .eq 9, 3) := by decide +kernel
theorem dX7_readSet_70 : decode cX7_readSet 70 = .ok (.aload_n 0, 1) := by decide +kernel
theorem dX7_readSet_71 : decode cX7_readSet 71 = .ok (.iconst 1, 1) := by decide +kernel
theorem dX7_readSet_72 : decode cX7_readSet 72 = .ok (.invokevirtual 85, 3) := by decide +kernel
theorem dX7_readSet_75 : decode cX7_readSet 75 = .ok (.ireturn, 1) := by decide +kernel
theorem dX7_readSet_76 : decode cX7_readSet 76 = .ok (.aload_n 0, 1) := by decide +kernel
theorem dX7_readSet_77 : decode cX7_readSet 77 = .ok (.getfield 41, 3) := by decide +kernel
theorem dX7_readSet_80 : decode cX7_readSet 80 = .ok (.aload_n 0, 1) := by decide +kernel
theorem dX7_readSet_81 : decode cX7_readSet 81 = .ok (.getfield 67, 3) := by decide +kernel
theorem dX7_readSet_84 : decode cX7_readSet 84 = .ok (.iconst 0, 1) := by decide +kernel
theorem dX7_readSet_85 : decode cX7_readSet 85 = .ok (.iaload, 1) := by decide +kernel
theorem dX7_readSet_86 : decode cX7_readSet 86 = .ok (.if_icmp .ge 19, 3) := by decide +kernel
theorem dX7_readSet_89 : decode cX7_readSet 89 = .ok (.aload_n 0, 1) := by decide +kernel
theorem dX7_readSet_90 : decode cX7_readSet 90 = .ok (.getfield 73, 3) := by decide +kernel
theorem dX7_readSet_93 : decode cX7_readSet 93 = .ok (.iconst 4, 1) := by decide +kernel
theorem dX7_readSet_94 : decode cX7_readSet 94 = .ok (.iload_n 1, 1) := by decide +kernel
theorem dX7_readSet_95 : decode cX7_readSet 95 = .ok (.imul, 1) := by decide +kernel
theorem dX7_readSet_96 : decode cX7_readSet 96 = .ok (.aload_n 0, 1) := by decide +kernel
theorem dX7_readSet_97 : decode cX7_readSet 97 = .ok (.getfield 41, 3) := by decide +kernel
theorem dX7_readSet_100 : decode cX7_readSet 100 = .ok (.iadd, 1) := by decide +kernel
theorem dX7_readSet_101 : decode cX7_readSet 101 = .ok (.baload, 1) := by decide +kernel
theorem dX7_readSet_102 : decode cX7_readSet 102 = .ok (.ifCond .eq 9, 3) := by decide +kernel
theorem dX7_readSet_105 : decode cX7_readSet 105 = .ok (.aload_n 0, 1) := by decide +kernel
theorem dX7_readSet_106 : decode cX7_readSet 106 = .ok (.iconst 2, 1) := by decide +kernel
theorem dX7_readSet_107 : decode cX7_readSet 107 = .ok (.invokevirtual 85, 3) := by decide +kernel
theorem dX7_readSet_110 : decode cX7_readSet 110 = .ok (.ireturn, 1) := by decide +kernel
theorem dX7_readSet_111 : decode cX7_readSet 111 = .ok (.aload_n 0, 1) := by decide +kernel
theorem dX7_readSet_112 : decode cX7_readSet 112 = .ok (.getfield 41, 3) := by decide +kernel
theorem dX7_readSet_115 : decode cX7_readSet 115 = .ok (.istore_n 2, 1) := by decide +kernel
theorem dX7_readSet_116 : decode cX7_readSet 116 = .ok (.aload_n 0, 1) := by decide +kernel
theorem dX7_readSet_117 : decode cX7_readSet 117 = .ok (.getfield 73, 3) := by decide +kernel
theorem dX7_readSet_120 : decode cX7_readSet 120 = .ok (.iconst 4, 1) := by decide +kernel
theorem dX7_readSet_121 : decode cX7_readSet 121 = .ok (.iload_n 1, 1) := by decide +kernel
theorem dX7_readSet_122 : decode cX7_readSet 122 = .ok (.imul, 1) := by decide +kernel
theorem dX7_readSet_123 : decode cX7_readSet 123 = .ok (.iload_n 2, 1) := by decide +kernel
theorem dX7_readSet_124 : decode cX7_readSet 124 = .ok (.iadd, 1) := by decide +kernel
theorem dX7_readSet_125 : decode cX7_readSet 125 = .ok (.iconst 1, 1) := by decide +kernel
theorem dX7_readSet_126 : decode cX7_readSet 126 = .ok (.bastore, 1) := by decide +kernel
theorem dX7_readSet_127 : decode cX7_readSet 127 = .ok (.aload_n 0, 1) := by decide +kernel
theorem dX7_readSet_128 : decode cX7_readSet 128 = .ok (.invokevirtual 95, 3) := by decide +kernel
theorem dX7_readSet_131 : decode cX7_readSet 131 = .ok (.iconst 0, 1) := by decide +kernel
theorem dX7_readSet_132 : decode cX7_readSet 132 = .ok (.istore_n 3, 1) := by decide +kernel
theorem dX7_readSet_133 : decode cX7_readSet 133 = .ok (.iload_n 3, 1) := by decide +kernel
theorem dX7_readSet_134 : decode cX7_readSet 134 = .ok (.iconst 5, 1) := by decide +kernel
theorem dX7_readSet_135 : decode cX7_readSet 135 = .ok (.if_icmp .ge 41, 3) := by decide +kernel
theorem dX7_readSet_138 : decode cX7_readSet 138 = .ok (.aload_n 0, 1) := by decide +kernel
theorem dX7_readSet_139 : decode cX7_readSet 139 = .ok (.iload_n 3, 1) := by decide +kernel
theorem dX7_readSet_140 : decode cX7_readSet 140 = .ok (.invokestatic 106, 3) := by decide +kernel
theorem dX7_readSet_143 : decode cX7_readSet 143 = .ok (.iload_n 3, 1) := by decide +kernel
theorem dX7_readSet_144 : decode cX7_readSet 144 = .ok (.invokestatic 109, 3) := by decide +kernel
theorem dX7_readSet_147 : decode cX7_readSet 147 = .ok (.invokevirtual 112, 3) := by decide +kernel
theorem dX7_readSet_150 : decode cX7_readSet 150 = .ok (.ifCond .ne 5, 3) := by decide +kernel
theorem dX7_readSet_153 : decode cX7_readSet 153 = .ok (.iconst 0, 1) := by decide +kernel
theorem dX7_readSet_154 : decode cX7_readSet 154 = .ok (.ireturn, 1) := by decide +kernel
theorem dX7_readSet_155 : decode cX7_readSet 155 = .ok (.aload_n 0, 1) := by decide +kernel
theorem dX7_readSet_156 : decode cX7_readSet 156 = .ok (.getfield 67, 3) := by decide +kernel
theorem dX7_readSet_159 : decode cX7_readSet 159 = .ok (.iload_n 1, 1) := by decide +kernel
theorem dX7_readSet_160 : decode cX7_readSet 160 = .ok (.iload_n 2, 1) := by decide +kernel
theorem dX7_readSet_161 : decode cX7_readSet 161 = .ok (.iload_n 3, 1) := by decide +kernel
theorem dX7_readSet_162 : decode cX7_readSet 162 = .ok (.invokestatic 81, 3) := by decide +kernel
theorem dX7_readSet_165 : decode cX7_readSet 165 = .ok (.aload_n 0, 1) := by decide +kernel
theorem dX7_readSet_166 : decode cX7_readSet 166 = .ok (.getfield 92, 3) := by decide +kernel
theorem dX7_readSet_169 : decode cX7_readSet 169 = .ok (.iastore, 1) := by decide +kernel
theorem dX7_readSet_170 : decode cX7_readSet 170 = .ok (.iinc 3 1, 3) := by decide +kernel
theorem dX7_readSet_173 : decode cX7_readSet 173 = .ok (.goto (-40), 3) := by decide +kernel
theorem dX7_readSet_176 : decode cX7_readSet 176 = .ok (.aload_n 0, 1) := by decide +kernel
theorem dX7_readSet_177 : decode cX7_readSet 177 = .ok (.invokevirtual 102, 3) := by decide +kernel
theorem dX7_readSet_180 : decode cX7_readSet 180 = .ok (.ireturn, 1) := by decide +kernel
set_option maxRecDepth 20000 in
theorem ggX7_readLine_X7_three : GoodIn wsX7_readLine wsX7_three := goodIn_r _ [9, 4, 10] (by decide +kernel) (by decide +kernel)
set_option maxRecDepth 20000 in
theorem gX7_readLine_X7_three : GoodIn wsX7_readLine (va_wsS RX7 118 yX7_three wsX7_three) := goodIn_app (goodIn_of _ (by decide +kernel)) ggX7_readLine_X7_three
set_option maxRecDepth 20000 in
theorem ggX7_readLine_X7_isWord : GoodIn wsX7_readLine wsX7_isWord := goodIn_r _ [14, 15, 16, 76, 77, 78, 79, 80, 81, 82, 83, 84, 85, 86, 87, 88, 89, 90, 91, 92] (by decide +kernel) (by decide +kernel)
set_option maxRecDepth 20000 in
theorem gX7_readLine_X7_isWord : GoodIn wsX7_readLine (wsV RX7 126 RX7 yX7_isWord wsX7_isWord) := goodIn_app (goodIn_of _ (by decide +kernel)) ggX7_readLine_X7_isWord
set_option maxRecDepth 20000 in
theorem ggX7_readLine_X7_readNode : GoodIn wsX7_readLine wsX7_readNode := goodIn_r _ [20, 21, 15, 22, 23, 24, 25, 8, 26, 27, 28, 29, 30, 31, 32, 33, 34, 35, 36, 16, 4, 10, 37, 38, 39, 40, 41, 42, 43, 44, 45, 46, 47, 48, 49, 50, 51, 52, 53, 54, 55, 56, 76, 77, 78, 79, 80, 81, 82, 83, 84, 85, 86, 87, 88, 89, 90, 91, 92] (by decide +kernel) (by decide +kernel)
set_option maxRecDepth 20000 in
theorem gX7_readLine_X7_readNode : GoodIn wsX7_readLine (wsV RX7 130 RX7 yX7_readNode wsX7_readNode) := goodIn_app (goodIn_of _ (by decide +kernel)) ggX7_readLine_X7_readNode
set_option maxRecDepth 20000 in
theorem ggX7_readLine_X7_readSet : GoodIn wsX7_readLine wsX7_readSet := goodIn_r _ [60, 15, 22, 21, 61, 62, 30, 31, 32, 8, 33, 34, 35, 36, 28, 16, 4, 10, 37, 38, 39, 40, 41, 42, 43, 44, 45, 46, 23, 24, 25, 26, 27, 29, 63, 64, 65, 66, 67, 68, 69, 70, 71, 72, 73, 74, 75, 50, 51, 52, 53, 54, 55, 56, 76, 77, 78, 79, 80, 81, 82, 83, 84, 85, 86, 87, 88, 89, 90, 91, 92] (by decide +kernel) (by decide +kernel)
set_option maxRecDepth 20000 in
theorem gX7_readLine_X7_readSet : GoodIn wsX7_readLine (wsV RX7 136 RX7 yX7_readSet wsX7_readSet) := goodIn_app (goodIn_of _ (by decide +kernel)) ggX7_readLine_X7_readSet
set_option maxRecDepth 20000 in
theorem ggX7_readLine_X7_bad : GoodIn wsX7_readLine wsX7_bad := goodIn_r _ [26, 15, 27, 28, 29, 76, 77, 78, 79, 80, 81, 82, 83, 84, 85, 86, 87, 88, 89, 90, 91, 92] (by decide +kernel) (by decide +kernel)
set_option maxRecDepth 20000 in
theorem gX7_readLine_X7_bad : GoodIn wsX7_readLine (wsV RX7 85 RX7 yX7_bad wsX7_bad) := goodIn_app (goodIn_of _ (by decide +kernel)) ggX7_readLine_X7_bad
theorem dX7_readLine_0 : decode cX7_readLine 0 = .ok (.aload_n 0, 1) := by decide +kernel
theorem dX7_readLine_1 : decode cX7_readLine 1 = .ok (.ldc2_w 116, 3) := by decide +kernel
theorem dX7_readLine_4 : decode cX7_readLine 4 = .ok (.bipush 103, 2) := by decide +kernel
theorem dX7_readLine_6 : decode cX7_readLine 6 = .ok (.bipush 114, 2) := by decide +kernel
theorem dX7_readLine_8 : decode cX7_readLine 8 = .ok (.bipush 111, 2) := by decide +kernel
theorem dX7_readLine_10 : decode cX7_readLine 10 = .ok (.invokestatic 118, 3) := by decide +kernel
theorem dX7_readLine_13 : decode cX7_readLine 13 = .ok (.lmul, 1) := by decide +kernel
theorem dX7_readLine_14 : decode cX7_readLine 14 = .ok (.ldc2_w 122, 3) := by decide +kernel
theorem dX7_readLine_17 : decode cX7_readLine 17 = .ok (.ladd, 1) := by decide +kernel
theorem dX7_readLine_18 : decode cX7_readLine 18 = .ok (.ldc2_w 124, 3) := by decide +kernel
theorem dX7_readLine_21 : decode cX7_readLine 21 = .ok (.ladd, 1) := by decide +kernel
theorem dX7_readLine_22 : decode cX7_readLine 22 = .ok (.invokevirtual 126, 3) := by decide +kernel
theorem dX7_readLine_25 : decode cX7_readLine 25 = .ok (.ifCond .eq 9, 3) := by decide +kernel
theorem dX7_readLine_28 : decode cX7_readLine 28 = .ok (.aload_n 0, 1) := by decide +kernel
theorem dX7_readLine_29 : decode cX7_readLine 29 = .ok (.iconst 1, 1) := by decide +kernel
theorem dX7_readLine_30 : decode cX7_readLine 30 = .ok (.invokevirtual 130, 3) := by decide +kernel
theorem dX7_readLine_33 : decode cX7_readLine 33 = .ok (.ireturn, 1) := by decide +kernel
theorem dX7_readLine_34 : decode cX7_readLine 34 = .ok (.aload_n 0, 1) := by decide +kernel
theorem dX7_readLine_35 : decode cX7_readLine 35 = .ok (.ldc2_w 48, 3) := by decide +kernel
theorem dX7_readLine_38 : decode cX7_readLine 38 = .ok (.bipush 108, 2) := by decide +kernel
theorem dX7_readLine_40 : decode cX7_readLine 40 = .ok (.bipush 105, 2) := by decide +kernel
theorem dX7_readLine_42 : decode cX7_readLine 42 = .ok (.bipush 110, 2) := by decide +kernel
theorem dX7_readLine_44 : decode cX7_readLine 44 = .ok (.invokestatic 118, 3) := by decide +kernel
theorem dX7_readLine_47 : decode cX7_readLine 47 = .ok (.lmul, 1) := by decide +kernel
theorem dX7_readLine_48 : decode cX7_readLine 48 = .ok (.ldc2_w 134, 3) := by decide +kernel
theorem dX7_readLine_51 : decode cX7_readLine 51 = .ok (.ladd, 1) := by decide +kernel
theorem dX7_readLine_52 : decode cX7_readLine 52 = .ok (.invokevirtual 126, 3) := by decide +kernel
theorem dX7_readLine_55 : decode cX7_readLine 55 = .ok (.ifCond .eq 9, 3) := by decide +kernel
theorem dX7_readLine_58 : decode cX7_readLine 58 = .ok (.aload_n 0, 1) := by decide +kernel
theorem dX7_readLine_59 : decode cX7_readLine 59 = .ok (.iconst 0, 1) := by decide +kernel
theorem dX7_readLine_60 : decode cX7_readLine 60 = .ok (.invokevirtual 130, 3) := by decide +kernel
theorem dX7_readLine_63 : decode cX7_readLine 63 = .ok (.ireturn, 1) := by decide +kernel
theorem dX7_readLine_64 : decode cX7_readLine 64 = .ok (.aload_n 0, 1) := by decide +kernel
theorem dX7_readLine_65 : decode cX7_readLine 65 = .ok (.bipush 115, 2) := by decide +kernel
theorem dX7_readLine_67 : decode cX7_readLine 67 = .ok (.bipush 101, 2) := by decide +kernel
theorem dX7_readLine_69 : decode cX7_readLine 69 = .ok (.bipush 116, 2) := by decide +kernel
theorem dX7_readLine_71 : decode cX7_readLine 71 = .ok (.invokestatic 118, 3) := by decide +kernel
theorem dX7_readLine_74 : decode cX7_readLine 74 = .ok (.invokevirtual 126, 3) := by decide +kernel
theorem dX7_readLine_77 : decode cX7_readLine 77 = .ok (.ifCond .eq 10, 3) := by decide +kernel
theorem dX7_readLine_80 : decode cX7_readLine 80 = .ok (.aload_n 0, 1) := by decide +kernel
theorem dX7_readLine_81 : decode cX7_readLine 81 = .ok (.invokevirtual 136, 3) := by decide +kernel
theorem dX7_readLine_84 : decode cX7_readLine 84 = .ok (.goto 8, 3) := by decide +kernel
theorem dX7_readLine_87 : decode cX7_readLine 87 = .ok (.aload_n 0, 1) := by decide +kernel
theorem dX7_readLine_88 : decode cX7_readLine 88 = .ok (.iconst 1, 1) := by decide +kernel
theorem dX7_readLine_89 : decode cX7_readLine 89 = .ok (.invokevirtual 85, 3) := by decide +kernel
theorem dX7_readLine_92 : decode cX7_readLine 92 = .ok (.ireturn, 1) := by decide +kernel
set_option maxRecDepth 20000 in
theorem ggX7_readScenes_X7_three : GoodIn wsX7_readScenes wsX7_three := goodIn_r _ [7, 8, 9] (by decide +kernel) (by decide +kernel)
set_option maxRecDepth 20000 in
theorem gX7_readScenes_X7_three : GoodIn wsX7_readScenes (va_wsS RX7 118 yX7_three wsX7_three) := goodIn_app (goodIn_of _ (by decide +kernel)) ggX7_readScenes_X7_three
set_option maxRecDepth 20000 in
theorem ggX7_readScenes_X7_isWord : GoodIn wsX7_readScenes wsX7_isWord := goodIn_r _ [13, 14, 15, 52, 53, 54, 55, 56, 57, 58, 59, 60, 61, 62, 63, 64, 65, 66, 67, 68] (by decide +kernel) (by decide +kernel)
set_option maxRecDepth 20000 in
theorem gX7_readScenes_X7_isWord : GoodIn wsX7_readScenes (wsV RX7 126 RX7 yX7_isWord wsX7_isWord) := goodIn_app (goodIn_of _ (by decide +kernel)) ggX7_readScenes_X7_isWord
set_option maxRecDepth 20000 in
theorem ggX7_readScenes_X7_bad : GoodIn wsX7_readScenes wsX7_bad := goodIn_r _ [19, 14, 20, 21, 22, 52, 53, 54, 55, 56, 57, 58, 59, 60, 61, 62, 63, 64, 65, 66, 67, 68] (by decide +kernel) (by decide +kernel)
set_option maxRecDepth 20000 in
theorem gX7_readScenes_X7_bad : GoodIn wsX7_readScenes (wsV RX7 85 RX7 yX7_bad wsX7_bad) := goodIn_app (goodIn_of _ (by decide +kernel)) ggX7_readScenes_X7_bad
set_option maxRecDepth 20000 in
theorem ggX7_readScenes_X7_go : GoodIn wsX7_readScenes wsX7_go := goodIn_r _ [26, 27, 28, 29, 21, 14, 15, 30, 8, 9, 31, 32, 6, 33, 34, 35, 36, 37, 38, 39, 40, 52, 53, 54, 55, 56, 57, 58, 59, 60, 61, 62, 63, 64, 65, 66, 67, 68] (by decide +kernel) (by decide +kernel)
set_option maxRecDepth 20000 in
theorem gX7_readScenes_X7_go : GoodIn wsX7_readScenes (wsV RX7 95 RX7 yX7_go wsX7_go) := goodIn_app (goodIn_of _ (by decide +kernel)) ggX7_readScenes_X7_go
set_option maxRecDepth 20000 in
theorem ggX7_readScenes_X7_takes : GoodIn wsX7_readScenes wsX7_takes := goodIn_r _ [44, 14, 30, 3, 16, 17, 18, 6, 19, 20, 21, 22, 45, 46, 47, 23, 24, 25, 26, 27, 28, 29, 15, 8, 9, 31, 32, 33, 34, 35, 36, 37, 38, 39, 40, 52, 53, 54, 55, 56, 57, 58, 59, 60, 61, 62, 63, 64, 65, 66, 67, 68] (by decide +kernel) (by decide +kernel)
set_option maxRecDepth 20000 in
theorem gX7_readScenes_X7_takes : GoodIn wsX7_readScenes (wsV RX7 112 RX7 yX7_takes wsX7_takes) := goodIn_app (goodIn_of _ (by decide +kernel)) ggX7_readScenes_X7_takes
set_option maxRecDepth 20000 in
theorem ggX7_readScenes_X7_readEnd : GoodIn wsX7_readScenes wsX7_readEnd := goodIn_r _ [51, 14, 16, 17, 18, 6, 19, 20, 21, 22, 23, 24, 25, 26, 27, 28, 29, 15, 30, 8, 9, 31, 32, 33, 34, 35, 36, 37, 38, 39, 40, 52, 53, 54, 55, 56, 57, 58, 59, 60, 61, 62, 63, 64, 65, 66, 67, 68] (by decide +kernel) (by decide +kernel)
set_option maxRecDepth 20000 in
theorem gX7_readScenes_X7_readEnd : GoodIn wsX7_readScenes (wsV RX7 102 RX7 yX7_readEnd wsX7_readEnd) := goodIn_app (goodIn_of _ (by decide +kernel)) ggX7_readScenes_X7_readEnd
theorem dX7_readScenes_0 : decode cX7_readScenes 0 = .ok (.aload_n 0, 1) := by decide +kernel
theorem dX7_readScenes_1 : decode cX7_readScenes 1 = .ok (.ldc2_w 139, 3) := by decide +kernel
theorem dX7_readScenes_4 : decode cX7_readScenes 4 = .ok (.bipush 115, 2) := by decide +kernel
theorem dX7_readScenes_6 : decode cX7_readScenes 6 = .ok (.bipush 99, 2) := by decide +kernel
theorem dX7_readScenes_8 : decode cX7_readScenes 8 = .ok (.bipush 101, 2) := by decide +kernel
theorem dX7_readScenes_10 : decode cX7_readScenes 10 = .ok (.invokestatic 118, 3) := by decide +kernel
theorem dX7_readScenes_13 : decode cX7_readScenes 13 = .ok (.lmul, 1) := by decide +kernel
theorem dX7_readScenes_14 : decode cX7_readScenes 14 = .ok (.bipush 110, 2) := by decide +kernel
theorem dX7_readScenes_16 : decode cX7_readScenes 16 = .ok (.bipush 101, 2) := by decide +kernel
theorem dX7_readScenes_18 : decode cX7_readScenes 18 = .ok (.bipush 115, 2) := by decide +kernel
theorem dX7_readScenes_20 : decode cX7_readScenes 20 = .ok (.invokestatic 118, 3) := by decide +kernel
theorem dX7_readScenes_23 : decode cX7_readScenes 23 = .ok (.ladd, 1) := by decide +kernel
theorem dX7_readScenes_24 : decode cX7_readScenes 24 = .ok (.invokevirtual 126, 3) := by decide +kernel
theorem dX7_readScenes_27 : decode cX7_readScenes 27 = .ok (.ifCond .ne 9, 3) := by decide +kernel
theorem dX7_readScenes_30 : decode cX7_readScenes 30 = .ok (.aload_n 0, 1) := by decide +kernel
theorem dX7_readScenes_31 : decode cX7_readScenes 31 = .ok (.iconst 1, 1) := by decide +kernel
theorem dX7_readScenes_32 : decode cX7_readScenes 32 = .ok (.invokevirtual 85, 3) := by decide +kernel
theorem dX7_readScenes_35 : decode cX7_readScenes 35 = .ok (.ireturn, 1) := by decide +kernel
theorem dX7_readScenes_36 : decode cX7_readScenes 36 = .ok (.aload_n 0, 1) := by decide +kernel
theorem dX7_readScenes_37 : decode cX7_readScenes 37 = .ok (.invokevirtual 95, 3) := by decide +kernel
theorem dX7_readScenes_40 : decode cX7_readScenes 40 = .ok (.aload_n 0, 1) := by decide +kernel
theorem dX7_readScenes_41 : decode cX7_readScenes 41 = .ok (.iconst 1, 1) := by decide +kernel
theorem dX7_readScenes_42 : decode cX7_readScenes 42 = .ok (.iconst 4, 1) := by decide +kernel
theorem dX7_readScenes_43 : decode cX7_readScenes 43 = .ok (.invokevirtual 112, 3) := by decide +kernel
theorem dX7_readScenes_46 : decode cX7_readScenes 46 = .ok (.ifCond .ne 5, 3) := by decide +kernel
theorem dX7_readScenes_49 : decode cX7_readScenes 49 = .ok (.iconst 0, 1) := by decide +kernel
theorem dX7_readScenes_50 : decode cX7_readScenes 50 = .ok (.ireturn, 1) := by decide +kernel
theorem dX7_readScenes_51 : decode cX7_readScenes 51 = .ok (.aload_n 0, 1) := by decide +kernel
theorem dX7_readScenes_52 : decode cX7_readScenes 52 = .ok (.getfield 67, 3) := by decide +kernel
theorem dX7_readScenes_55 : decode cX7_readScenes 55 = .ok (.iconst 0, 1) := by decide +kernel
theorem dX7_readScenes_56 : decode cX7_readScenes 56 = .ok (.aload_n 0, 1) := by decide +kernel
theorem dX7_readScenes_57 : decode cX7_readScenes 57 = .ok (.getfield 92, 3) := by decide +kernel
theorem dX7_readScenes_60 : decode cX7_readScenes 60 = .ok (.iastore, 1) := by decide +kernel
theorem dX7_readScenes_61 : decode cX7_readScenes 61 = .ok (.aload_n 0, 1) := by decide +kernel
theorem dX7_readScenes_62 : decode cX7_readScenes 62 = .ok (.invokevirtual 102, 3) := by decide +kernel
theorem dX7_readScenes_65 : decode cX7_readScenes 65 = .ok (.ireturn, 1) := by decide +kernel
set_option maxRecDepth 20000 in
theorem ggX7_text_X7_begins : GoodIn wsX7_text wsX7_begins := goodIn_r _ [15] (by decide +kernel) (by decide +kernel)
set_option maxRecDepth 20000 in
theorem gX7_text_X7_begins : GoodIn wsX7_text (va_wsS RX7 77 yX7_begins wsX7_begins) := goodIn_app (goodIn_of _ (by decide +kernel)) ggX7_text_X7_begins
set_option maxRecDepth 20000 in
theorem ggX7_text_X7_go : GoodIn wsX7_text wsX7_go := goodIn_r _ [19, 5, 3, 20, 21, 9, 22, 23, 24, 25, 26, 27, 14, 28, 29, 30, 31, 32, 33, 34, 35, 92, 93, 94, 95, 96, 97, 98, 99, 100, 101, 102, 103, 104, 105, 106, 107, 108] (by decide +kernel) (by decide +kernel)
set_option maxRecDepth 20000 in
theorem gX7_text_X7_go : GoodIn wsX7_text (wsV RX7 95 RX7 yX7_go wsX7_go) := goodIn_app (goodIn_of _ (by decide +kernel)) ggX7_text_X7_go
set_option maxRecDepth 20000 in
theorem ggX7_text_X7_readScenes : GoodIn wsX7_text wsX7_readScenes := goodIn_r _ [39, 40, 6, 41, 42, 43, 14, 44, 24, 25, 45, 46, 47, 48, 9, 22, 49, 50, 51, 52, 4, 21, 8, 16, 17, 18, 19, 5, 3, 20, 23, 26, 27, 28, 29, 30, 31, 32, 33, 34, 35, 53, 54, 55, 56, 57, 58, 59, 60, 61, 62, 63, 92, 93, 94, 95, 96, 97, 98, 99, 100, 101, 102, 103, 104, 105, 106, 107, 108] (by decide +kernel) (by decide +kernel)
set_option maxRecDepth 20000 in
theorem gX7_text_X7_readScenes : GoodIn wsX7_text (wsV RX7 141 RX7 yX7_readScenes wsX7_readScenes) := goodIn_app (goodIn_of _ (by decide +kernel)) ggX7_text_X7_readScenes
set_option maxRecDepth 20000 in
theorem ggX7_text_X7_readLine : GoodIn wsX7_text wsX7_readLine := goodIn_r _ [67, 68, 69, 70, 24, 71, 42, 43, 14, 44, 25, 45, 46, 47, 48, 9, 22, 72, 73, 74, 75, 6, 23, 49, 50, 51, 52, 4, 21, 8, 16, 17, 18, 19, 5, 3, 20, 26, 27, 28, 29, 30, 31, 32, 33, 34, 35, 76, 77, 78, 79, 80, 81, 60, 61, 62, 63, 82, 83, 84, 85, 7, 41, 86, 87, 88, 89, 90, 91, 53, 54, 55, 56, 57, 58, 59, 92, 93, 94, 95, 96, 97, 98, 99, 100, 101, 102, 103, 104, 105, 106, 107, 108] (by decide +kernel) (by decide +kernel)
set_option maxRecDepth 20000 in
theorem gX7_text_X7_readLine : GoodIn wsX7_text (wsV RX7 144 RX7 yX7_readLine wsX7_readLine) := goodIn_app (goodIn_of _ (by decide +kernel)) ggX7_text_X7_readLine
theorem dX7_text_0 : decode cX7_text 0 = .ok (.aload_n 0, 1) := by decide +kernel
theorem dX7_text_1 : decode cX7_text 1 = .ok (.iconst 0, 1) := by decide +kernel
theorem dX7_text_2 : decode cX7_text 2 = .ok (.putfield 1, 3) := by decide +kernel
theorem dX7_text_5 : decode cX7_text 5 = .ok (.aload_n 0, 1) := by decide +kernel
theorem dX7_text_6 : decode cX7_text 6 = .ok (.aload_n 0, 1) := by decide +kernel
theorem dX7_text_7 : decode cX7_text 7 = .ok (.getfield 11, 3) := by decide +kernel
theorem dX7_text_10 : decode cX7_text 10 = .ok (.putfield 18, 3) := by decide +kernel
theorem dX7_text_13 : decode cX7_text 13 = .ok (.aload_n 0, 1) := by decide +kernel
theorem dX7_text_14 : decode cX7_text 14 = .ok (.iconst 0, 1) := by decide +kernel
theorem dX7_text_15 : decode cX7_text 15 = .ok (.putfield 11, 3) := by decide +kernel
theorem dX7_text_18 : decode cX7_text 18 = .ok (.aload_n 0, 1) := by decide +kernel
theorem dX7_text_19 : decode cX7_text 19 = .ok (.iconst 0, 1) := by decide +kernel
theorem dX7_text_20 : decode cX7_text 20 = .ok (.putfield 52, 3) := by decide +kernel
theorem dX7_text_23 : decode cX7_text 23 = .ok (.aload_n 0, 1) := by decide +kernel
theorem dX7_text_24 : decode cX7_text 24 = .ok (.iconst 0, 1) := by decide +kernel
theorem dX7_text_25 : decode cX7_text 25 = .ok (.putfield 21, 3) := by decide +kernel
theorem dX7_text_28 : decode cX7_text 28 = .ok (.iconst 0, 1) := by decide +kernel
theorem dX7_text_29 : decode cX7_text 29 = .ok (.istore_n 1, 1) := by decide +kernel
theorem dX7_text_30 : decode cX7_text 30 = .ok (.iload_n 1, 1) := by decide +kernel
theorem dX7_text_31 : decode cX7_text 31 = .ok (.sipush 442, 3) := by decide +kernel
theorem dX7_text_34 : decode cX7_text 34 = .ok (.if_icmp .ge 16, 3) := by decide +kernel
theorem dX7_text_37 : decode cX7_text 37 = .ok (.aload_n 0, 1) := by decide +kernel
theorem dX7_text_38 : decode cX7_text 38 = .ok (.getfield 67, 3) := by decide +kernel
theorem dX7_text_41 : decode cX7_text 41 = .ok (.iload_n 1, 1) := by decide +kernel
theorem dX7_text_42 : decode cX7_text 42 = .ok (.iconst 0, 1) := by decide +kernel
theorem dX7_text_43 : decode cX7_text 43 = .ok (.iastore, 1) := by decide +kernel
theorem dX7_text_44 : decode cX7_text 44 = .ok (.iinc 1 1, 3) := by decide +kernel
theorem dX7_text_47 : decode cX7_text 47 = .ok (.goto (-17), 3) := by decide +kernel
theorem dX7_text_50 : decode cX7_text 50 = .ok (.iconst 0, 1) := by decide +kernel
theorem dX7_text_51 : decode cX7_text 51 = .ok (.istore_n 1, 1) := by decide +kernel
theorem dX7_text_52 : decode cX7_text 52 = .ok (.iload_n 1, 1) := by decide +kernel
theorem dX7_text_53 : decode cX7_text 53 = .ok (.bipush 80, 2) := by decide +kernel
theorem dX7_text_55 : decode cX7_text 55 = .ok (.if_icmp .ge 16, 3) := by decide +kernel
theorem dX7_text_58 : decode cX7_text 58 = .ok (.aload_n 0, 1) := by decide +kernel
theorem dX7_text_59 : decode cX7_text 59 = .ok (.getfield 73, 3) := by decide +kernel
theorem dX7_text_62 : decode cX7_text 62 = .ok (.iload_n 1, 1) := by decide +kernel
theorem dX7_text_63 : decode cX7_text 63 = .ok (.iconst 0, 1) := by decide +kernel
theorem dX7_text_64 : decode cX7_text 64 = .ok (.bastore, 1) := by decide +kernel
theorem dX7_text_65 : decode cX7_text 65 = .ok (.iinc 1 1, 3) := by decide +kernel
theorem dX7_text_68 : decode cX7_text 68 = .ok (.goto (-16), 3) := by decide +kernel
theorem dX7_text_71 : decode cX7_text 71 = .ok (.aload_n 0, 1) := by decide +kernel
theorem dX7_text_72 : decode cX7_text 72 = .ok (.getfield 67, 3) := by decide +kernel
theorem dX7_text_75 : decode cX7_text 75 = .ok (.invokestatic 77, 3) := by decide +kernel
theorem dX7_text_78 : decode cX7_text 78 = .ok (.aload_n 0, 1) := by decide +kernel
theorem dX7_text_79 : decode cX7_text 79 = .ok (.invokevirtual 95, 3) := by decide +kernel
theorem dX7_text_82 : decode cX7_text 82 = .ok (.aload_n 0, 1) := by decide +kernel
theorem dX7_text_83 : decode cX7_text 83 = .ok (.invokevirtual 141, 3) := by decide +kernel
theorem dX7_text_86 : decode cX7_text 86 = .ok (.ifCond .ne 10, 3) := by decide +kernel
theorem dX7_text_89 : decode cX7_text 89 = .ok (.iconst (-1), 1) := by decide +kernel
theorem dX7_text_90 : decode cX7_text 90 = .ok (.aload_n 0, 1) := by decide +kernel
theorem dX7_text_91 : decode cX7_text 91 = .ok (.getfield 55, 3) := by decide +kernel
theorem dX7_text_94 : decode cX7_text 94 = .ok (.isub, 1) := by decide +kernel
theorem dX7_text_95 : decode cX7_text 95 = .ok (.ireturn, 1) := by decide +kernel
theorem dX7_text_96 : decode cX7_text 96 = .ok (.iconst 1, 1) := by decide +kernel
theorem dX7_text_97 : decode cX7_text 97 = .ok (.istore_n 1, 1) := by decide +kernel
theorem dX7_text_98 : decode cX7_text 98 = .ok (.aload_n 0, 1) := by decide +kernel
theorem dX7_text_99 : decode cX7_text 99 = .ok (.getfield 27, 3) := by decide +kernel
theorem dX7_text_102 : decode cX7_text 102 = .ok (.ifCond .eq 23, 3) := by decide +kernel
theorem dX7_text_105 : decode cX7_text 105 = .ok (.aload_n 0, 1) := by decide +kernel
theorem dX7_text_106 : decode cX7_text 106 = .ok (.invokevirtual 144, 3) := by decide +kernel
theorem dX7_text_109 : decode cX7_text 109 = .ok (.ifCond .ne 10, 3) := by decide +kernel
theorem dX7_text_112 : decode cX7_text 112 = .ok (.iconst (-1), 1) := by decide +kernel
theorem dX7_text_113 : decode cX7_text 113 = .ok (.aload_n 0, 1) := by decide +kernel
theorem dX7_text_114 : decode cX7_text 114 = .ok (.getfield 55, 3) := by decide +kernel
theorem dX7_text_117 : decode cX7_text 117 = .ok (.isub, 1) := by decide +kernel
theorem dX7_text_118 : decode cX7_text 118 = .ok (.ireturn, 1) := by decide +kernel
theorem dX7_text_119 : decode cX7_text 119 = .ok (.iinc 1 1, 3) := by decide +kernel
theorem dX7_text_122 : decode cX7_text 122 = .ok (.goto (-24), 3) := by decide +kernel
theorem dX7_text_125 : decode cX7_text 125 = .ok (.iconst 0, 1) := by decide +kernel
theorem dX7_text_126 : decode cX7_text 126 = .ok (.istore_n 2, 1) := by decide +kernel
theorem dX7_text_127 : decode cX7_text 127 = .ok (.iload_n 2, 1) := by decide +kernel
theorem dX7_text_128 : decode cX7_text 128 = .ok (.sipush 442, 3) := by decide +kernel
theorem dX7_text_131 : decode cX7_text 131 = .ok (.if_icmp .ge 21, 3) := by decide +kernel
theorem dX7_text_134 : decode cX7_text 134 = .ok (.aload_n 0, 1) := by decide +kernel
theorem dX7_text_135 : decode cX7_text 135 = .ok (.getfield 64, 3) := by decide +kernel
theorem dX7_text_138 : decode cX7_text 138 = .ok (.iload_n 2, 1) := by decide +kernel
theorem dX7_text_139 : decode cX7_text 139 = .ok (.aload_n 0, 1) := by decide +kernel
theorem dX7_text_140 : decode cX7_text 140 = .ok (.getfield 67, 3) := by decide +kernel
theorem dX7_text_143 : decode cX7_text 143 = .ok (.iload_n 2, 1) := by decide +kernel
theorem dX7_text_144 : decode cX7_text 144 = .ok (.iaload, 1) := by decide +kernel
theorem dX7_text_145 : decode cX7_text 145 = .ok (.iastore, 1) := by decide +kernel
theorem dX7_text_146 : decode cX7_text 146 = .ok (.iinc 2 1, 3) := by decide +kernel
theorem dX7_text_149 : decode cX7_text 149 = .ok (.goto (-22), 3) := by decide +kernel
theorem dX7_text_152 : decode cX7_text 152 = .ok (.aload_n 0, 1) := by decide +kernel
theorem dX7_text_153 : decode cX7_text 153 = .ok (.iconst 0, 1) := by decide +kernel
theorem dX7_text_154 : decode cX7_text 154 = .ok (.putfield 147, 3) := by decide +kernel
theorem dX7_text_157 : decode cX7_text 157 = .ok (.iload_n 1, 1) := by decide +kernel
theorem dX7_text_158 : decode cX7_text 158 = .ok (.ireturn, 1) := by decide +kernel
theorem dX7_fault_0 : decode cX7_fault 0 = .ok (.aload_n 0, 1) := by decide +kernel
theorem dX7_fault_1 : decode cX7_fault 1 = .ok (.iconst 0, 1) := by decide +kernel
theorem dX7_fault_2 : decode cX7_fault 2 = .ok (.putfield 1, 3) := by decide +kernel
theorem dX7_fault_5 : decode cX7_fault 5 = .ok (.aload_n 0, 1) := by decide +kernel
theorem dX7_fault_6 : decode cX7_fault 6 = .ok (.getfield 52, 3) := by decide +kernel
theorem dX7_fault_9 : decode cX7_fault 9 = .ok (.ireturn, 1) := by decide +kernel
set_option maxRecDepth 20000 in
theorem ggX7_isNode_X7_isIn : GoodIn wsX7_isNode wsX7_isIn := goodIn_r _ [5] (by decide +kernel) (by decide +kernel)
set_option maxRecDepth 20000 in
theorem gX7_isNode_X7_isIn : GoodIn wsX7_isNode (va_wsS RX7 88 yX7_isIn wsX7_isIn) := goodIn_app (goodIn_of _ (by decide +kernel)) ggX7_isNode_X7_isIn
theorem dX7_isNode_0 : decode cX7_isNode 0 = .ok (.iload_n 1, 1) := by decide +kernel
theorem dX7_isNode_1 : decode cX7_isNode 1 = .ok (.iconst 0, 1) := by decide +kernel
theorem dX7_isNode_2 : decode cX7_isNode 2 = .ok (.aload_n 0, 1) := by decide +kernel
theorem dX7_isNode_3 : decode cX7_isNode 3 = .ok (.getfield 64, 3) := by decide +kernel
theorem dX7_isNode_6 : decode cX7_isNode 6 = .ok (.iconst 1, 1) := by decide +kernel
theorem dX7_isNode_7 : decode cX7_isNode 7 = .ok (.iaload, 1) := by decide +kernel
theorem dX7_isNode_8 : decode cX7_isNode 8 = .ok (.iconst 1, 1) := by decide +kernel
theorem dX7_isNode_9 : decode cX7_isNode 9 = .ok (.isub, 1) := by decide +kernel
theorem dX7_isNode_10 : decode cX7_isNode 10 = .ok (.invokestatic 88, 3) := by decide +kernel
theorem dX7_isNode_13 : decode cX7_isNode 13 = .ok (.ireturn, 1) := by decide +kernel
set_option maxRecDepth 20000 in
theorem ggX7_isGroup_X7_isNode : GoodIn wsX7_isGroup wsX7_isNode := goodIn_r _ [6, 1, 7, 8, 5, 9, 10, 11, 12, 13, 14, 15, 16, 17, 18, 19, 20, 21, 22, 23, 24, 25, 26] (by decide +kernel) (by decide +kernel)
set_option maxRecDepth 20000 in
theorem gX7_isGroup_X7_isNode : GoodIn wsX7_isGroup (wsV RX7 150 RX7 yX7_isNode wsX7_isNode) := goodIn_app (goodIn_of _ (by decide +kernel)) ggX7_isGroup_X7_isNode
theorem dX7_isGroup_0 : decode cX7_isGroup 0 = .ok (.aload_n 0, 1) := by decide +kernel
theorem dX7_isGroup_1 : decode cX7_isGroup 1 = .ok (.iload_n 1, 1) := by decide +kernel
theorem dX7_isGroup_2 : decode cX7_isGroup 2 = .ok (.invokevirtual 150, 3) := by decide +kernel
theorem dX7_isGroup_5 : decode cX7_isGroup 5 = .ok (.ifCond .eq 20, 3) := by decide +kernel
theorem dX7_isGroup_8 : decode cX7_isGroup 8 = .ok (.aload_n 0, 1) := by decide +kernel
theorem dX7_isGroup_9 : decode cX7_isGroup 9 = .ok (.getfield 64, 3) := by decide +kernel
theorem dX7_isGroup_12 : decode cX7_isGroup 12 = .ok (.bipush 22, 2) := by decide +kernel
theorem dX7_isGroup_14 : decode cX7_isGroup 14 = .ok (.iload_n 1, 1) := by decide +kernel
theorem dX7_isGroup_15 : decode cX7_isGroup 15 = .ok (.iadd, 1) := by decide +kernel
theorem dX7_isGroup_16 : decode cX7_isGroup 16 = .ok (.iaload, 1) := by decide +kernel
theorem dX7_isGroup_17 : decode cX7_isGroup 17 = .ok (.iconst 1, 1) := by decide +kernel
theorem dX7_isGroup_18 : decode cX7_isGroup 18 = .ok (.if_icmp .ne 7, 3) := by decide +kernel
theorem dX7_isGroup_21 : decode cX7_isGroup 21 = .ok (.iconst 1, 1) := by decide +kernel
theorem dX7_isGroup_22 : decode cX7_isGroup 22 = .ok (.goto 4, 3) := by decide +kernel
theorem dX7_isGroup_25 : decode cX7_isGroup 25 = .ok (.iconst 0, 1) := by decide +kernel
theorem dX7_isGroup_26 : decode cX7_isGroup 26 = .ok (.ireturn, 1) := by decide +kernel
set_option maxRecDepth 20000 in
theorem ggX7_isLeaf_X7_isNode : GoodIn wsX7_isLeaf wsX7_isNode := goodIn_r _ [6, 1, 7, 8, 5, 9, 10, 11, 12, 13, 14, 15, 16, 17, 18, 19, 20, 21, 22, 23, 24, 25, 26] (by decide +kernel) (by decide +kernel)
set_option maxRecDepth 20000 in
theorem gX7_isLeaf_X7_isNode : GoodIn wsX7_isLeaf (wsV RX7 150 RX7 yX7_isNode wsX7_isNode) := goodIn_app (goodIn_of _ (by decide +kernel)) ggX7_isLeaf_X7_isNode
theorem dX7_isLeaf_0 : decode cX7_isLeaf 0 = .ok (.aload_n 0, 1) := by decide +kernel
theorem dX7_isLeaf_1 : decode cX7_isLeaf 1 = .ok (.iload_n 1, 1) := by decide +kernel
theorem dX7_isLeaf_2 : decode cX7_isLeaf 2 = .ok (.invokevirtual 150, 3) := by decide +kernel
theorem dX7_isLeaf_5 : decode cX7_isLeaf 5 = .ok (.ifCond .eq 19, 3) := by decide +kernel
theorem dX7_isLeaf_8 : decode cX7_isLeaf 8 = .ok (.aload_n 0, 1) := by decide +kernel
theorem dX7_isLeaf_9 : decode cX7_isLeaf 9 = .ok (.getfield 64, 3) := by decide +kernel
theorem dX7_isLeaf_12 : decode cX7_isLeaf 12 = .ok (.bipush 22, 2) := by decide +kernel
theorem dX7_isLeaf_14 : decode cX7_isLeaf 14 = .ok (.iload_n 1, 1) := by decide +kernel
theorem dX7_isLeaf_15 : decode cX7_isLeaf 15 = .ok (.iadd, 1) := by decide +kernel
theorem dX7_isLeaf_16 : decode cX7_isLeaf 16 = .ok (.iaload, 1) := by decide +kernel
theorem dX7_isLeaf_17 : decode cX7_isLeaf 17 = .ok (.ifCond .ne 7, 3) := by decide +kernel
theorem dX7_isLeaf_20 : decode cX7_isLeaf 20 = .ok (.iconst 1, 1) := by decide +kernel
theorem dX7_isLeaf_21 : decode cX7_isLeaf 21 = .ok (.goto 4, 3) := by decide +kernel
theorem dX7_isLeaf_24 : decode cX7_isLeaf 24 = .ok (.iconst 0, 1) := by decide +kernel
theorem dX7_isLeaf_25 : decode cX7_isLeaf 25 = .ok (.ireturn, 1) := by decide +kernel
set_option maxRecDepth 20000 in
theorem ggX7_isScene_X7_isIn : GoodIn wsX7_isScene wsX7_isIn := goodIn_r _ [5] (by decide +kernel) (by decide +kernel)
set_option maxRecDepth 20000 in
theorem gX7_isScene_X7_isIn : GoodIn wsX7_isScene (va_wsS RX7 88 yX7_isIn wsX7_isIn) := goodIn_app (goodIn_of _ (by decide +kernel)) ggX7_isScene_X7_isIn
theorem dX7_isScene_0 : decode cX7_isScene 0 = .ok (.iload_n 1, 1) := by decide +kernel
theorem dX7_isScene_1 : decode cX7_isScene 1 = .ok (.iconst 0, 1) := by decide +kernel
theorem dX7_isScene_2 : decode cX7_isScene 2 = .ok (.aload_n 0, 1) := by decide +kernel
theorem dX7_isScene_3 : decode cX7_isScene 3 = .ok (.getfield 64, 3) := by decide +kernel
theorem dX7_isScene_6 : decode cX7_isScene 6 = .ok (.iconst 0, 1) := by decide +kernel
theorem dX7_isScene_7 : decode cX7_isScene 7 = .ok (.iaload, 1) := by decide +kernel
theorem dX7_isScene_8 : decode cX7_isScene 8 = .ok (.iconst 1, 1) := by decide +kernel
theorem dX7_isScene_9 : decode cX7_isScene 9 = .ok (.isub, 1) := by decide +kernel
theorem dX7_isScene_10 : decode cX7_isScene 10 = .ok (.invokestatic 88, 3) := by decide +kernel
theorem dX7_isScene_13 : decode cX7_isScene 13 = .ok (.ireturn, 1) := by decide +kernel
set_option maxRecDepth 20000 in
theorem ggX7_areScenes_X7_isScene : GoodIn wsX7_areScenes wsX7_isScene := goodIn_r _ [5, 6, 7, 8, 4, 9, 10, 11, 12, 13, 14, 15, 16, 17, 18, 19, 20, 21, 22, 23, 24, 25, 26] (by decide +kernel) (by decide +kernel)
set_option maxRecDepth 20000 in
theorem gX7_areScenes_X7_isScene : GoodIn wsX7_areScenes (wsV RX7 153 RX7 yX7_isScene wsX7_isScene) := goodIn_app (goodIn_of _ (by decide +kernel)) ggX7_areScenes_X7_isScene
theorem dX7_areScenes_0 : decode cX7_areScenes 0 = .ok (.aload_n 0, 1) := by decide +kernel
theorem dX7_areScenes_1 : decode cX7_areScenes 1 = .ok (.iload_n 1, 1) := by decide +kernel
theorem dX7_areScenes_2 : decode cX7_areScenes 2 = .ok (.invokevirtual 153, 3) := by decide +kernel
theorem dX7_areScenes_5 : decode cX7_areScenes 5 = .ok (.ifCond .eq 15, 3) := by decide +kernel
theorem dX7_areScenes_8 : decode cX7_areScenes 8 = .ok (.aload_n 0, 1) := by decide +kernel
theorem dX7_areScenes_9 : decode cX7_areScenes 9 = .ok (.iload_n 2, 1) := by decide +kernel
theorem dX7_areScenes_10 : decode cX7_areScenes 10 = .ok (.invokevirtual 153, 3) := by decide +kernel
theorem dX7_areScenes_13 : decode cX7_areScenes 13 = .ok (.ifCond .eq 7, 3) := by decide +kernel
theorem dX7_areScenes_16 : decode cX7_areScenes 16 = .ok (.iconst 1, 1) := by decide +kernel
theorem dX7_areScenes_17 : decode cX7_areScenes 17 = .ok (.goto 4, 3) := by decide +kernel
theorem dX7_areScenes_20 : decode cX7_areScenes 20 = .ok (.iconst 0, 1) := by decide +kernel
theorem dX7_areScenes_21 : decode cX7_areScenes 21 = .ok (.ireturn, 1) := by decide +kernel
set_option maxRecDepth 20000 in
theorem ggX7_isFactor_X7_isIn : GoodIn wsX7_isFactor wsX7_isIn := goodIn_r _ [4] (by decide +kernel) (by decide +kernel)
set_option maxRecDepth 20000 in
theorem gX7_isFactor_X7_isIn : GoodIn wsX7_isFactor (va_wsS RX7 88 yX7_isIn wsX7_isIn) := goodIn_app (goodIn_of _ (by decide +kernel)) ggX7_isFactor_X7_isIn
theorem dX7_isFactor_0 : decode cX7_isFactor 0 = .ok (.iload_n 0, 1) := by decide +kernel
theorem dX7_isFactor_1 : decode cX7_isFactor 1 = .ok (.iconst 0, 1) := by decide +kernel
theorem dX7_isFactor_2 : decode cX7_isFactor 2 = .ok (.iconst 4, 1) := by decide +kernel
theorem dX7_isFactor_3 : decode cX7_isFactor 3 = .ok (.invokestatic 88, 3) := by decide +kernel
theorem dX7_isFactor_6 : decode cX7_isFactor 6 = .ok (.ireturn, 1) := by decide +kernel
theorem dX7_parentOf_0 : decode cX7_parentOf 0 = .ok (.aload_n 0, 1) := by decide +kernel
theorem dX7_parentOf_1 : decode cX7_parentOf 1 = .ok (.getfield 64, 3) := by decide +kernel
theorem dX7_parentOf_4 : decode cX7_parentOf 4 = .ok (.iconst 2, 1) := by decide +kernel
theorem dX7_parentOf_5 : decode cX7_parentOf 5 = .ok (.iload_n 1, 1) := by decide +kernel
theorem dX7_parentOf_6 : decode cX7_parentOf 6 = .ok (.iadd, 1) := by decide +kernel
theorem dX7_parentOf_7 : decode cX7_parentOf 7 = .ok (.iaload, 1) := by decide +kernel
theorem dX7_parentOf_8 : decode cX7_parentOf 8 = .ok (.ireturn, 1) := by decide +kernel
set_option maxRecDepth 20000 in
theorem ggX7_isBelow_X7_parentOf : GoodIn wsX7_isBelow wsX7_parentOf := goodIn_r _ [5, 6, 7, 8, 9, 10, 11, 12, 13, 14, 15, 16, 17, 18, 19, 20, 21, 22, 23] (by decide +kernel) (by decide +kernel)
set_option maxRecDepth 20000 in
theorem gX7_isBelow_X7_parentOf : GoodIn wsX7_isBelow (wsV RX7 156 RX7 yX7_parentOf wsX7_parentOf) := goodIn_app (goodIn_of _ (by decide +kernel)) ggX7_isBelow_X7_parentOf
theorem dX7_isBelow_0 : decode cX7_isBelow 0 = .ok (.iload_n 1, 1) := by decide +kernel
theorem dX7_isBelow_1 : decode cX7_isBelow 1 = .ok (.istore_n 3, 1) := by decide +kernel
theorem dX7_isBelow_2 : decode cX7_isBelow 2 = .ok (.iload_n 3, 1) := by decide +kernel
theorem dX7_isBelow_3 : decode cX7_isBelow 3 = .ok (.iconst (-1), 1) := by decide +kernel
theorem dX7_isBelow_4 : decode cX7_isBelow 4 = .ok (.if_icmp .eq 17, 3) := by decide +kernel
theorem dX7_isBelow_7 : decode cX7_isBelow 7 = .ok (.iload_n 3, 1) := by decide +kernel
theorem dX7_isBelow_8 : decode cX7_isBelow 8 = .ok (.iload_n 2, 1) := by decide +kernel
theorem dX7_isBelow_9 : decode cX7_isBelow 9 = .ok (.if_icmp .eq 12, 3) := by decide +kernel
theorem dX7_isBelow_12 : decode cX7_isBelow 12 = .ok (.aload_n 0, 1) := by decide +kernel
theorem dX7_isBelow_13 : decode cX7_isBelow 13 = .ok (.iload_n 3, 1) := by decide +kernel
theorem dX7_isBelow_14 : decode cX7_isBelow 14 = .ok (.invokevirtual 156, 3) := by decide +kernel
theorem dX7_isBelow_17 : decode cX7_isBelow 17 = .ok (.istore_n 3, 1) := by decide +kernel
theorem dX7_isBelow_18 : decode cX7_isBelow 18 = .ok (.goto (-16), 3) := by decide +kernel
theorem dX7_isBelow_21 : decode cX7_isBelow 21 = .ok (.iload_n 3, 1) := by decide +kernel
theorem dX7_isBelow_22 : decode cX7_isBelow 22 = .ok (.iload_n 2, 1) := by decide +kernel
theorem dX7_isBelow_23 : decode cX7_isBelow 23 = .ok (.if_icmp .ne 7, 3) := by decide +kernel
theorem dX7_isBelow_26 : decode cX7_isBelow 26 = .ok (.iconst 1, 1) := by decide +kernel
theorem dX7_isBelow_27 : decode cX7_isBelow 27 = .ok (.goto 4, 3) := by decide +kernel
theorem dX7_isBelow_30 : decode cX7_isBelow 30 = .ok (.iconst 0, 1) := by decide +kernel
theorem dX7_isBelow_31 : decode cX7_isBelow 31 = .ok (.ireturn, 1) := by decide +kernel
set_option maxRecDepth 20000 in
theorem ggX7_isLeafOf_X7_isBelow : GoodIn wsX7_isLeafOf wsX7_isBelow := goodIn_r _ [6, 7, 8, 9, 5, 10, 1, 11, 12, 13, 14, 15, 16, 17, 18, 19, 20, 21, 22, 23, 24, 25, 26, 27] (by decide +kernel) (by decide +kernel)
set_option maxRecDepth 20000 in
theorem gX7_isLeafOf_X7_isBelow : GoodIn wsX7_isLeafOf (wsV RX7 159 RX7 yX7_isBelow wsX7_isBelow) := goodIn_app (goodIn_of _ (by decide +kernel)) ggX7_isLeafOf_X7_isBelow
theorem dX7_isLeafOf_0 : decode cX7_isLeafOf 0 = .ok (.aload_n 0, 1) := by decide +kernel
theorem dX7_isLeafOf_1 : decode cX7_isLeafOf 1 = .ok (.getfield 64, 3) := by decide +kernel
theorem dX7_isLeafOf_4 : decode cX7_isLeafOf 4 = .ok (.bipush 22, 2) := by decide +kernel
theorem dX7_isLeafOf_6 : decode cX7_isLeafOf 6 = .ok (.iload_n 1, 1) := by decide +kernel
theorem dX7_isLeafOf_7 : decode cX7_isLeafOf 7 = .ok (.iadd, 1) := by decide +kernel
theorem dX7_isLeafOf_8 : decode cX7_isLeafOf 8 = .ok (.iaload, 1) := by decide +kernel
theorem dX7_isLeafOf_9 : decode cX7_isLeafOf 9 = .ok (.ifCond .ne 16, 3) := by decide +kernel
theorem dX7_isLeafOf_12 : decode cX7_isLeafOf 12 = .ok (.aload_n 0, 1) := by decide +kernel
theorem dX7_isLeafOf_13 : decode cX7_isLeafOf 13 = .ok (.iload_n 1, 1) := by decide +kernel
theorem dX7_isLeafOf_14 : decode cX7_isLeafOf 14 = .ok (.iload_n 2, 1) := by decide +kernel
theorem dX7_isLeafOf_15 : decode cX7_isLeafOf 15 = .ok (.invokevirtual 159, 3) := by decide +kernel
theorem dX7_isLeafOf_18 : decode cX7_isLeafOf 18 = .ok (.ifCond .eq 7, 3) := by decide +kernel
theorem dX7_isLeafOf_21 : decode cX7_isLeafOf 21 = .ok (.iconst 1, 1) := by decide +kernel
theorem dX7_isLeafOf_22 : decode cX7_isLeafOf 22 = .ok (.goto 4, 3) := by decide +kernel
theorem dX7_isLeafOf_25 : decode cX7_isLeafOf 25 = .ok (.iconst 0, 1) := by decide +kernel
theorem dX7_isLeafOf_26 : decode cX7_isLeafOf 26 = .ok (.ireturn, 1) := by decide +kernel
set_option maxRecDepth 20000 in
theorem ggX7_leavesOf_X7_isLeafOf : GoodIn wsX7_leavesOf wsX7_isLeafOf := goodIn_r _ [6, 1, 7, 8, 9, 5, 10, 11, 12, 13, 14, 15, 16, 17, 18, 19, 20, 21, 22, 23, 24, 25, 26, 27, 28, 29, 30, 31] (by decide +kernel) (by decide +kernel)
set_option maxRecDepth 20000 in
theorem gX7_leavesOf_X7_isLeafOf : GoodIn wsX7_leavesOf (wsV RX7 162 RX7 yX7_isLeafOf wsX7_isLeafOf) := goodIn_app (goodIn_of _ (by decide +kernel)) ggX7_leavesOf_X7_isLeafOf
theorem dX7_leavesOf_0 : decode cX7_leavesOf 0 = .ok (.iconst 0, 1) := by decide +kernel
theorem dX7_leavesOf_1 : decode cX7_leavesOf 1 = .ok (.istore_n 2, 1) := by decide +kernel
theorem dX7_leavesOf_2 : decode cX7_leavesOf 2 = .ok (.iconst 0, 1) := by decide +kernel
theorem dX7_leavesOf_3 : decode cX7_leavesOf 3 = .ok (.istore_n 3, 1) := by decide +kernel
theorem dX7_leavesOf_4 : decode cX7_leavesOf 4 = .ok (.iload_n 3, 1) := by decide +kernel
theorem dX7_leavesOf_5 : decode cX7_leavesOf 5 = .ok (.aload_n 0, 1) := by decide +kernel
theorem dX7_leavesOf_6 : decode cX7_leavesOf 6 = .ok (.getfield 64, 3) := by decide +kernel
theorem dX7_leavesOf_9 : decode cX7_leavesOf 9 = .ok (.iconst 1, 1) := by decide +kernel
theorem dX7_leavesOf_10 : decode cX7_leavesOf 10 = .ok (.iaload, 1) := by decide +kernel
theorem dX7_leavesOf_11 : decode cX7_leavesOf 11 = .ok (.if_icmp .ge 24, 3) := by decide +kernel
theorem dX7_leavesOf_14 : decode cX7_leavesOf 14 = .ok (.aload_n 0, 1) := by decide +kernel
theorem dX7_leavesOf_15 : decode cX7_leavesOf 15 = .ok (.iload_n 3, 1) := by decide +kernel
theorem dX7_leavesOf_16 : decode cX7_leavesOf 16 = .ok (.iload_n 1, 1) := by decide +kernel
theorem dX7_leavesOf_17 : decode cX7_leavesOf 17 = .ok (.invokevirtual 162, 3) := by decide +kernel
theorem dX7_leavesOf_20 : decode cX7_leavesOf 20 = .ok (.ifCond .eq 9, 3) := by decide +kernel
theorem dX7_leavesOf_23 : decode cX7_leavesOf 23 = .ok (.iload_n 2, 1) := by decide +kernel
theorem dX7_leavesOf_24 : decode cX7_leavesOf 24 = .ok (.iconst 1, 1) := by decide +kernel
theorem dX7_leavesOf_25 : decode cX7_leavesOf 25 = .ok (.iload_n 3, 1) := by decide +kernel
theorem dX7_leavesOf_26 : decode cX7_leavesOf 26 = .ok (.ishl, 1) := by decide +kernel
theorem dX7_leavesOf_27 : decode cX7_leavesOf 27 = .ok (.ior, 1) := by decide +kernel
theorem dX7_leavesOf_28 : decode cX7_leavesOf 28 = .ok (.istore_n 2, 1) := by decide +kernel
theorem dX7_leavesOf_29 : decode cX7_leavesOf 29 = .ok (.iinc 3 1, 3) := by decide +kernel
theorem dX7_leavesOf_32 : decode cX7_leavesOf 32 = .ok (.goto (-28), 3) := by decide +kernel
theorem dX7_leavesOf_35 : decode cX7_leavesOf 35 = .ok (.iload_n 2, 1) := by decide +kernel
theorem dX7_leavesOf_36 : decode cX7_leavesOf 36 = .ok (.ireturn, 1) := by decide +kernel
theorem dX7_count_0 : decode cX7_count 0 = .ok (.iconst 0, 1) := by decide +kernel
theorem dX7_count_1 : decode cX7_count 1 = .ok (.istore_n 1, 1) := by decide +kernel
theorem dX7_count_2 : decode cX7_count 2 = .ok (.iconst 0, 1) := by decide +kernel
theorem dX7_count_3 : decode cX7_count 3 = .ok (.istore_n 2, 1) := by decide +kernel
theorem dX7_count_4 : decode cX7_count 4 = .ok (.iload_n 2, 1) := by decide +kernel
theorem dX7_count_5 : decode cX7_count 5 = .ok (.bipush 20, 2) := by decide +kernel
theorem dX7_count_7 : decode cX7_count 7 = .ok (.if_icmp .ge 17, 3) := by decide +kernel
theorem dX7_count_10 : decode cX7_count 10 = .ok (.iload_n 1, 1) := by decide +kernel
theorem dX7_count_11 : decode cX7_count 11 = .ok (.iload_n 0, 1) := by decide +kernel
theorem dX7_count_12 : decode cX7_count 12 = .ok (.iload_n 2, 1) := by decide +kernel
theorem dX7_count_13 : decode cX7_count 13 = .ok (.ishr, 1) := by decide +kernel
theorem dX7_count_14 : decode cX7_count 14 = .ok (.iconst 1, 1) := by decide +kernel
theorem dX7_count_15 : decode cX7_count 15 = .ok (.iand, 1) := by decide +kernel
theorem dX7_count_16 : decode cX7_count 16 = .ok (.iadd, 1) := by decide +kernel
theorem dX7_count_17 : decode cX7_count 17 = .ok (.istore_n 1, 1) := by decide +kernel
theorem dX7_count_18 : decode cX7_count 18 = .ok (.iinc 2 1, 3) := by decide +kernel
theorem dX7_count_21 : decode cX7_count 21 = .ok (.goto (-17), 3) := by decide +kernel
theorem dX7_count_24 : decode cX7_count 24 = .ok (.iload_n 1, 1) := by decide +kernel
theorem dX7_count_25 : decode cX7_count 25 = .ok (.ireturn, 1) := by decide +kernel
set_option maxRecDepth 20000 in
theorem ggX7_now_X7_leavesOf : GoodIn wsX7_now wsX7_leavesOf := goodIn_r _ [9, 2, 10, 11, 12, 8, 13, 14, 15, 16, 17, 18, 19, 20, 21, 25, 26, 27, 28, 29, 30, 31, 32, 33, 34, 35, 36, 37, 38, 39, 40, 41] (by decide +kernel) (by decide +kernel)
set_option maxRecDepth 20000 in
theorem gX7_now_X7_leavesOf : GoodIn wsX7_now (wsV RX7 165 RX7 yX7_leavesOf wsX7_leavesOf) := goodIn_app (goodIn_of _ (by decide +kernel)) ggX7_now_X7_leavesOf
set_option maxRecDepth 20000 in
theorem ggX7_now_X7_count : GoodIn wsX7_now wsX7_count := goodIn_r _ [24] (by decide +kernel) (by decide +kernel)
set_option maxRecDepth 20000 in
theorem gX7_now_X7_count : GoodIn wsX7_now (va_wsS RX7 168 yX7_count wsX7_count) := goodIn_app (goodIn_of _ (by decide +kernel)) ggX7_now_X7_count
theorem dX7_now_0 : decode cX7_now 0 = .ok (.aload_n 0, 1) := by decide +kernel
theorem dX7_now_1 : decode cX7_now 1 = .ok (.iconst 0, 1) := by decide +kernel
theorem dX7_now_2 : decode cX7_now 2 = .ok (.putfield 1, 3) := by decide +kernel
theorem dX7_now_5 : decode cX7_now 5 = .ok (.iload_n 1, 1) := by decide +kernel
theorem dX7_now_6 : decode cX7_now 6 = .ok (.tableswitch 60 0 4 #[34, 34, 41, 50, 55], 34) := by decide +kernel
theorem dX7_now_40 : decode cX7_now 40 = .ok (.aload_n 0, 1) := by decide +kernel
theorem dX7_now_41 : decode cX7_now 41 = .ok (.getfield 64, 3) := by decide +kernel
theorem dX7_now_44 : decode cX7_now 44 = .ok (.iload_n 1, 1) := by decide +kernel
theorem dX7_now_45 : decode cX7_now 45 = .ok (.iaload, 1) := by decide +kernel
theorem dX7_now_46 : decode cX7_now 46 = .ok (.ireturn, 1) := by decide +kernel
theorem dX7_now_47 : decode cX7_now 47 = .ok (.aload_n 0, 1) := by decide +kernel
theorem dX7_now_48 : decode cX7_now 48 = .ok (.iconst 0, 1) := by decide +kernel
theorem dX7_now_49 : decode cX7_now 49 = .ok (.invokevirtual 165, 3) := by decide +kernel
theorem dX7_now_52 : decode cX7_now 52 = .ok (.invokestatic 168, 3) := by decide +kernel
theorem dX7_now_55 : decode cX7_now 55 = .ok (.ireturn, 1) := by decide +kernel
theorem dX7_now_56 : decode cX7_now 56 = .ok (.aload_n 0, 1) := by decide +kernel
theorem dX7_now_57 : decode cX7_now 57 = .ok (.getfield 147, 3) := by decide +kernel
theorem dX7_now_60 : decode cX7_now 60 = .ok (.ireturn, 1) := by decide +kernel
theorem dX7_now_61 : decode cX7_now 61 = .ok (.aload_n 0, 1) := by decide +kernel
theorem dX7_now_62 : decode cX7_now 62 = .ok (.getfield 11, 3) := by decide +kernel
theorem dX7_now_65 : decode cX7_now 65 = .ok (.ireturn, 1) := by decide +kernel
theorem dX7_now_66 : decode cX7_now 66 = .ok (.iconst (-1), 1) := by decide +kernel
theorem dX7_now_67 : decode cX7_now 67 = .ok (.ireturn, 1) := by decide +kernel
set_option maxRecDepth 20000 in
theorem ggX7_node_X7_isNode : GoodIn wsX7_node wsX7_isNode := goodIn_r _ [7, 2, 8, 9, 6, 10, 31, 32, 33, 34, 35, 36, 37, 38, 39, 40, 41, 42, 43, 44, 45, 46, 47] (by decide +kernel) (by decide +kernel)
set_option maxRecDepth 20000 in
theorem gX7_node_X7_isNode : GoodIn wsX7_node (wsV RX7 150 RX7 yX7_isNode wsX7_isNode) := goodIn_app (goodIn_of _ (by decide +kernel)) ggX7_node_X7_isNode
set_option maxRecDepth 20000 in
theorem ggX7_node_X7_isIn : GoodIn wsX7_node wsX7_isIn := goodIn_r _ [10] (by decide +kernel) (by decide +kernel)
set_option maxRecDepth 20000 in
theorem gX7_node_X7_isIn : GoodIn wsX7_node (va_wsS RX7 88 yX7_isIn wsX7_isIn) := goodIn_app (goodIn_of _ (by decide +kernel)) ggX7_node_X7_isIn
set_option maxRecDepth 20000 in
theorem ggX7_node_X7_refuse : GoodIn wsX7_node wsX7_refuse := goodIn_r _ [14, 1, 31, 32, 33, 34, 35, 36, 37, 38, 39, 40, 41, 42, 43, 44, 45, 46, 47] (by decide +kernel) (by decide +kernel)
set_option maxRecDepth 20000 in
theorem gX7_node_X7_refuse : GoodIn wsX7_node (wsV RX7 171 RX7 yX7_refuse wsX7_refuse) := goodIn_app (goodIn_of _ (by decide +kernel)) ggX7_node_X7_refuse
set_option maxRecDepth 20000 in
theorem ggX7_node_X7_parentOf : GoodIn wsX7_node wsX7_parentOf := goodIn_r _ [18, 2, 31, 32, 33, 34, 35, 36, 37, 38, 39, 40, 41, 42, 43, 44, 45, 46, 47] (by decide +kernel) (by decide +kernel)
set_option maxRecDepth 20000 in
theorem gX7_node_X7_parentOf : GoodIn wsX7_node (wsV RX7 156 RX7 yX7_parentOf wsX7_parentOf) := goodIn_app (goodIn_of _ (by decide +kernel)) ggX7_node_X7_parentOf
set_option maxRecDepth 20000 in
theorem ggX7_node_X7_leavesOf : GoodIn wsX7_node wsX7_leavesOf := goodIn_r _ [22, 2, 23, 24, 25, 6, 26, 27, 28, 29, 30, 15, 16, 17, 18, 31, 32, 33, 34, 35, 36, 37, 38, 39, 40, 41, 42, 43, 44, 45, 46, 47] (by decide +kernel) (by decide +kernel)
set_option maxRecDepth 20000 in
theorem gX7_node_X7_leavesOf : GoodIn wsX7_node (wsV RX7 165 RX7 yX7_leavesOf wsX7_leavesOf) := goodIn_app (goodIn_of _ (by decide +kernel)) ggX7_node_X7_leavesOf
theorem dX7_node_0 : decode cX7_node 0 = .ok (.aload_n 0, 1) := by decide +kernel
theorem dX7_node_1 : decode cX7_node 1 = .ok (.iconst 0, 1) := by decide +kernel
theorem dX7_node_2 : decode cX7_node 2 = .ok (.putfield 1, 3) := by decide +kernel
theorem dX7_node_5 : decode cX7_node 5 = .ok (.aload_n 0, 1) := by decide +kernel
theorem dX7_node_6 : decode cX7_node 6 = .ok (.iload_n 1, 1) := by decide +kernel
theorem dX7_node_7 : decode cX7_node 7 = .ok (.invokevirtual 150, 3) := by decide +kernel
theorem dX7_node_10 : decode cX7_node 10 = .ok (.ifCond .eq 12, 3) := by decide +kernel
theorem dX7_node_13 : decode cX7_node 13 = .ok (.iload_n 2, 1) := by decide +kernel
theorem dX7_node_14 : decode cX7_node 14 = .ok (.iconst 0, 1) := by decide +kernel
theorem dX7_node_15 : decode cX7_node 15 = .ok (.iconst 3, 1) := by decide +kernel
theorem dX7_node_16 : decode cX7_node 16 = .ok (.invokestatic 88, 3) := by decide +kernel
theorem dX7_node_19 : decode cX7_node 19 = .ok (.ifCond .ne 8, 3) := by decide +kernel
theorem dX7_node_22 : decode cX7_node 22 = .ok (.aload_n 0, 1) := by decide +kernel
theorem dX7_node_23 : decode cX7_node 23 = .ok (.invokevirtual 171, 3) := by decide +kernel
theorem dX7_node_26 : decode cX7_node 26 = .ok (.ireturn, 1) := by decide +kernel
theorem dX7_node_27 : decode cX7_node 27 = .ok (.iload_n 2, 1) := by decide +kernel
theorem dX7_node_28 : decode cX7_node 28 = .ok (.ifCond .ne 9, 3) := by decide +kernel
theorem dX7_node_31 : decode cX7_node 31 = .ok (.aload_n 0, 1) := by decide +kernel
theorem dX7_node_32 : decode cX7_node 32 = .ok (.iload_n 1, 1) := by decide +kernel
theorem dX7_node_33 : decode cX7_node 33 = .ok (.invokevirtual 156, 3) := by decide +kernel
theorem dX7_node_36 : decode cX7_node 36 = .ok (.ireturn, 1) := by decide +kernel
theorem dX7_node_37 : decode cX7_node 37 = .ok (.iload_n 2, 1) := by decide +kernel
theorem dX7_node_38 : decode cX7_node 38 = .ok (.iconst 1, 1) := by decide +kernel
theorem dX7_node_39 : decode cX7_node 39 = .ok (.if_icmp .ne 13, 3) := by decide +kernel
theorem dX7_node_42 : decode cX7_node 42 = .ok (.aload_n 0, 1) := by decide +kernel
theorem dX7_node_43 : decode cX7_node 43 = .ok (.getfield 64, 3) := by decide +kernel
theorem dX7_node_46 : decode cX7_node 46 = .ok (.bipush 22, 2) := by decide +kernel
theorem dX7_node_48 : decode cX7_node 48 = .ok (.iload_n 1, 1) := by decide +kernel
theorem dX7_node_49 : decode cX7_node 49 = .ok (.iadd, 1) := by decide +kernel
theorem dX7_node_50 : decode cX7_node 50 = .ok (.iaload, 1) := by decide +kernel
theorem dX7_node_51 : decode cX7_node 51 = .ok (.ireturn, 1) := by decide +kernel
theorem dX7_node_52 : decode cX7_node 52 = .ok (.iload_n 2, 1) := by decide +kernel
theorem dX7_node_53 : decode cX7_node 53 = .ok (.iconst 3, 1) := by decide +kernel
theorem dX7_node_54 : decode cX7_node 54 = .ok (.if_icmp .ne 9, 3) := by decide +kernel
theorem dX7_node_57 : decode cX7_node 57 = .ok (.aload_n 0, 1) := by decide +kernel
theorem dX7_node_58 : decode cX7_node 58 = .ok (.iload_n 1, 1) := by decide +kernel
theorem dX7_node_59 : decode cX7_node 59 = .ok (.invokevirtual 165, 3) := by decide +kernel
theorem dX7_node_62 : decode cX7_node 62 = .ok (.ireturn, 1) := by decide +kernel
theorem dX7_node_63 : decode cX7_node 63 = .ok (.iconst 0, 1) := by decide +kernel
theorem dX7_node_64 : decode cX7_node 64 = .ok (.istore_n 3, 1) := by decide +kernel
theorem dX7_node_65 : decode cX7_node 65 = .ok (.iconst 1, 1) := by decide +kernel
theorem dX7_node_66 : decode cX7_node 66 = .ok (.istore 4, 2) := by decide +kernel
theorem dX7_node_68 : decode cX7_node 68 = .ok (.iload 4, 2) := by decide +kernel
theorem dX7_node_70 : decode cX7_node 70 = .ok (.aload_n 0, 1) := by decide +kernel
theorem dX7_node_71 : decode cX7_node 71 = .ok (.getfield 64, 3) := by decide +kernel
theorem dX7_node_74 : decode cX7_node 74 = .ok (.iconst 1, 1) := by decide +kernel
theorem dX7_node_75 : decode cX7_node 75 = .ok (.iaload, 1) := by decide +kernel
theorem dX7_node_76 : decode cX7_node 76 = .ok (.if_icmp .ge 26, 3) := by decide +kernel
theorem dX7_node_79 : decode cX7_node 79 = .ok (.aload_n 0, 1) := by decide +kernel
theorem dX7_node_80 : decode cX7_node 80 = .ok (.iload 4, 2) := by decide +kernel
theorem dX7_node_82 : decode cX7_node 82 = .ok (.invokevirtual 156, 3) := by decide +kernel
theorem dX7_node_85 : decode cX7_node 85 = .ok (.iload_n 1, 1) := by decide +kernel
theorem dX7_node_86 : decode cX7_node 86 = .ok (.if_icmp .ne 10, 3) := by decide +kernel
theorem dX7_node_89 : decode cX7_node 89 = .ok (.iload_n 3, 1) := by decide +kernel
theorem dX7_node_90 : decode cX7_node 90 = .ok (.iconst 1, 1) := by decide +kernel
theorem dX7_node_91 : decode cX7_node 91 = .ok (.iload 4, 2) := by decide +kernel
theorem dX7_node_93 : decode cX7_node 93 = .ok (.ishl, 1) := by decide +kernel
theorem dX7_node_94 : decode cX7_node 94 = .ok (.ior, 1) := by decide +kernel
theorem dX7_node_95 : decode cX7_node 95 = .ok (.istore_n 3, 1) := by decide +kernel
theorem dX7_node_96 : decode cX7_node 96 = .ok (.iinc 4 1, 3) := by decide +kernel
theorem dX7_node_99 : decode cX7_node 99 = .ok (.goto (-31), 3) := by decide +kernel
theorem dX7_node_102 : decode cX7_node 102 = .ok (.iload_n 3, 1) := by decide +kernel
theorem dX7_node_103 : decode cX7_node 103 = .ok (.ireturn, 1) := by decide +kernel
set_option maxRecDepth 20000 in
theorem ggX7_factor_X7_isLeaf : GoodIn wsX7_factor wsX7_isLeaf := goodIn_r _ [7, 2, 8, 9, 10, 6, 11, 12, 13, 14, 25, 26, 27, 28, 29, 30, 31, 32, 33, 34, 35, 36, 37, 38, 39, 40, 41] (by decide +kernel) (by decide +kernel)
set_option maxRecDepth 20000 in
theorem gX7_factor_X7_isLeaf : GoodIn wsX7_factor (wsV RX7 175 RX7 yX7_isLeaf wsX7_isLeaf) := goodIn_app (goodIn_of _ (by decide +kernel)) ggX7_factor_X7_isLeaf
set_option maxRecDepth 20000 in
theorem ggX7_factor_X7_isScene : GoodIn wsX7_factor wsX7_isScene := goodIn_r _ [18, 2, 12, 13, 6, 14, 25, 26, 27, 28, 29, 30, 31, 32, 33, 34, 35, 36, 37, 38, 39, 40, 41] (by decide +kernel) (by decide +kernel)
set_option maxRecDepth 20000 in
theorem gX7_factor_X7_isScene : GoodIn wsX7_factor (wsV RX7 153 RX7 yX7_isScene wsX7_isScene) := goodIn_app (goodIn_of _ (by decide +kernel)) ggX7_factor_X7_isScene
set_option maxRecDepth 20000 in
theorem ggX7_factor_X7_isFactor : GoodIn wsX7_factor wsX7_isFactor := goodIn_r _ [21, 12, 13, 6, 14] (by decide +kernel) (by decide +kernel)
set_option maxRecDepth 20000 in
theorem gX7_factor_X7_isFactor : GoodIn wsX7_factor (va_wsS RX7 178 yX7_isFactor wsX7_isFactor) := goodIn_app (goodIn_of _ (by decide +kernel)) ggX7_factor_X7_isFactor
set_option maxRecDepth 20000 in
theorem ggX7_factor_X7_at : GoodIn wsX7_factor wsX7_at := goodIn_r _ [24] (by decide +kernel) (by decide +kernel)
set_option maxRecDepth 20000 in
theorem gX7_factor_X7_at : GoodIn wsX7_factor (va_wsS RX7 81 yX7_at wsX7_at) := goodIn_app (goodIn_of _ (by decide +kernel)) ggX7_factor_X7_at
theorem dX7_factor_0 : decode cX7_factor 0 = .ok (.aload_n 0, 1) := by decide +kernel
theorem dX7_factor_1 : decode cX7_factor 1 = .ok (.iconst 0, 1) := by decide +kernel
theorem dX7_factor_2 : decode cX7_factor 2 = .ok (.putfield 1, 3) := by decide +kernel
theorem dX7_factor_5 : decode cX7_factor 5 = .ok (.aload_n 0, 1) := by decide +kernel
theorem dX7_factor_6 : decode cX7_factor 6 = .ok (.iload_n 1, 1) := by decide +kernel
theorem dX7_factor_7 : decode cX7_factor 7 = .ok (.invokevirtual 175, 3) := by decide +kernel
theorem dX7_factor_10 : decode cX7_factor 10 = .ok (.ifCond .eq 32, 3) := by decide +kernel
theorem dX7_factor_13 : decode cX7_factor 13 = .ok (.aload_n 0, 1) := by decide +kernel
theorem dX7_factor_14 : decode cX7_factor 14 = .ok (.iload_n 2, 1) := by decide +kernel
theorem dX7_factor_15 : decode cX7_factor 15 = .ok (.invokevirtual 153, 3) := by decide +kernel
theorem dX7_factor_18 : decode cX7_factor 18 = .ok (.ifCond .eq 24, 3) := by decide +kernel
theorem dX7_factor_21 : decode cX7_factor 21 = .ok (.iload_n 3, 1) := by decide +kernel
theorem dX7_factor_22 : decode cX7_factor 22 = .ok (.invokestatic 178, 3) := by decide +kernel
theorem dX7_factor_25 : decode cX7_factor 25 = .ok (.ifCond .eq 17, 3) := by decide +kernel
theorem dX7_factor_28 : decode cX7_factor 28 = .ok (.aload_n 0, 1) := by decide +kernel
theorem dX7_factor_29 : decode cX7_factor 29 = .ok (.getfield 64, 3) := by decide +kernel
theorem dX7_factor_32 : decode cX7_factor 32 = .ok (.iload_n 1, 1) := by decide +kernel
theorem dX7_factor_33 : decode cX7_factor 33 = .ok (.iload_n 2, 1) := by decide +kernel
theorem dX7_factor_34 : decode cX7_factor 34 = .ok (.iload_n 3, 1) := by decide +kernel
theorem dX7_factor_35 : decode cX7_factor 35 = .ok (.invokestatic 81, 3) := by decide +kernel
theorem dX7_factor_38 : decode cX7_factor 38 = .ok (.iaload, 1) := by decide +kernel
theorem dX7_factor_39 : decode cX7_factor 39 = .ok (.goto 4, 3) := by decide +kernel
theorem dX7_factor_42 : decode cX7_factor 42 = .ok (.iconst (-1), 1) := by decide +kernel
theorem dX7_factor_43 : decode cX7_factor 43 = .ok (.ireturn, 1) := by decide +kernel
set_option maxRecDepth 20000 in
theorem ggX7_factorOf_X7_at : GoodIn wsX7_factorOf wsX7_at := goodIn_r _ [5] (by decide +kernel) (by decide +kernel)
set_option maxRecDepth 20000 in
theorem gX7_factorOf_X7_at : GoodIn wsX7_factorOf (va_wsS RX7 81 yX7_at wsX7_at) := goodIn_app (goodIn_of _ (by decide +kernel)) ggX7_factorOf_X7_at
theorem dX7_factorOf_0 : decode cX7_factorOf 0 = .ok (.aload_n 0, 1) := by decide +kernel
theorem dX7_factorOf_1 : decode cX7_factorOf 1 = .ok (.getfield 64, 3) := by decide +kernel
theorem dX7_factorOf_4 : decode cX7_factorOf 4 = .ok (.iload_n 1, 1) := by decide +kernel
theorem dX7_factorOf_5 : decode cX7_factorOf 5 = .ok (.iload 4, 2) := by decide +kernel
theorem dX7_factorOf_7 : decode cX7_factorOf 7 = .ok (.iload 5, 2) := by decide +kernel
theorem dX7_factorOf_9 : decode cX7_factorOf 9 = .ok (.ishr, 1) := by decide +kernel
theorem dX7_factorOf_10 : decode cX7_factorOf 10 = .ok (.iconst 1, 1) := by decide +kernel
theorem dX7_factorOf_11 : decode cX7_factorOf 11 = .ok (.iand, 1) := by decide +kernel
theorem dX7_factorOf_12 : decode cX7_factorOf 12 = .ok (.iconst 1, 1) := by decide +kernel
theorem dX7_factorOf_13 : decode cX7_factorOf 13 = .ok (.if_icmp .ne 7, 3) := by decide +kernel
theorem dX7_factorOf_16 : decode cX7_factorOf 16 = .ok (.iload_n 3, 1) := by decide +kernel
theorem dX7_factorOf_17 : decode cX7_factorOf 17 = .ok (.goto 4, 3) := by decide +kernel
theorem dX7_factorOf_20 : decode cX7_factorOf 20 = .ok (.iload_n 2, 1) := by decide +kernel
theorem dX7_factorOf_21 : decode cX7_factorOf 21 = .ok (.iload 5, 2) := by decide +kernel
theorem dX7_factorOf_23 : decode cX7_factorOf 23 = .ok (.invokestatic 81, 3) := by decide +kernel
theorem dX7_factorOf_26 : decode cX7_factorOf 26 = .ok (.iaload, 1) := by decide +kernel
theorem dX7_factorOf_27 : decode cX7_factorOf 27 = .ok (.ireturn, 1) := by decide +kernel
set_option maxRecDepth 20000 in
theorem ggX7_valueOf_X7_factorOf : GoodIn wsX7_valueOf wsX7_factorOf := goodIn_r _ [5, 6, 7, 8, 4, 9, 10, 11, 12, 13, 14, 15, 16, 17, 18, 19, 20, 21, 22, 23, 24, 25, 26] (by decide +kernel) (by decide +kernel)
set_option maxRecDepth 20000 in
theorem gX7_valueOf_X7_factorOf : GoodIn wsX7_valueOf (wsV RX7 181 RX7 yX7_factorOf wsX7_factorOf) := goodIn_app (goodIn_of _ (by decide +kernel)) ggX7_valueOf_X7_factorOf
theorem dX7_valueOf_0 : decode cX7_valueOf 0 = .ok (.aload_n 0, 1) := by decide +kernel
theorem dX7_valueOf_1 : decode cX7_valueOf 1 = .ok (.iload_n 1, 1) := by decide +kernel
theorem dX7_valueOf_2 : decode cX7_valueOf 2 = .ok (.iload_n 2, 1) := by decide +kernel
theorem dX7_valueOf_3 : decode cX7_valueOf 3 = .ok (.iload_n 3, 1) := by decide +kernel
theorem dX7_valueOf_4 : decode cX7_valueOf 4 = .ok (.iload 4, 2) := by decide +kernel
theorem dX7_valueOf_6 : decode cX7_valueOf 6 = .ok (.iconst 1, 1) := by decide +kernel
theorem dX7_valueOf_7 : decode cX7_valueOf 7 = .ok (.invokevirtual 181, 3) := by decide +kernel
theorem dX7_valueOf_10 : decode cX7_valueOf 10 = .ok (.aload_n 0, 1) := by decide +kernel
theorem dX7_valueOf_11 : decode cX7_valueOf 11 = .ok (.iload_n 1, 1) := by decide +kernel
theorem dX7_valueOf_12 : decode cX7_valueOf 12 = .ok (.iload_n 2, 1) := by decide +kernel
theorem dX7_valueOf_13 : decode cX7_valueOf 13 = .ok (.iload_n 3, 1) := by decide +kernel
theorem dX7_valueOf_14 : decode cX7_valueOf 14 = .ok (.iload 4, 2) := by decide +kernel
theorem dX7_valueOf_16 : decode cX7_valueOf 16 = .ok (.iconst 3, 1) := by decide +kernel
theorem dX7_valueOf_17 : decode cX7_valueOf 17 = .ok (.invokevirtual 181, 3) := by decide +kernel
theorem dX7_valueOf_20 : decode cX7_valueOf 20 = .ok (.imul, 1) := by decide +kernel
theorem dX7_valueOf_21 : decode cX7_valueOf 21 = .ok (.bipush 100, 2) := by decide +kernel
theorem dX7_valueOf_23 : decode cX7_valueOf 23 = .ok (.idiv, 1) := by decide +kernel
theorem dX7_valueOf_24 : decode cX7_valueOf 24 = .ok (.istore 5, 2) := by decide +kernel
theorem dX7_valueOf_26 : decode cX7_valueOf 26 = .ok (.aload_n 0, 1) := by decide +kernel
theorem dX7_valueOf_27 : decode cX7_valueOf 27 = .ok (.iload_n 1, 1) := by decide +kernel
theorem dX7_valueOf_28 : decode cX7_valueOf 28 = .ok (.iload_n 2, 1) := by decide +kernel
theorem dX7_valueOf_29 : decode cX7_valueOf 29 = .ok (.iload_n 3, 1) := by decide +kernel
theorem dX7_valueOf_30 : decode cX7_valueOf 30 = .ok (.iload 4, 2) := by decide +kernel
theorem dX7_valueOf_32 : decode cX7_valueOf 32 = .ok (.iconst 2, 1) := by decide +kernel
theorem dX7_valueOf_33 : decode cX7_valueOf 33 = .ok (.invokevirtual 181, 3) := by decide +kernel
theorem dX7_valueOf_36 : decode cX7_valueOf 36 = .ok (.bipush 100, 2) := by decide +kernel
theorem dX7_valueOf_38 : decode cX7_valueOf 38 = .ok (.imul, 1) := by decide +kernel
theorem dX7_valueOf_39 : decode cX7_valueOf 39 = .ok (.aload_n 0, 1) := by decide +kernel
theorem dX7_valueOf_40 : decode cX7_valueOf 40 = .ok (.iload_n 1, 1) := by decide +kernel
theorem dX7_valueOf_41 : decode cX7_valueOf 41 = .ok (.iload_n 2, 1) := by decide +kernel
theorem dX7_valueOf_42 : decode cX7_valueOf 42 = .ok (.iload_n 3, 1) := by decide +kernel
theorem dX7_valueOf_43 : decode cX7_valueOf 43 = .ok (.iload 4, 2) := by decide +kernel
theorem dX7_valueOf_45 : decode cX7_valueOf 45 = .ok (.iconst 4, 1) := by decide +kernel
theorem dX7_valueOf_46 : decode cX7_valueOf 46 = .ok (.invokevirtual 181, 3) := by decide +kernel
theorem dX7_valueOf_49 : decode cX7_valueOf 49 = .ok (.idiv, 1) := by decide +kernel
theorem dX7_valueOf_50 : decode cX7_valueOf 50 = .ok (.istore 6, 2) := by decide +kernel
theorem dX7_valueOf_52 : decode cX7_valueOf 52 = .ok (.aload_n 0, 1) := by decide +kernel
theorem dX7_valueOf_53 : decode cX7_valueOf 53 = .ok (.iload_n 1, 1) := by decide +kernel
theorem dX7_valueOf_54 : decode cX7_valueOf 54 = .ok (.iload_n 2, 1) := by decide +kernel
theorem dX7_valueOf_55 : decode cX7_valueOf 55 = .ok (.iload_n 3, 1) := by decide +kernel
theorem dX7_valueOf_56 : decode cX7_valueOf 56 = .ok (.iload 4, 2) := by decide +kernel
theorem dX7_valueOf_58 : decode cX7_valueOf 58 = .ok (.iconst 0, 1) := by decide +kernel
theorem dX7_valueOf_59 : decode cX7_valueOf 59 = .ok (.invokevirtual 181, 3) := by decide +kernel
theorem dX7_valueOf_62 : decode cX7_valueOf 62 = .ok (.iload 5, 2) := by decide +kernel
theorem dX7_valueOf_64 : decode cX7_valueOf 64 = .ok (.iload 6, 2) := by decide +kernel
theorem dX7_valueOf_66 : decode cX7_valueOf 66 = .ok (.isub, 1) := by decide +kernel
theorem dX7_valueOf_67 : decode cX7_valueOf 67 = .ok (.imul, 1) := by decide +kernel
theorem dX7_valueOf_68 : decode cX7_valueOf 68 = .ok (.ireturn, 1) := by decide +kernel
