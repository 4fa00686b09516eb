set_option maxRecDepth 20000 in
theorem ggX7_valueIn_X7_isLeafOf : GoodIn wsX7_valueIn wsX7_isLeafOf := goodIn_r _ [6, 1, 7, 8, 9, 5, 10, 11, 12, 13, 14, 26, 27, 28, 29, 30, 31, 32, 33, 34, 35, 36, 37, 38, 39, 40, 41, 42] (by decide +kernel) (by decide +kernel)
set_option maxRecDepth 20000 in
theorem gX7_valueIn_X7_isLeafOf : GoodIn wsX7_valueIn (wsV RX7 162 RX7 yX7_isLeafOf wsX7_isLeafOf) := goodIn_app (goodIn_of _ (by decide +kernel)) ggX7_valueIn_X7_isLeafOf
set_option maxRecDepth 20000 in
theorem ggX7_valueIn_X7_valueOf : GoodIn wsX7_valueIn wsX7_valueOf := goodIn_r _ [18, 19, 20, 21, 5, 22, 1, 23, 24, 25, 26, 27, 28, 29, 30, 31, 32, 33, 34, 35, 36, 37, 38, 39, 40, 41, 42] (by decide +kernel) (by decide +kernel)
set_option maxRecDepth 20000 in
theorem gX7_valueIn_X7_valueOf : GoodIn wsX7_valueIn (wsV RX7 185 RX7 yX7_valueOf wsX7_valueOf) := goodIn_app (goodIn_of _ (by decide +kernel)) ggX7_valueIn_X7_valueOf
theorem dX7_valueIn_0 : decode cX7_valueIn 0 = .ok (.iconst 0, 1) := by decide +kernel
theorem dX7_valueIn_1 : decode cX7_valueIn 1 = .ok (.istore_n 3, 1) := by decide +kernel
theorem dX7_valueIn_2 : decode cX7_valueIn 2 = .ok (.iconst 0, 1) := by decide +kernel
theorem dX7_valueIn_3 : decode cX7_valueIn 3 = .ok (.istore 4, 2) := by decide +kernel
theorem dX7_valueIn_5 : decode cX7_valueIn 5 = .ok (.iload 4, 2) := by decide +kernel
theorem dX7_valueIn_7 : decode cX7_valueIn 7 = .ok (.aload_n 0, 1) := by decide +kernel
theorem dX7_valueIn_8 : decode cX7_valueIn 8 = .ok (.getfield 64, 3) := by decide +kernel
theorem dX7_valueIn_11 : decode cX7_valueIn 11 = .ok (.iconst 1, 1) := by decide +kernel
theorem dX7_valueIn_12 : decode cX7_valueIn 12 = .ok (.iaload, 1) := by decide +kernel
theorem dX7_valueIn_13 : decode cX7_valueIn 13 = .ok (.if_icmp .ge 31, 3) := by decide +kernel
theorem dX7_valueIn_16 : decode cX7_valueIn 16 = .ok (.aload_n 0, 1) := by decide +kernel
theorem dX7_valueIn_17 : decode cX7_valueIn 17 = .ok (.iload 4, 2) := by decide +kernel
theorem dX7_valueIn_19 : decode cX7_valueIn 19 = .ok (.iload_n 1, 1) := by decide +kernel
theorem dX7_valueIn_20 : decode cX7_valueIn 20 = .ok (.invokevirtual 162, 3) := by decide +kernel
theorem dX7_valueIn_23 : decode cX7_valueIn 23 = .ok (.ifCond .eq 15, 3) := by decide +kernel
theorem dX7_valueIn_26 : decode cX7_valueIn 26 = .ok (.iload_n 3, 1) := by decide +kernel
theorem dX7_valueIn_27 : decode cX7_valueIn 27 = .ok (.aload_n 0, 1) := by decide +kernel
theorem dX7_valueIn_28 : decode cX7_valueIn 28 = .ok (.iload 4, 2) := by decide +kernel
theorem dX7_valueIn_30 : decode cX7_valueIn 30 = .ok (.iload_n 2, 1) := by decide +kernel
theorem dX7_valueIn_31 : decode cX7_valueIn 31 = .ok (.iload_n 2, 1) := by decide +kernel
theorem dX7_valueIn_32 : decode cX7_valueIn 32 = .ok (.iconst 0, 1) := by decide +kernel
theorem dX7_valueIn_33 : decode cX7_valueIn 33 = .ok (.invokevirtual 185, 3) := by decide +kernel
theorem dX7_valueIn_36 : decode cX7_valueIn 36 = .ok (.iadd, 1) := by decide +kernel
theorem dX7_valueIn_37 : decode cX7_valueIn 37 = .ok (.istore_n 3, 1) := by decide +kernel
theorem dX7_valueIn_38 : decode cX7_valueIn 38 = .ok (.iinc 4 1, 3) := by decide +kernel
theorem dX7_valueIn_41 : decode cX7_valueIn 41 = .ok (.goto (-36), 3) := by decide +kernel
theorem dX7_valueIn_44 : decode cX7_valueIn 44 = .ok (.iload_n 3, 1) := by decide +kernel
theorem dX7_valueIn_45 : decode cX7_valueIn 45 = .ok (.ireturn, 1) := by decide +kernel
set_option maxRecDepth 20000 in
theorem ggX7_differenceOf_X7_valueIn : GoodIn wsX7_differenceOf wsX7_valueIn := goodIn_r _ [5, 6, 7, 8, 9, 4, 10, 11, 12, 13, 14, 15, 16, 17, 18, 19, 20, 21, 22, 23, 24, 25, 26, 27, 28, 29, 30, 31, 32, 33, 34, 35, 36, 37, 38, 39, 40, 41, 42, 43, 44, 45, 46] (by decide +kernel) (by decide +kernel)
set_option maxRecDepth 20000 in
theorem gX7_differenceOf_X7_valueIn : GoodIn wsX7_differenceOf (wsV RX7 189 RX7 yX7_valueIn wsX7_valueIn) := goodIn_app (goodIn_of _ (by decide +kernel)) ggX7_differenceOf_X7_valueIn
theorem dX7_differenceOf_0 : decode cX7_differenceOf 0 = .ok (.aload_n 0, 1) := by decide +kernel
theorem dX7_differenceOf_1 : decode cX7_differenceOf 1 = .ok (.iload_n 1, 1) := by decide +kernel
theorem dX7_differenceOf_2 : decode cX7_differenceOf 2 = .ok (.iload_n 3, 1) := by decide +kernel
theorem dX7_differenceOf_3 : decode cX7_differenceOf 3 = .ok (.invokevirtual 189, 3) := by decide +kernel
theorem dX7_differenceOf_6 : decode cX7_differenceOf 6 = .ok (.aload_n 0, 1) := by decide +kernel
theorem dX7_differenceOf_7 : decode cX7_differenceOf 7 = .ok (.iload_n 1, 1) := by decide +kernel
theorem dX7_differenceOf_8 : decode cX7_differenceOf 8 = .ok (.iload_n 2, 1) := by decide +kernel
theorem dX7_differenceOf_9 : decode cX7_differenceOf 9 = .ok (.invokevirtual 189, 3) := by decide +kernel
theorem dX7_differenceOf_12 : decode cX7_differenceOf 12 = .ok (.isub, 1) := by decide +kernel
theorem dX7_differenceOf_13 : decode cX7_differenceOf 13 = .ok (.ireturn, 1) := by decide +kernel
set_option maxRecDepth 20000 in
theorem ggX7_howOf_X7_at : GoodIn wsX7_howOf wsX7_at := goodIn_r _ [5] (by decide +kernel) (by decide +kernel)
set_option maxRecDepth 20000 in
theorem gX7_howOf_X7_at : GoodIn wsX7_howOf (va_wsS RX7 81 yX7_at wsX7_at) := goodIn_app (goodIn_of _ (by decide +kernel)) ggX7_howOf_X7_at
theorem dX7_howOf_0 : decode cX7_howOf 0 = .ok (.aload_n 0, 1) := by decide +kernel
theorem dX7_howOf_1 : decode cX7_howOf 1 = .ok (.getfield 64, 3) := by decide +kernel
theorem dX7_howOf_4 : decode cX7_howOf 4 = .ok (.iload_n 1, 1) := by decide +kernel
theorem dX7_howOf_5 : decode cX7_howOf 5 = .ok (.iload_n 2, 1) := by decide +kernel
theorem dX7_howOf_6 : decode cX7_howOf 6 = .ok (.iconst 0, 1) := by decide +kernel
theorem dX7_howOf_7 : decode cX7_howOf 7 = .ok (.invokestatic 81, 3) := by decide +kernel
theorem dX7_howOf_10 : decode cX7_howOf 10 = .ok (.iaload, 1) := by decide +kernel
theorem dX7_howOf_11 : decode cX7_howOf 11 = .ok (.istore 4, 2) := by decide +kernel
theorem dX7_howOf_13 : decode cX7_howOf 13 = .ok (.aload_n 0, 1) := by decide +kernel
theorem dX7_howOf_14 : decode cX7_howOf 14 = .ok (.getfield 64, 3) := by decide +kernel
theorem dX7_howOf_17 : decode cX7_howOf 17 = .ok (.iload_n 1, 1) := by decide +kernel
theorem dX7_howOf_18 : decode cX7_howOf 18 = .ok (.iload_n 3, 1) := by decide +kernel
theorem dX7_howOf_19 : decode cX7_howOf 19 = .ok (.iconst 0, 1) := by decide +kernel
theorem dX7_howOf_20 : decode cX7_howOf 20 = .ok (.invokestatic 81, 3) := by decide +kernel
theorem dX7_howOf_23 : decode cX7_howOf 23 = .ok (.iaload, 1) := by decide +kernel
theorem dX7_howOf_24 : decode cX7_howOf 24 = .ok (.istore 5, 2) := by decide +kernel
theorem dX7_howOf_26 : decode cX7_howOf 26 = .ok (.iload 4, 2) := by decide +kernel
theorem dX7_howOf_28 : decode cX7_howOf 28 = .ok (.ifCond .ne 12, 3) := by decide +kernel
theorem dX7_howOf_31 : decode cX7_howOf 31 = .ok (.iload 5, 2) := by decide +kernel
theorem dX7_howOf_33 : decode cX7_howOf 33 = .ok (.ifCond .le 7, 3) := by decide +kernel
theorem dX7_howOf_36 : decode cX7_howOf 36 = .ok (.iconst 1, 1) := by decide +kernel
theorem dX7_howOf_37 : decode cX7_howOf 37 = .ok (.goto 18, 3) := by decide +kernel
theorem dX7_howOf_40 : decode cX7_howOf 40 = .ok (.iload 4, 2) := by decide +kernel
theorem dX7_howOf_42 : decode cX7_howOf 42 = .ok (.ifCond .le 12, 3) := by decide +kernel
theorem dX7_howOf_45 : decode cX7_howOf 45 = .ok (.iload 5, 2) := by decide +kernel
theorem dX7_howOf_47 : decode cX7_howOf 47 = .ok (.ifCond .ne 7, 3) := by decide +kernel
theorem dX7_howOf_50 : decode cX7_howOf 50 = .ok (.iconst 2, 1) := by decide +kernel
theorem dX7_howOf_51 : decode cX7_howOf 51 = .ok (.goto 4, 3) := by decide +kernel
theorem dX7_howOf_54 : decode cX7_howOf 54 = .ok (.iconst 0, 1) := by decide +kernel
theorem dX7_howOf_55 : decode cX7_howOf 55 = .ok (.ireturn, 1) := by decide +kernel
set_option maxRecDepth 20000 in
theorem ggX7_value_X7_isNode : GoodIn wsX7_value wsX7_isNode := goodIn_r _ [7, 8, 9, 10, 6, 11, 43, 44, 45, 46, 47, 48, 49, 50, 51, 52, 53, 54, 55, 56, 57, 58, 59] (by decide +kernel) (by decide +kernel)
set_option maxRecDepth 20000 in
theorem gX7_value_X7_isNode : GoodIn wsX7_value (wsV RX7 150 RX7 yX7_isNode wsX7_isNode) := goodIn_app (goodIn_of _ (by decide +kernel)) ggX7_value_X7_isNode
set_option maxRecDepth 20000 in
theorem ggX7_value_X7_isScene : GoodIn wsX7_value wsX7_isScene := goodIn_r _ [15, 8, 9, 10, 6, 11, 43, 44, 45, 46, 47, 48, 49, 50, 51, 52, 53, 54, 55, 56, 57, 58, 59] (by decide +kernel) (by decide +kernel)
set_option maxRecDepth 20000 in
theorem gX7_value_X7_isScene : GoodIn wsX7_value (wsV RX7 153 RX7 yX7_isScene wsX7_isScene) := goodIn_app (goodIn_of _ (by decide +kernel)) ggX7_value_X7_isScene
set_option maxRecDepth 20000 in
theorem ggX7_value_X7_valueIn : GoodIn wsX7_value wsX7_valueIn := goodIn_r _ [19, 8, 20, 21, 22, 6, 23, 24, 25, 26, 27, 28, 29, 30, 31, 32, 33, 34, 35, 36, 37, 38, 39, 40, 41, 42, 43, 44, 45, 46, 47, 48, 49, 50, 51, 52, 53, 54, 55, 56, 57, 58, 59] (by decide +kernel) (by decide +kernel)
set_option maxRecDepth 20000 in
theorem gX7_value_X7_valueIn : GoodIn wsX7_value (wsV RX7 189 RX7 yX7_valueIn wsX7_valueIn) := goodIn_app (goodIn_of _ (by decide +kernel)) ggX7_value_X7_valueIn
theorem dX7_value_0 : decode cX7_value 0 = .ok (.aload_n 0, 1) := by decide +kernel
theorem dX7_value_1 : decode cX7_value 1 = .ok (.iconst 0, 1) := by decide +kernel
theorem dX7_value_2 : decode cX7_value 2 = .ok (.putfield 1, 3) := by decide +kernel
theorem dX7_value_5 : decode cX7_value 5 = .ok (.aload_n 0, 1) := by decide +kernel
theorem dX7_value_6 : decode cX7_value 6 = .ok (.iload_n 1, 1) := by decide +kernel
theorem dX7_value_7 : decode cX7_value 7 = .ok (.invokevirtual 150, 3) := by decide +kernel
theorem dX7_value_10 : decode cX7_value 10 = .ok (.ifCond .eq 20, 3) := by decide +kernel
theorem dX7_value_13 : decode cX7_value 13 = .ok (.aload_n 0, 1) := by decide +kernel
theorem dX7_value_14 : decode cX7_value 14 = .ok (.iload_n 2, 1) := by decide +kernel
theorem dX7_value_15 : decode cX7_value 15 = .ok (.invokevirtual 153, 3) := by decide +kernel
theorem dX7_value_18 : decode cX7_value 18 = .ok (.ifCond .eq 12, 3) := by decide +kernel
theorem dX7_value_21 : decode cX7_value 21 = .ok (.aload_n 0, 1) := by decide +kernel
theorem dX7_value_22 : decode cX7_value 22 = .ok (.iload_n 1, 1) := by decide +kernel
theorem dX7_value_23 : decode cX7_value 23 = .ok (.iload_n 2, 1) := by decide +kernel
theorem dX7_value_24 : decode cX7_value 24 = .ok (.invokevirtual 189, 3) := by decide +kernel
theorem dX7_value_27 : decode cX7_value 27 = .ok (.goto 5, 3) := by decide +kernel
theorem dX7_value_30 : decode cX7_value 30 = .ok (.ldc 193, 2) := by decide +kernel
theorem dX7_value_32 : decode cX7_value 32 = .ok (.ireturn, 1) := by decide +kernel
set_option maxRecDepth 20000 in
theorem ggX7_how_X7_isLeaf : GoodIn wsX7_how wsX7_isLeaf := goodIn_r _ [6, 7, 8, 9, 10, 5, 11, 12, 13, 14, 30, 31, 32, 33, 34, 35, 36, 37, 38, 39, 40, 41, 42, 43, 44, 45, 46] (by decide +kernel) (by decide +kernel)
set_option maxRecDepth 20000 in
theorem gX7_how_X7_isLeaf : GoodIn wsX7_how (wsV RX7 175 RX7 yX7_isLeaf wsX7_isLeaf) := goodIn_app (goodIn_of _ (by decide +kernel)) ggX7_how_X7_isLeaf
set_option maxRecDepth 20000 in
theorem ggX7_how_X7_areScenes : GoodIn wsX7_how wsX7_areScenes := goodIn_r _ [18, 19, 20, 21, 5, 22, 7, 12, 13, 14, 30, 31, 32, 33, 34, 35, 36, 37, 38, 39, 40, 41, 42, 43, 44, 45, 46] (by decide +kernel) (by decide +kernel)
set_option maxRecDepth 20000 in
theorem gX7_how_X7_areScenes : GoodIn wsX7_how (wsV RX7 194 RX7 yX7_areScenes wsX7_areScenes) := goodIn_app (goodIn_of _ (by decide +kernel)) ggX7_how_X7_areScenes
set_option maxRecDepth 20000 in
theorem ggX7_how_X7_howOf : GoodIn wsX7_how wsX7_howOf := goodIn_r _ [26, 7, 27, 28, 5, 29, 30, 31, 32, 33, 34, 35, 36, 37, 38, 39, 40, 41, 42, 43, 44, 45, 46] (by decide +kernel) (by decide +kernel)
set_option maxRecDepth 20000 in
theorem gX7_how_X7_howOf : GoodIn wsX7_how (wsV RX7 197 RX7 yX7_howOf wsX7_howOf) := goodIn_app (goodIn_of _ (by decide +kernel)) ggX7_how_X7_howOf
theorem dX7_how_0 : decode cX7_how 0 = .ok (.aload_n 0, 1) := by decide +kernel
theorem dX7_how_1 : decode cX7_how 1 = .ok (.iconst 0, 1) := by decide +kernel
theorem dX7_how_2 : decode cX7_how 2 = .ok (.putfield 1, 3) := by decide +kernel
theorem dX7_how_5 : decode cX7_how 5 = .ok (.aload_n 0, 1) := by decide +kernel
theorem dX7_how_6 : decode cX7_how 6 = .ok (.iload_n 1, 1) := by decide +kernel
theorem dX7_how_7 : decode cX7_how 7 = .ok (.invokevirtual 175, 3) := by decide +kernel
theorem dX7_how_10 : decode cX7_how 10 = .ok (.ifCond .eq 22, 3) := by decide +kernel
theorem dX7_how_13 : decode cX7_how 13 = .ok (.aload_n 0, 1) := by decide +kernel
theorem dX7_how_14 : decode cX7_how 14 = .ok (.iload_n 2, 1) := by decide +kernel
theorem dX7_how_15 : decode cX7_how 15 = .ok (.iload_n 3, 1) := by decide +kernel
theorem dX7_how_16 : decode cX7_how 16 = .ok (.invokevirtual 194, 3) := by decide +kernel
theorem dX7_how_19 : decode cX7_how 19 = .ok (.ifCond .eq 13, 3) := by decide +kernel
theorem dX7_how_22 : decode cX7_how 22 = .ok (.aload_n 0, 1) := by decide +kernel
theorem dX7_how_23 : decode cX7_how 23 = .ok (.iload_n 1, 1) := by decide +kernel
theorem dX7_how_24 : decode cX7_how 24 = .ok (.iload_n 2, 1) := by decide +kernel
theorem dX7_how_25 : decode cX7_how 25 = .ok (.iload_n 3, 1) := by decide +kernel
theorem dX7_how_26 : decode cX7_how 26 = .ok (.invokevirtual 197, 3) := by decide +kernel
theorem dX7_how_29 : decode cX7_how 29 = .ok (.goto 4, 3) := by decide +kernel
theorem dX7_how_32 : decode cX7_how 32 = .ok (.iconst (-1), 1) := by decide +kernel
theorem dX7_how_33 : decode cX7_how 33 = .ok (.ireturn, 1) := by decide +kernel
theorem dX7_factorAt_0 : decode cX7_factorAt 0 = .ok (.bipush 31, 2) := by decide +kernel
theorem dX7_factorAt_2 : decode cX7_factorAt 2 = .ok (.istore_n 2, 1) := by decide +kernel
theorem dX7_factorAt_3 : decode cX7_factorAt 3 = .ok (.iload_n 0, 1) := by decide +kernel
theorem dX7_factorAt_4 : decode cX7_factorAt 4 = .ok (.istore_n 3, 1) := by decide +kernel
theorem dX7_factorAt_5 : decode cX7_factorAt 5 = .ok (.bipush 24, 2) := by decide +kernel
theorem dX7_factorAt_7 : decode cX7_factorAt 7 = .ok (.istore 4, 2) := by decide +kernel
theorem dX7_factorAt_9 : decode cX7_factorAt 9 = .ok (.iconst 0, 1) := by decide +kernel
theorem dX7_factorAt_10 : decode cX7_factorAt 10 = .ok (.istore 5, 2) := by decide +kernel
theorem dX7_factorAt_12 : decode cX7_factorAt 12 = .ok (.iload 5, 2) := by decide +kernel
theorem dX7_factorAt_14 : decode cX7_factorAt 14 = .ok (.iload_n 1, 1) := by decide +kernel
theorem dX7_factorAt_15 : decode cX7_factorAt 15 = .ok (.if_icmp .gt 91, 3) := by decide +kernel
theorem dX7_factorAt_18 : decode cX7_factorAt 18 = .ok (.iload_n 3, 1) := by decide +kernel
theorem dX7_factorAt_19 : decode cX7_factorAt 19 = .ok (.iload 4, 2) := by decide +kernel
theorem dX7_factorAt_21 : decode cX7_factorAt 21 = .ok (.idiv, 1) := by decide +kernel
theorem dX7_factorAt_22 : decode cX7_factorAt 22 = .ok (.istore 6, 2) := by decide +kernel
theorem dX7_factorAt_24 : decode cX7_factorAt 24 = .ok (.iload_n 3, 1) := by decide +kernel
theorem dX7_factorAt_25 : decode cX7_factorAt 25 = .ok (.iload 4, 2) := by decide +kernel
theorem dX7_factorAt_27 : decode cX7_factorAt 27 = .ok (.irem, 1) := by decide +kernel
theorem dX7_factorAt_28 : decode cX7_factorAt 28 = .ok (.istore_n 3, 1) := by decide +kernel
theorem dX7_factorAt_29 : decode cX7_factorAt 29 = .ok (.iconst 0, 1) := by decide +kernel
theorem dX7_factorAt_30 : decode cX7_factorAt 30 = .ok (.istore 7, 2) := by decide +kernel
theorem dX7_factorAt_32 : decode cX7_factorAt 32 = .ok (.iload_n 2, 1) := by decide +kernel
theorem dX7_factorAt_33 : decode cX7_factorAt 33 = .ok (.iload 7, 2) := by decide +kernel
theorem dX7_factorAt_35 : decode cX7_factorAt 35 = .ok (.ishr, 1) := by decide +kernel
theorem dX7_factorAt_36 : decode cX7_factorAt 36 = .ok (.iconst 1, 1) := by decide +kernel
theorem dX7_factorAt_37 : decode cX7_factorAt 37 = .ok (.iand, 1) := by decide +kernel
theorem dX7_factorAt_38 : decode cX7_factorAt 38 = .ok (.ifCond .eq 8, 3) := by decide +kernel
theorem dX7_factorAt_41 : decode cX7_factorAt 41 = .ok (.iload 6, 2) := by decide +kernel
theorem dX7_factorAt_43 : decode cX7_factorAt 43 = .ok (.ifCond .le 22, 3) := by decide +kernel
theorem dX7_factorAt_46 : decode cX7_factorAt 46 = .ok (.iload_n 2, 1) := by decide +kernel
theorem dX7_factorAt_47 : decode cX7_factorAt 47 = .ok (.iload 7, 2) := by decide +kernel
theorem dX7_factorAt_49 : decode cX7_factorAt 49 = .ok (.ishr, 1) := by decide +kernel
theorem dX7_factorAt_50 : decode cX7_factorAt 50 = .ok (.iconst 1, 1) := by decide +kernel
theorem dX7_factorAt_51 : decode cX7_factorAt 51 = .ok (.iand, 1) := by decide +kernel
theorem dX7_factorAt_52 : decode cX7_factorAt 52 = .ok (.iconst 1, 1) := by decide +kernel
theorem dX7_factorAt_53 : decode cX7_factorAt 53 = .ok (.if_icmp .ne 6, 3) := by decide +kernel
theorem dX7_factorAt_56 : decode cX7_factorAt 56 = .ok (.iinc 6 (-1), 3) := by decide +kernel
theorem dX7_factorAt_59 : decode cX7_factorAt 59 = .ok (.iinc 7 1, 3) := by decide +kernel
theorem dX7_factorAt_62 : decode cX7_factorAt 62 = .ok (.goto (-30), 3) := by decide +kernel
theorem dX7_factorAt_65 : decode cX7_factorAt 65 = .ok (.iload 5, 2) := by decide +kernel
theorem dX7_factorAt_67 : decode cX7_factorAt 67 = .ok (.iload_n 1, 1) := by decide +kernel
theorem dX7_factorAt_68 : decode cX7_factorAt 68 = .ok (.if_icmp .ne 6, 3) := by decide +kernel
theorem dX7_factorAt_71 : decode cX7_factorAt 71 = .ok (.iload 7, 2) := by decide +kernel
theorem dX7_factorAt_73 : decode cX7_factorAt 73 = .ok (.ireturn, 1) := by decide +kernel
theorem dX7_factorAt_74 : decode cX7_factorAt 74 = .ok (.iload_n 2, 1) := by decide +kernel
theorem dX7_factorAt_75 : decode cX7_factorAt 75 = .ok (.iconst 1, 1) := by decide +kernel
theorem dX7_factorAt_76 : decode cX7_factorAt 76 = .ok (.iload 7, 2) := by decide +kernel
theorem dX7_factorAt_78 : decode cX7_factorAt 78 = .ok (.ishl, 1) := by decide +kernel
theorem dX7_factorAt_79 : decode cX7_factorAt 79 = .ok (.ixor, 1) := by decide +kernel
theorem dX7_factorAt_80 : decode cX7_factorAt 80 = .ok (.istore_n 2, 1) := by decide +kernel
theorem dX7_factorAt_81 : decode cX7_factorAt 81 = .ok (.iload 5, 2) := by decide +kernel
theorem dX7_factorAt_83 : decode cX7_factorAt 83 = .ok (.iconst 3, 1) := by decide +kernel
theorem dX7_factorAt_84 : decode cX7_factorAt 84 = .ok (.if_icmp .ne 7, 3) := by decide +kernel
theorem dX7_factorAt_87 : decode cX7_factorAt 87 = .ok (.iconst 1, 1) := by decide +kernel
theorem dX7_factorAt_88 : decode cX7_factorAt 88 = .ok (.goto 10, 3) := by decide +kernel
theorem dX7_factorAt_91 : decode cX7_factorAt 91 = .ok (.iload 4, 2) := by decide +kernel
theorem dX7_factorAt_93 : decode cX7_factorAt 93 = .ok (.iconst 4, 1) := by decide +kernel
theorem dX7_factorAt_94 : decode cX7_factorAt 94 = .ok (.iload 5, 2) := by decide +kernel
theorem dX7_factorAt_96 : decode cX7_factorAt 96 = .ok (.isub, 1) := by decide +kernel
theorem dX7_factorAt_97 : decode cX7_factorAt 97 = .ok (.idiv, 1) := by decide +kernel
theorem dX7_factorAt_98 : decode cX7_factorAt 98 = .ok (.istore 4, 2) := by decide +kernel
theorem dX7_factorAt_100 : decode cX7_factorAt 100 = .ok (.iinc 5 1, 3) := by decide +kernel
theorem dX7_factorAt_103 : decode cX7_factorAt 103 = .ok (.goto (-91), 3) := by decide +kernel
theorem dX7_factorAt_106 : decode cX7_factorAt 106 = .ok (.iconst (-1), 1) := by decide +kernel
theorem dX7_factorAt_107 : decode cX7_factorAt 107 = .ok (.ireturn, 1) := by decide +kernel
set_option maxRecDepth 20000 in
theorem ggX7_isOrder_X7_isIn : GoodIn wsX7_isOrder wsX7_isIn := goodIn_r _ [4] (by decide +kernel) (by decide +kernel)
set_option maxRecDepth 20000 in
theorem gX7_isOrder_X7_isIn : GoodIn wsX7_isOrder (va_wsS RX7 88 yX7_isIn wsX7_isIn) := goodIn_app (goodIn_of _ (by decide +kernel)) ggX7_isOrder_X7_isIn
theorem dX7_isOrder_0 : decode cX7_isOrder 0 = .ok (.iload_n 0, 1) := by decide +kernel
theorem dX7_isOrder_1 : decode cX7_isOrder 1 = .ok (.iconst 0, 1) := by decide +kernel
theorem dX7_isOrder_2 : decode cX7_isOrder 2 = .ok (.bipush 119, 2) := by decide +kernel
theorem dX7_isOrder_4 : decode cX7_isOrder 4 = .ok (.invokestatic 88, 3) := by decide +kernel
theorem dX7_isOrder_7 : decode cX7_isOrder 7 = .ok (.ireturn, 1) := by decide +kernel
set_option maxRecDepth 20000 in
theorem ggX7_order_X7_isOrder : GoodIn wsX7_order wsX7_isOrder := goodIn_r _ [5, 6, 7, 4, 8] (by decide +kernel) (by decide +kernel)
set_option maxRecDepth 20000 in
theorem gX7_order_X7_isOrder : GoodIn wsX7_order (va_wsS RX7 200 yX7_isOrder wsX7_isOrder) := goodIn_app (goodIn_of _ (by decide +kernel)) ggX7_order_X7_isOrder
set_option maxRecDepth 20000 in
theorem ggX7_order_X7_factorAt : GoodIn wsX7_order wsX7_factorAt := goodIn_r _ [11] (by decide +kernel) (by decide +kernel)
set_option maxRecDepth 20000 in
theorem gX7_order_X7_factorAt : GoodIn wsX7_order (va_wsS RX7 203 yX7_factorAt wsX7_factorAt) := goodIn_app (goodIn_of _ (by decide +kernel)) ggX7_order_X7_factorAt
theorem dX7_order_0 : decode cX7_order 0 = .ok (.aload_n 0, 1) := by decide +kernel
theorem dX7_order_1 : decode cX7_order 1 = .ok (.iconst 0, 1) := by decide +kernel
theorem dX7_order_2 : decode cX7_order 2 = .ok (.putfield 1, 3) := by decide +kernel
theorem dX7_order_5 : decode cX7_order 5 = .ok (.iload_n 1, 1) := by decide +kernel
theorem dX7_order_6 : decode cX7_order 6 = .ok (.invokestatic 200, 3) := by decide +kernel
theorem dX7_order_9 : decode cX7_order 9 = .ok (.ifCond .ne 5, 3) := by decide +kernel
theorem dX7_order_12 : decode cX7_order 12 = .ok (.iconst (-1), 1) := by decide +kernel
theorem dX7_order_13 : decode cX7_order 13 = .ok (.ireturn, 1) := by decide +kernel
theorem dX7_order_14 : decode cX7_order 14 = .ok (.iconst 0, 1) := by decide +kernel
theorem dX7_order_15 : decode cX7_order 15 = .ok (.istore_n 2, 1) := by decide +kernel
theorem dX7_order_16 : decode cX7_order 16 = .ok (.iconst 0, 1) := by decide +kernel
theorem dX7_order_17 : decode cX7_order 17 = .ok (.istore_n 3, 1) := by decide +kernel
theorem dX7_order_18 : decode cX7_order 18 = .ok (.iload_n 3, 1) := by decide +kernel
theorem dX7_order_19 : decode cX7_order 19 = .ok (.iconst 5, 1) := by decide +kernel
theorem dX7_order_20 : decode cX7_order 20 = .ok (.if_icmp .ge 20, 3) := by decide +kernel
theorem dX7_order_23 : decode cX7_order 23 = .ok (.bipush 10, 2) := by decide +kernel
theorem dX7_order_25 : decode cX7_order 25 = .ok (.iload_n 2, 1) := by decide +kernel
theorem dX7_order_26 : decode cX7_order 26 = .ok (.imul, 1) := by decide +kernel
theorem dX7_order_27 : decode cX7_order 27 = .ok (.iload_n 1, 1) := by decide +kernel
theorem dX7_order_28 : decode cX7_order 28 = .ok (.iload_n 3, 1) := by decide +kernel
theorem dX7_order_29 : decode cX7_order 29 = .ok (.invokestatic 203, 3) := by decide +kernel
theorem dX7_order_32 : decode cX7_order 32 = .ok (.iadd, 1) := by decide +kernel
theorem dX7_order_33 : decode cX7_order 33 = .ok (.istore_n 2, 1) := by decide +kernel
theorem dX7_order_34 : decode cX7_order 34 = .ok (.iinc 3 1, 3) := by decide +kernel
theorem dX7_order_37 : decode cX7_order 37 = .ok (.goto (-19), 3) := by decide +kernel
theorem dX7_order_40 : decode cX7_order 40 = .ok (.iload_n 2, 1) := by decide +kernel
theorem dX7_order_41 : decode cX7_order 41 = .ok (.ireturn, 1) := by decide +kernel
set_option maxRecDepth 20000 in
theorem ggX7_stepOf_X7_factorAt : GoodIn wsX7_stepOf wsX7_factorAt := goodIn_r _ [4] (by decide +kernel) (by decide +kernel)
set_option maxRecDepth 20000 in
theorem gX7_stepOf_X7_factorAt : GoodIn wsX7_stepOf (va_wsS RX7 203 yX7_factorAt wsX7_factorAt) := goodIn_app (goodIn_of _ (by decide +kernel)) ggX7_stepOf_X7_factorAt
set_option maxRecDepth 20000 in
theorem ggX7_stepOf_X7_valueOf : GoodIn wsX7_stepOf wsX7_valueOf := goodIn_r _ [8, 9, 10, 11, 3, 12, 13, 14, 15, 16, 17, 18, 19, 20, 21, 22, 23, 24, 25, 26, 27, 28, 29, 30, 31, 32, 33] (by decide +kernel) (by decide +kernel)
set_option maxRecDepth 20000 in
theorem gX7_stepOf_X7_valueOf : GoodIn wsX7_stepOf (wsV RX7 185 RX7 yX7_valueOf wsX7_valueOf) := goodIn_app (goodIn_of _ (by decide +kernel)) ggX7_stepOf_X7_valueOf
theorem dX7_stepOf_0 : decode cX7_stepOf 0 = .ok (.iconst 0, 1) := by decide +kernel
theorem dX7_stepOf_1 : decode cX7_stepOf 1 = .ok (.istore 6, 2) := by decide +kernel
theorem dX7_stepOf_3 : decode cX7_stepOf 3 = .ok (.iconst 0, 1) := by decide +kernel
theorem dX7_stepOf_4 : decode cX7_stepOf 4 = .ok (.istore 7, 2) := by decide +kernel
theorem dX7_stepOf_6 : decode cX7_stepOf 6 = .ok (.iload 4, 2) := by decide +kernel
theorem dX7_stepOf_8 : decode cX7_stepOf 8 = .ok (.iload 7, 2) := by decide +kernel
theorem dX7_stepOf_10 : decode cX7_stepOf 10 = .ok (.invokestatic 203, 3) := by decide +kernel
theorem dX7_stepOf_13 : decode cX7_stepOf 13 = .ok (.iload 5, 2) := by decide +kernel
theorem dX7_stepOf_15 : decode cX7_stepOf 15 = .ok (.if_icmp .eq 23, 3) := by decide +kernel
theorem dX7_stepOf_18 : decode cX7_stepOf 18 = .ok (.iload 6, 2) := by decide +kernel
theorem dX7_stepOf_20 : decode cX7_stepOf 20 = .ok (.iconst 1, 1) := by decide +kernel
theorem dX7_stepOf_21 : decode cX7_stepOf 21 = .ok (.iload 4, 2) := by decide +kernel
theorem dX7_stepOf_23 : decode cX7_stepOf 23 = .ok (.iload 7, 2) := by decide +kernel
theorem dX7_stepOf_25 : decode cX7_stepOf 25 = .ok (.invokestatic 203, 3) := by decide +kernel
theorem dX7_stepOf_28 : decode cX7_stepOf 28 = .ok (.ishl, 1) := by decide +kernel
theorem dX7_stepOf_29 : decode cX7_stepOf 29 = .ok (.ior, 1) := by decide +kernel
theorem dX7_stepOf_30 : decode cX7_stepOf 30 = .ok (.istore 6, 2) := by decide +kernel
theorem dX7_stepOf_32 : decode cX7_stepOf 32 = .ok (.iinc 7 1, 3) := by decide +kernel
theorem dX7_stepOf_35 : decode cX7_stepOf 35 = .ok (.goto (-29), 3) := by decide +kernel
theorem dX7_stepOf_38 : decode cX7_stepOf 38 = .ok (.aload_n 0, 1) := by decide +kernel
theorem dX7_stepOf_39 : decode cX7_stepOf 39 = .ok (.iload_n 1, 1) := by decide +kernel
theorem dX7_stepOf_40 : decode cX7_stepOf 40 = .ok (.iload_n 2, 1) := by decide +kernel
theorem dX7_stepOf_41 : decode cX7_stepOf 41 = .ok (.iload_n 3, 1) := by decide +kernel
theorem dX7_stepOf_42 : decode cX7_stepOf 42 = .ok (.iload 6, 2) := by decide +kernel
theorem dX7_stepOf_44 : decode cX7_stepOf 44 = .ok (.iconst 1, 1) := by decide +kernel
theorem dX7_stepOf_45 : decode cX7_stepOf 45 = .ok (.iload 5, 2) := by decide +kernel
theorem dX7_stepOf_47 : decode cX7_stepOf 47 = .ok (.ishl, 1) := by decide +kernel
theorem dX7_stepOf_48 : decode cX7_stepOf 48 = .ok (.ior, 1) := by decide +kernel
theorem dX7_stepOf_49 : decode cX7_stepOf 49 = .ok (.invokevirtual 185, 3) := by decide +kernel
theorem dX7_stepOf_52 : decode cX7_stepOf 52 = .ok (.aload_n 0, 1) := by decide +kernel
theorem dX7_stepOf_53 : decode cX7_stepOf 53 = .ok (.iload_n 1, 1) := by decide +kernel
theorem dX7_stepOf_54 : decode cX7_stepOf 54 = .ok (.iload_n 2, 1) := by decide +kernel
theorem dX7_stepOf_55 : decode cX7_stepOf 55 = .ok (.iload_n 3, 1) := by decide +kernel
theorem dX7_stepOf_56 : decode cX7_stepOf 56 = .ok (.iload 6, 2) := by decide +kernel
theorem dX7_stepOf_58 : decode cX7_stepOf 58 = .ok (.invokevirtual 185, 3) := by decide +kernel
theorem dX7_stepOf_61 : decode cX7_stepOf 61 = .ok (.isub, 1) := by decide +kernel
theorem dX7_stepOf_62 : decode cX7_stepOf 62 = .ok (.ireturn, 1) := by decide +kernel
set_option maxRecDepth 20000 in
theorem ggX7_meanOf_X7_valueOf : GoodIn wsX7_meanOf wsX7_valueOf := goodIn_r _ [7, 8, 9, 10, 6, 11, 12, 13, 14, 15, 16, 17, 18, 19, 20, 21, 22, 23, 24, 25, 26, 27, 28, 29, 30, 31, 32] (by decide +kernel) (by decide +kernel)
set_option maxRecDepth 20000 in
theorem gX7_meanOf_X7_valueOf : GoodIn wsX7_meanOf (wsV RX7 185 RX7 yX7_valueOf wsX7_valueOf) := goodIn_app (goodIn_of _ (by decide +kernel)) ggX7_meanOf_X7_valueOf
theorem dX7_meanOf_0 : decode cX7_meanOf 0 = .ok (.lconst 0, 1) := by decide +kernel
theorem dX7_meanOf_1 : decode cX7_meanOf 1 = .ok (.lstore 5, 2) := by decide +kernel
theorem dX7_meanOf_3 : decode cX7_meanOf 3 = .ok (.iconst 0, 1) := by decide +kernel
theorem dX7_meanOf_4 : decode cX7_meanOf 4 = .ok (.istore 7, 2) := by decide +kernel
theorem dX7_meanOf_6 : decode cX7_meanOf 6 = .ok (.iload 7, 2) := by decide +kernel
theorem dX7_meanOf_8 : decode cX7_meanOf 8 = .ok (.bipush 32, 2) := by decide +kernel
theorem dX7_meanOf_10 : decode cX7_meanOf 10 = .ok (.if_icmp .ge 95, 3) := by decide +kernel
theorem dX7_meanOf_13 : decode cX7_meanOf 13 = .ok (.iload 7, 2) := by decide +kernel
theorem dX7_meanOf_15 : decode cX7_meanOf 15 = .ok (.iload 4, 2) := by decide +kernel
theorem dX7_meanOf_17 : decode cX7_meanOf 17 = .ok (.ishr, 1) := by decide +kernel
theorem dX7_meanOf_18 : decode cX7_meanOf 18 = .ok (.iconst 1, 1) := by decide +kernel
theorem dX7_meanOf_19 : decode cX7_meanOf 19 = .ok (.iand, 1) := by decide +kernel
theorem dX7_meanOf_20 : decode cX7_meanOf 20 = .ok (.iconst 1, 1) := by decide +kernel
theorem dX7_meanOf_21 : decode cX7_meanOf 21 = .ok (.if_icmp .ne 6, 3) := by decide +kernel
theorem dX7_meanOf_24 : decode cX7_meanOf 24 = .ok (.goto 75, 3) := by decide +kernel
theorem dX7_meanOf_27 : decode cX7_meanOf 27 = .ok (.iload 7, 2) := by decide +kernel
theorem dX7_meanOf_29 : decode cX7_meanOf 29 = .ok (.iconst 1, 1) := by decide +kernel
theorem dX7_meanOf_30 : decode cX7_meanOf 30 = .ok (.iand, 1) := by decide +kernel
theorem dX7_meanOf_31 : decode cX7_meanOf 31 = .ok (.iload 7, 2) := by decide +kernel
theorem dX7_meanOf_33 : decode cX7_meanOf 33 = .ok (.iconst 1, 1) := by decide +kernel
theorem dX7_meanOf_34 : decode cX7_meanOf 34 = .ok (.ishr, 1) := by decide +kernel
theorem dX7_meanOf_35 : decode cX7_meanOf 35 = .ok (.iconst 1, 1) := by decide +kernel
theorem dX7_meanOf_36 : decode cX7_meanOf 36 = .ok (.iand, 1) := by decide +kernel
theorem dX7_meanOf_37 : decode cX7_meanOf 37 = .ok (.iadd, 1) := by decide +kernel
theorem dX7_meanOf_38 : decode cX7_meanOf 38 = .ok (.iload 7, 2) := by decide +kernel
theorem dX7_meanOf_40 : decode cX7_meanOf 40 = .ok (.iconst 2, 1) := by decide +kernel
theorem dX7_meanOf_41 : decode cX7_meanOf 41 = .ok (.ishr, 1) := by decide +kernel
theorem dX7_meanOf_42 : decode cX7_meanOf 42 = .ok (.iconst 1, 1) := by decide +kernel
theorem dX7_meanOf_43 : decode cX7_meanOf 43 = .ok (.iand, 1) := by decide +kernel
theorem dX7_meanOf_44 : decode cX7_meanOf 44 = .ok (.iadd, 1) := by decide +kernel
theorem dX7_meanOf_45 : decode cX7_meanOf 45 = .ok (.iload 7, 2) := by decide +kernel
theorem dX7_meanOf_47 : decode cX7_meanOf 47 = .ok (.iconst 3, 1) := by decide +kernel
theorem dX7_meanOf_48 : decode cX7_meanOf 48 = .ok (.ishr, 1) := by decide +kernel
theorem dX7_meanOf_49 : decode cX7_meanOf 49 = .ok (.iconst 1, 1) := by decide +kernel
theorem dX7_meanOf_50 : decode cX7_meanOf 50 = .ok (.iand, 1) := by decide +kernel
theorem dX7_meanOf_51 : decode cX7_meanOf 51 = .ok (.iadd, 1) := by decide +kernel
theorem dX7_meanOf_52 : decode cX7_meanOf 52 = .ok (.iload 7, 2) := by decide +kernel
theorem dX7_meanOf_54 : decode cX7_meanOf 54 = .ok (.iconst 4, 1) := by decide +kernel
theorem dX7_meanOf_55 : decode cX7_meanOf 55 = .ok (.ishr, 1) := by decide +kernel
theorem dX7_meanOf_56 : decode cX7_meanOf 56 = .ok (.iconst 1, 1) := by decide +kernel
theorem dX7_meanOf_57 : decode cX7_meanOf 57 = .ok (.iand, 1) := by decide +kernel
theorem dX7_meanOf_58 : decode cX7_meanOf 58 = .ok (.iadd, 1) := by decide +kernel
theorem dX7_meanOf_59 : decode cX7_meanOf 59 = .ok (.istore 8, 2) := by decide +kernel
theorem dX7_meanOf_61 : decode cX7_meanOf 61 = .ok (.lload 5, 2) := by decide +kernel
theorem dX7_meanOf_63 : decode cX7_meanOf 63 = .ok (.getstatic 206, 3) := by decide +kernel
theorem dX7_meanOf_66 : decode cX7_meanOf 66 = .ok (.iload 8, 2) := by decide +kernel
theorem dX7_meanOf_68 : decode cX7_meanOf 68 = .ok (.iaload, 1) := by decide +kernel
theorem dX7_meanOf_69 : decode cX7_meanOf 69 = .ok (.i2l, 1) := by decide +kernel
theorem dX7_meanOf_70 : decode cX7_meanOf 70 = .ok (.aload_n 0, 1) := by decide +kernel
theorem dX7_meanOf_71 : decode cX7_meanOf 71 = .ok (.iload_n 1, 1) := by decide +kernel
theorem dX7_meanOf_72 : decode cX7_meanOf 72 = .ok (.iload_n 2, 1) := by decide +kernel
theorem dX7_meanOf_73 : decode cX7_meanOf 73 = .ok (.iload_n 3, 1) := by decide +kernel
theorem dX7_meanOf_74 : decode cX7_meanOf 74 = .ok (.iload 7, 2) := by decide +kernel
theorem dX7_meanOf_76 : decode cX7_meanOf 76 = .ok (.iconst 1, 1) := by decide +kernel
theorem dX7_meanOf_77 : decode cX7_meanOf 77 = .ok (.iload 4, 2) := by decide +kernel
theorem dX7_meanOf_79 : decode cX7_meanOf 79 = .ok (.ishl, 1) := by decide +kernel
theorem dX7_meanOf_80 : decode cX7_meanOf 80 = .ok (.ior, 1) := by decide +kernel
theorem dX7_meanOf_81 : decode cX7_meanOf 81 = .ok (.invokevirtual 185, 3) := by decide +kernel
theorem dX7_meanOf_84 : decode cX7_meanOf 84 = .ok (.aload_n 0, 1) := by decide +kernel
theorem dX7_meanOf_85 : decode cX7_meanOf 85 = .ok (.iload_n 1, 1) := by decide +kernel
theorem dX7_meanOf_86 : decode cX7_meanOf 86 = .ok (.iload_n 2, 1) := by decide +kernel
theorem dX7_meanOf_87 : decode cX7_meanOf 87 = .ok (.iload_n 3, 1) := by decide +kernel
theorem dX7_meanOf_88 : decode cX7_meanOf 88 = .ok (.iload 7, 2) := by decide +kernel
theorem dX7_meanOf_90 : decode cX7_meanOf 90 = .ok (.invokevirtual 185, 3) := by decide +kernel
theorem dX7_meanOf_93 : decode cX7_meanOf 93 = .ok (.isub, 1) := by decide +kernel
theorem dX7_meanOf_94 : decode cX7_meanOf 94 = .ok (.i2l, 1) := by decide +kernel
theorem dX7_meanOf_95 : decode cX7_meanOf 95 = .ok (.lmul, 1) := by decide +kernel
theorem dX7_meanOf_96 : decode cX7_meanOf 96 = .ok (.ladd, 1) := by decide +kernel
theorem dX7_meanOf_97 : decode cX7_meanOf 97 = .ok (.lstore 5, 2) := by decide +kernel
theorem dX7_meanOf_99 : decode cX7_meanOf 99 = .ok (.iinc 7 1, 3) := by decide +kernel
theorem dX7_meanOf_102 : decode cX7_meanOf 102 = .ok (.goto (-96), 3) := by decide +kernel
theorem dX7_meanOf_105 : decode cX7_meanOf 105 = .ok (.lload 5, 2) := by decide +kernel
theorem dX7_meanOf_107 : decode cX7_meanOf 107 = .ok (.ldc2_w 209, 3) := by decide +kernel
theorem dX7_meanOf_110 : decode cX7_meanOf 110 = .ok (.ldiv, 1) := by decide +kernel
theorem dX7_meanOf_111 : decode cX7_meanOf 111 = .ok (.l2i, 1) := by decide +kernel
theorem dX7_meanOf_112 : decode cX7_meanOf 112 = .ok (.ireturn, 1) := by decide +kernel
set_option maxRecDepth 20000 in
theorem ggX7_effectOf_X7_howOf : GoodIn wsX7_effectOf wsX7_howOf := goodIn_r _ [5, 6, 7, 8, 4, 9, 31, 32, 33, 34, 35, 36, 37, 38, 39, 40, 41, 42, 43, 44, 45, 46, 47] (by decide +kernel) (by decide +kernel)
set_option maxRecDepth 20000 in
theorem gX7_effectOf_X7_howOf : GoodIn wsX7_effectOf (wsV RX7 197 RX7 yX7_howOf wsX7_howOf) := goodIn_app (goodIn_of _ (by decide +kernel)) ggX7_effectOf_X7_howOf
set_option maxRecDepth 20000 in
theorem ggX7_effectOf_X7_valueOf : GoodIn wsX7_effectOf wsX7_valueOf := goodIn_r _ [13, 14, 15, 16, 4, 17, 6, 7, 8, 9, 31, 32, 33, 34, 35, 36, 37, 38, 39, 40, 41, 42, 43, 44, 45, 46, 47] (by decide +kernel) (by decide +kernel)
set_option maxRecDepth 20000 in
theorem gX7_effectOf_X7_valueOf : GoodIn wsX7_effectOf (wsV RX7 185 RX7 yX7_valueOf wsX7_valueOf) := goodIn_app (goodIn_of _ (by decide +kernel)) ggX7_effectOf_X7_valueOf
set_option maxRecDepth 20000 in
theorem ggX7_effectOf_X7_meanOf : GoodIn wsX7_effectOf wsX7_meanOf := goodIn_r _ [21, 22, 23, 10, 11, 12, 4, 13, 14, 15, 16, 17, 6, 7, 8, 9, 31, 32, 33, 34, 35, 36, 37, 38, 39, 40, 41, 42, 43, 44, 45, 46, 47] (by decide +kernel) (by decide +kernel)
set_option maxRecDepth 20000 in
theorem gX7_effectOf_X7_meanOf : GoodIn wsX7_effectOf (wsV RX7 211 RX7 yX7_meanOf wsX7_meanOf) := goodIn_app (goodIn_of _ (by decide +kernel)) ggX7_effectOf_X7_meanOf
set_option maxRecDepth 20000 in
theorem ggX7_effectOf_X7_stepOf : GoodIn wsX7_effectOf wsX7_stepOf := goodIn_r _ [27, 28, 29, 4, 30, 10, 11, 12, 13, 14, 15, 16, 17, 6, 7, 8, 9, 31, 32, 33, 34, 35, 36, 37, 38, 39, 40, 41, 42, 43, 44, 45, 46, 47] (by decide +kernel) (by decide +kernel)
set_option maxRecDepth 20000 in
theorem gX7_effectOf_X7_stepOf : GoodIn wsX7_effectOf (wsV RX7 214 RX7 yX7_stepOf wsX7_stepOf) := goodIn_app (goodIn_of _ (by decide +kernel)) ggX7_effectOf_X7_stepOf
theorem dX7_effectOf_0 : decode cX7_effectOf 0 = .ok (.aload_n 0, 1) := by decide +kernel
theorem dX7_effectOf_1 : decode cX7_effectOf 1 = .ok (.iload_n 1, 1) := by decide +kernel
theorem dX7_effectOf_2 : decode cX7_effectOf 2 = .ok (.iload_n 2, 1) := by decide +kernel
theorem dX7_effectOf_3 : decode cX7_effectOf 3 = .ok (.iload_n 3, 1) := by decide +kernel
theorem dX7_effectOf_4 : decode cX7_effectOf 4 = .ok (.invokevirtual 197, 3) := by decide +kernel
theorem dX7_effectOf_7 : decode cX7_effectOf 7 = .ok (.istore 6, 2) := by decide +kernel
theorem dX7_effectOf_9 : decode cX7_effectOf 9 = .ok (.aload_n 0, 1) := by decide +kernel
theorem dX7_effectOf_10 : decode cX7_effectOf 10 = .ok (.iload_n 1, 1) := by decide +kernel
theorem dX7_effectOf_11 : decode cX7_effectOf 11 = .ok (.iload_n 3, 1) := by decide +kernel
theorem dX7_effectOf_12 : decode cX7_effectOf 12 = .ok (.iload_n 3, 1) := by decide +kernel
theorem dX7_effectOf_13 : decode cX7_effectOf 13 = .ok (.iconst 0, 1) := by decide +kernel
theorem dX7_effectOf_14 : decode cX7_effectOf 14 = .ok (.invokevirtual 185, 3) := by decide +kernel
theorem dX7_effectOf_17 : decode cX7_effectOf 17 = .ok (.aload_n 0, 1) := by decide +kernel
theorem dX7_effectOf_18 : decode cX7_effectOf 18 = .ok (.iload_n 1, 1) := by decide +kernel
theorem dX7_effectOf_19 : decode cX7_effectOf 19 = .ok (.iload_n 2, 1) := by decide +kernel
theorem dX7_effectOf_20 : decode cX7_effectOf 20 = .ok (.iload_n 2, 1) := by decide +kernel
theorem dX7_effectOf_21 : decode cX7_effectOf 21 = .ok (.iconst 0, 1) := by decide +kernel
theorem dX7_effectOf_22 : decode cX7_effectOf 22 = .ok (.invokevirtual 185, 3) := by decide +kernel
theorem dX7_effectOf_25 : decode cX7_effectOf 25 = .ok (.isub, 1) := by decide +kernel
theorem dX7_effectOf_26 : decode cX7_effectOf 26 = .ok (.istore 7, 2) := by decide +kernel
theorem dX7_effectOf_28 : decode cX7_effectOf 28 = .ok (.iload 6, 2) := by decide +kernel
theorem dX7_effectOf_30 : decode cX7_effectOf 30 = .ok (.ifCond .eq 19, 3) := by decide +kernel
theorem dX7_effectOf_33 : decode cX7_effectOf 33 = .ok (.iload 5, 2) := by decide +kernel
theorem dX7_effectOf_35 : decode cX7_effectOf 35 = .ok (.iconst 4, 1) := by decide +kernel
theorem dX7_effectOf_36 : decode cX7_effectOf 36 = .ok (.iload 6, 2) := by decide +kernel
theorem dX7_effectOf_38 : decode cX7_effectOf 38 = .ok (.iadd, 1) := by decide +kernel
theorem dX7_effectOf_39 : decode cX7_effectOf 39 = .ok (.if_icmp .ne 8, 3) := by decide +kernel
theorem dX7_effectOf_42 : decode cX7_effectOf 42 = .ok (.iload 7, 2) := by decide +kernel
theorem dX7_effectOf_44 : decode cX7_effectOf 44 = .ok (.goto 4, 3) := by decide +kernel
theorem dX7_effectOf_47 : decode cX7_effectOf 47 = .ok (.iconst 0, 1) := by decide +kernel
theorem dX7_effectOf_48 : decode cX7_effectOf 48 = .ok (.ireturn, 1) := by decide +kernel
theorem dX7_effectOf_49 : decode cX7_effectOf 49 = .ok (.iload 5, 2) := by decide +kernel
theorem dX7_effectOf_51 : decode cX7_effectOf 51 = .ok (.iconst 5, 1) := by decide +kernel
theorem dX7_effectOf_52 : decode cX7_effectOf 52 = .ok (.if_icmp .ge 33, 3) := by decide +kernel
theorem dX7_effectOf_55 : decode cX7_effectOf 55 = .ok (.iload 4, 2) := by decide +kernel
theorem dX7_effectOf_57 : decode cX7_effectOf 57 = .ok (.iconst (-1), 1) := by decide +kernel
theorem dX7_effectOf_58 : decode cX7_effectOf 58 = .ok (.if_icmp .ne 15, 3) := by decide +kernel
theorem dX7_effectOf_61 : decode cX7_effectOf 61 = .ok (.aload_n 0, 1) := by decide +kernel
theorem dX7_effectOf_62 : decode cX7_effectOf 62 = .ok (.iload_n 1, 1) := by decide +kernel
theorem dX7_effectOf_63 : decode cX7_effectOf 63 = .ok (.iload_n 2, 1) := by decide +kernel
theorem dX7_effectOf_64 : decode cX7_effectOf 64 = .ok (.iload_n 3, 1) := by decide +kernel
theorem dX7_effectOf_65 : decode cX7_effectOf 65 = .ok (.iload 5, 2) := by decide +kernel
theorem dX7_effectOf_67 : decode cX7_effectOf 67 = .ok (.invokevirtual 211, 3) := by decide +kernel
theorem dX7_effectOf_70 : decode cX7_effectOf 70 = .ok (.goto 14, 3) := by decide +kernel
theorem dX7_effectOf_73 : decode cX7_effectOf 73 = .ok (.aload_n 0, 1) := by decide +kernel
theorem dX7_effectOf_74 : decode cX7_effectOf 74 = .ok (.iload_n 1, 1) := by decide +kernel
theorem dX7_effectOf_75 : decode cX7_effectOf 75 = .ok (.iload_n 2, 1) := by decide +kernel
theorem dX7_effectOf_76 : decode cX7_effectOf 76 = .ok (.iload_n 3, 1) := by decide +kernel
theorem dX7_effectOf_77 : decode cX7_effectOf 77 = .ok (.iload 4, 2) := by decide +kernel
theorem dX7_effectOf_79 : decode cX7_effectOf 79 = .ok (.iload 5, 2) := by decide +kernel
theorem dX7_effectOf_81 : decode cX7_effectOf 81 = .ok (.invokevirtual 214, 3) := by decide +kernel
theorem dX7_effectOf_84 : decode cX7_effectOf 84 = .ok (.ireturn, 1) := by decide +kernel
theorem dX7_effectOf_85 : decode cX7_effectOf 85 = .ok (.iload 5, 2) := by decide +kernel
theorem dX7_effectOf_87 : decode cX7_effectOf 87 = .ok (.bipush 7, 2) := by decide +kernel
theorem dX7_effectOf_89 : decode cX7_effectOf 89 = .ok (.if_icmp .ne 9, 3) := by decide +kernel
theorem dX7_effectOf_92 : decode cX7_effectOf 92 = .ok (.iload 4, 2) := by decide +kernel
theorem dX7_effectOf_94 : decode cX7_effectOf 94 = .ok (.iconst (-1), 1) := by decide +kernel
theorem dX7_effectOf_95 : decode cX7_effectOf 95 = .ok (.if_icmp .eq 5, 3) := by decide +kernel
theorem dX7_effectOf_98 : decode cX7_effectOf 98 = .ok (.iconst 0, 1) := by decide +kernel
theorem dX7_effectOf_99 : decode cX7_effectOf 99 = .ok (.ireturn, 1) := by decide +kernel
theorem dX7_effectOf_100 : decode cX7_effectOf 100 = .ok (.iconst 0, 1) := by decide +kernel
theorem dX7_effectOf_101 : decode cX7_effectOf 101 = .ok (.istore 8, 2) := by decide +kernel
theorem dX7_effectOf_103 : decode cX7_effectOf 103 = .ok (.iload 8, 2) := by decide +kernel
theorem dX7_effectOf_105 : decode cX7_effectOf 105 = .ok (.iconst 5, 1) := by decide +kernel
theorem dX7_effectOf_106 : decode cX7_effectOf 106 = .ok (.if_icmp .ge 23, 3) := by decide +kernel
theorem dX7_effectOf_109 : decode cX7_effectOf 109 = .ok (.iload 7, 2) := by decide +kernel
theorem dX7_effectOf_111 : decode cX7_effectOf 111 = .ok (.aload_n 0, 1) := by decide +kernel
theorem dX7_effectOf_112 : decode cX7_effectOf 112 = .ok (.iload_n 1, 1) := by decide +kernel
theorem dX7_effectOf_113 : decode cX7_effectOf 113 = .ok (.iload_n 2, 1) := by decide +kernel
theorem dX7_effectOf_114 : decode cX7_effectOf 114 = .ok (.iload_n 3, 1) := by decide +kernel
theorem dX7_effectOf_115 : decode cX7_effectOf 115 = .ok (.iload 8, 2) := by decide +kernel
theorem dX7_effectOf_117 : decode cX7_effectOf 117 = .ok (.invokevirtual 211, 3) := by decide +kernel
theorem dX7_effectOf_120 : decode cX7_effectOf 120 = .ok (.isub, 1) := by decide +kernel
theorem dX7_effectOf_121 : decode cX7_effectOf 121 = .ok (.istore 7, 2) := by decide +kernel
theorem dX7_effectOf_123 : decode cX7_effectOf 123 = .ok (.iinc 8 1, 3) := by decide +kernel
theorem dX7_effectOf_126 : decode cX7_effectOf 126 = .ok (.goto (-23), 3) := by decide +kernel
theorem dX7_effectOf_129 : decode cX7_effectOf 129 = .ok (.iload 7, 2) := by decide +kernel
theorem dX7_effectOf_131 : decode cX7_effectOf 131 = .ok (.ireturn, 1) := by decide +kernel
set_option maxRecDepth 20000 in
theorem ggX7_effectIn_X7_isLeafOf : GoodIn wsX7_effectIn wsX7_isLeafOf := goodIn_r _ [6, 1, 7, 8, 9, 5, 10, 11, 12, 13, 14, 47, 48, 49, 50, 51, 52, 53, 54, 55, 56, 57, 58, 59, 60, 61, 62, 63] (by decide +kernel) (by decide +kernel)
set_option maxRecDepth 20000 in
theorem gX7_effectIn_X7_isLeafOf : GoodIn wsX7_effectIn (wsV RX7 162 RX7 yX7_isLeafOf wsX7_isLeafOf) := goodIn_app (goodIn_of _ (by decide +kernel)) ggX7_effectIn_X7_isLeafOf
set_option maxRecDepth 20000 in
theorem ggX7_effectIn_X7_effectOf : GoodIn wsX7_effectIn wsX7_effectOf := goodIn_r _ [18, 19, 20, 21, 5, 22, 1, 23, 24, 25, 26, 27, 28, 29, 30, 31, 32, 33, 34, 35, 36, 37, 38, 39, 40, 41, 42, 43, 44, 45, 46, 47, 48, 49, 50, 51, 52, 53, 54, 55, 56, 57, 58, 59, 60, 61, 62, 63] (by decide +kernel) (by decide +kernel)
set_option maxRecDepth 20000 in
theorem gX7_effectIn_X7_effectOf : GoodIn wsX7_effectIn (wsV RX7 217 RX7 yX7_effectOf wsX7_effectOf) := goodIn_app (goodIn_of _ (by decide +kernel)) ggX7_effectIn_X7_effectOf
theorem dX7_effectIn_0 : decode cX7_effectIn 0 = .ok (.iconst 0, 1) := by decide +kernel
theorem dX7_effectIn_1 : decode cX7_effectIn 1 = .ok (.istore 6, 2) := by decide +kernel
theorem dX7_effectIn_3 : decode cX7_effectIn 3 = .ok (.iconst 0, 1) := by decide +kernel
theorem dX7_effectIn_4 : decode cX7_effectIn 4 = .ok (.istore 7, 2) := by decide +kernel
theorem dX7_effectIn_6 : decode cX7_effectIn 6 = .ok (.iload 7, 2) := by decide +kernel
theorem dX7_effectIn_8 : decode cX7_effectIn 8 = .ok (.aload_n 0, 1) := by decide +kernel
theorem dX7_effectIn_9 : decode cX7_effectIn 9 = .ok (.getfield 64, 3) := by decide +kernel
theorem dX7_effectIn_12 : decode cX7_effectIn 12 = .ok (.iconst 1, 1) := by decide +kernel
theorem dX7_effectIn_13 : decode cX7_effectIn 13 = .ok (.iaload, 1) := by decide +kernel
theorem dX7_effectIn_14 : decode cX7_effectIn 14 = .ok (.if_icmp .ge 36, 3) := by decide +kernel
theorem dX7_effectIn_17 : decode cX7_effectIn 17 = .ok (.aload_n 0, 1) := by decide +kernel
theorem dX7_effectIn_18 : decode cX7_effectIn 18 = .ok (.iload 7, 2) := by decide +kernel
theorem dX7_effectIn_20 : decode cX7_effectIn 20 = .ok (.iload_n 1, 1) := by decide +kernel
theorem dX7_effectIn_21 : decode cX7_effectIn 21 = .ok (.invokevirtual 162, 3) := by decide +kernel
theorem dX7_effectIn_24 : decode cX7_effectIn 24 = .ok (.ifCond .eq 20, 3) := by decide +kernel
theorem dX7_effectIn_27 : decode cX7_effectIn 27 = .ok (.iload 6, 2) := by decide +kernel
theorem dX7_effectIn_29 : decode cX7_effectIn 29 = .ok (.aload_n 0, 1) := by decide +kernel
theorem dX7_effectIn_30 : decode cX7_effectIn 30 = .ok (.iload 7, 2) := by decide +kernel
theorem dX7_effectIn_32 : decode cX7_effectIn 32 = .ok (.iload_n 2, 1) := by decide +kernel
theorem dX7_effectIn_33 : decode cX7_effectIn 33 = .ok (.iload_n 3, 1) := by decide +kernel
theorem dX7_effectIn_34 : decode cX7_effectIn 34 = .ok (.iload 4, 2) := by decide +kernel
theorem dX7_effectIn_36 : decode cX7_effectIn 36 = .ok (.iload 5, 2) := by decide +kernel
theorem dX7_effectIn_38 : decode cX7_effectIn 38 = .ok (.invokevirtual 217, 3) := by decide +kernel
theorem dX7_effectIn_41 : decode cX7_effectIn 41 = .ok (.iadd, 1) := by decide +kernel
theorem dX7_effectIn_42 : decode cX7_effectIn 42 = .ok (.istore 6, 2) := by decide +kernel
theorem dX7_effectIn_44 : decode cX7_effectIn 44 = .ok (.iinc 7 1, 3) := by decide +kernel
theorem dX7_effectIn_47 : decode cX7_effectIn 47 = .ok (.goto (-41), 3) := by decide +kernel
theorem dX7_effectIn_50 : decode cX7_effectIn 50 = .ok (.iload 6, 2) := by decide +kernel
theorem dX7_effectIn_52 : decode cX7_effectIn 52 = .ok (.ireturn, 1) := by decide +kernel
set_option maxRecDepth 20000 in
theorem ggX7_effect_X7_isNode : GoodIn wsX7_effect wsX7_isNode := goodIn_r _ [7, 8, 9, 10, 6, 11, 71, 72, 73, 74, 75, 76, 77, 78, 79, 80, 81, 82, 83, 84, 85, 86, 87] (by decide +kernel) (by decide +kernel)
set_option maxRecDepth 20000 in
theorem gX7_effect_X7_isNode : GoodIn wsX7_effect (wsV RX7 150 RX7 yX7_isNode wsX7_isNode) := goodIn_app (goodIn_of _ (by decide +kernel)) ggX7_effect_X7_isNode
set_option maxRecDepth 20000 in
theorem ggX7_effect_X7_areScenes : GoodIn wsX7_effect wsX7_areScenes := goodIn_r _ [15, 16, 17, 18, 6, 19, 8, 9, 10, 11, 71, 72, 73, 74, 75, 76, 77, 78, 79, 80, 81, 82, 83, 84, 85, 86, 87] (by decide +kernel) (by decide +kernel)
set_option maxRecDepth 20000 in
theorem gX7_effect_X7_areScenes : GoodIn wsX7_effect (wsV RX7 194 RX7 yX7_areScenes wsX7_areScenes) := goodIn_app (goodIn_of _ (by decide +kernel)) ggX7_effect_X7_areScenes
set_option maxRecDepth 20000 in
theorem ggX7_effect_X7_isOrder : GoodIn wsX7_effect wsX7_isOrder := goodIn_r _ [22, 9, 10, 6, 11] (by decide +kernel) (by decide +kernel)
set_option maxRecDepth 20000 in
theorem gX7_effect_X7_isOrder : GoodIn wsX7_effect (va_wsS RX7 200 yX7_isOrder wsX7_isOrder) := goodIn_app (goodIn_of _ (by decide +kernel)) ggX7_effect_X7_isOrder
set_option maxRecDepth 20000 in
theorem ggX7_effect_X7_isIn : GoodIn wsX7_effect wsX7_isIn := goodIn_r _ [11] (by decide +kernel) (by decide +kernel)
set_option maxRecDepth 20000 in
theorem gX7_effect_X7_isIn : GoodIn wsX7_effect (va_wsS RX7 88 yX7_isIn wsX7_isIn) := goodIn_app (goodIn_of _ (by decide +kernel)) ggX7_effect_X7_isIn
set_option maxRecDepth 20000 in
theorem ggX7_effect_X7_effectIn : GoodIn wsX7_effect wsX7_effectIn := goodIn_r _ [26, 8, 27, 28, 29, 6, 30, 31, 32, 33, 34, 35, 36, 37, 38, 39, 40, 41, 42, 43, 44, 45, 46, 47, 48, 49, 50, 51, 52, 53, 54, 55, 56, 57, 58, 59, 60, 61, 62, 63, 64, 65, 66, 67, 68, 69, 70, 71, 72, 73, 74, 75, 76, 77, 78, 79, 80, 81, 82, 83, 84, 85, 86, 87] (by decide +kernel) (by decide +kernel)
set_option maxRecDepth 20000 in
theorem gX7_effect_X7_effectIn : GoodIn wsX7_effect (wsV RX7 220 RX7 yX7_effectIn wsX7_effectIn) := goodIn_app (goodIn_of _ (by decide +kernel)) ggX7_effect_X7_effectIn
theorem dX7_effect_0 : decode cX7_effect 0 = .ok (.aload_n 0, 1) := by decide +kernel
theorem dX7_effect_1 : decode cX7_effect 1 = .ok (.iconst 0, 1) := by decide +kernel
theorem dX7_effect_2 : decode cX7_effect 2 = .ok (.putfield 1, 3) := by decide +kernel
theorem dX7_effect_5 : decode cX7_effect 5 = .ok (.aload_n 0, 1) := by decide +kernel
theorem dX7_effect_6 : decode cX7_effect 6 = .ok (.iload_n 1, 1) := by decide +kernel
theorem dX7_effect_7 : decode cX7_effect 7 = .ok (.invokevirtual 150, 3) := by decide +kernel
theorem dX7_effect_10 : decode cX7_effect 10 = .ok (.ifCond .eq 37, 3) := by decide +kernel
theorem dX7_effect_13 : decode cX7_effect 13 = .ok (.aload_n 0, 1) := by decide +kernel
theorem dX7_effect_14 : decode cX7_effect 14 = .ok (.iload_n 2, 1) := by decide +kernel
theorem dX7_effect_15 : decode cX7_effect 15 = .ok (.iload_n 3, 1) := by decide +kernel
theorem dX7_effect_16 : decode cX7_effect 16 = .ok (.invokevirtual 194, 3) := by decide +kernel
theorem dX7_effect_19 : decode cX7_effect 19 = .ok (.ifCond .eq 28, 3) := by decide +kernel
theorem dX7_effect_22 : decode cX7_effect 22 = .ok (.iload 4, 2) := by decide +kernel
theorem dX7_effect_24 : decode cX7_effect 24 = .ok (.iconst (-1), 1) := by decide +kernel
theorem dX7_effect_25 : decode cX7_effect 25 = .ok (.if_icmp .eq 11, 3) := by decide +kernel
theorem dX7_effect_28 : decode cX7_effect 28 = .ok (.iload 4, 2) := by decide +kernel
theorem dX7_effect_30 : decode cX7_effect 30 = .ok (.invokestatic 200, 3) := by decide +kernel
theorem dX7_effect_33 : decode cX7_effect 33 = .ok (.ifCond .eq 14, 3) := by decide +kernel
theorem dX7_effect_36 : decode cX7_effect 36 = .ok (.iload 5, 2) := by decide +kernel
theorem dX7_effect_38 : decode cX7_effect 38 = .ok (.iconst 0, 1) := by decide +kernel
theorem dX7_effect_39 : decode cX7_effect 39 = .ok (.bipush 7, 2) := by decide +kernel
theorem dX7_effect_41 : decode cX7_effect 41 = .ok (.invokestatic 88, 3) := by decide +kernel
theorem dX7_effect_44 : decode cX7_effect 44 = .ok (.ifCond .ne 6, 3) := by decide +kernel
theorem dX7_effect_47 : decode cX7_effect 47 = .ok (.ldc 193, 2) := by decide +kernel
theorem dX7_effect_49 : decode cX7_effect 49 = .ok (.ireturn, 1) := by decide +kernel
theorem dX7_effect_50 : decode cX7_effect 50 = .ok (.aload_n 0, 1) := by decide +kernel
theorem dX7_effect_51 : decode cX7_effect 51 = .ok (.iload_n 1, 1) := by decide +kernel
theorem dX7_effect_52 : decode cX7_effect 52 = .ok (.iload_n 2, 1) := by decide +kernel
theorem dX7_effect_53 : decode cX7_effect 53 = .ok (.iload_n 3, 1) := by decide +kernel
theorem dX7_effect_54 : decode cX7_effect 54 = .ok (.iload 4, 2) := by decide +kernel
theorem dX7_effect_56 : decode cX7_effect 56 = .ok (.iload 5, 2) := by decide +kernel
theorem dX7_effect_58 : decode cX7_effect 58 = .ok (.invokevirtual 220, 3) := by decide +kernel
theorem dX7_effect_61 : decode cX7_effect 61 = .ok (.ireturn, 1) := by decide +kernel
set_option maxRecDepth 20000 in
theorem ggX7_unitsOf_X7_isLeafOf : GoodIn wsX7_unitsOf wsX7_isLeafOf := goodIn_r _ [6, 1, 7, 8, 9, 5, 10, 11, 12, 13, 14, 22, 23, 24, 25, 26, 27, 28, 29, 30, 31, 32, 33, 34, 35, 36, 37, 38] (by decide +kernel) (by decide +kernel)
set_option maxRecDepth 20000 in
theorem gX7_unitsOf_X7_isLeafOf : GoodIn wsX7_unitsOf (wsV RX7 162 RX7 yX7_isLeafOf wsX7_isLeafOf) := goodIn_app (goodIn_of _ (by decide +kernel)) ggX7_unitsOf_X7_isLeafOf
set_option maxRecDepth 20000 in
theorem ggX7_unitsOf_X7_howOf : GoodIn wsX7_unitsOf wsX7_howOf := goodIn_r _ [18, 1, 19, 20, 5, 21, 22, 23, 24, 25, 26, 27, 28, 29, 30, 31, 32, 33, 34, 35, 36, 37, 38] (by decide +kernel) (by decide +kernel)
set_option maxRecDepth 20000 in
theorem gX7_unitsOf_X7_howOf : GoodIn wsX7_unitsOf (wsV RX7 197 RX7 yX7_howOf wsX7_howOf) := goodIn_app (goodIn_of _ (by decide +kernel)) ggX7_unitsOf_X7_howOf
set_option maxRecDepth 20000 in
theorem ggX7_unitsOf_X7_at : GoodIn wsX7_unitsOf wsX7_at := goodIn_r _ [21] (by decide +kernel) (by decide +kernel)
set_option maxRecDepth 20000 in
theorem gX7_unitsOf_X7_at : GoodIn wsX7_unitsOf (va_wsS RX7 81 yX7_at wsX7_at) := goodIn_app (goodIn_of _ (by decide +kernel)) ggX7_unitsOf_X7_at
theorem dX7_unitsOf_0 : decode cX7_unitsOf 0 = .ok (.iconst 0, 1) := by decide +kernel
theorem dX7_unitsOf_1 : decode cX7_unitsOf 1 = .ok (.istore 5, 2) := by decide +kernel
theorem dX7_unitsOf_3 : decode cX7_unitsOf 3 = .ok (.iconst 0, 1) := by decide +kernel
theorem dX7_unitsOf_4 : decode cX7_unitsOf 4 = .ok (.istore 6, 2) := by decide +kernel
theorem dX7_unitsOf_6 : decode cX7_unitsOf 6 = .ok (.iload 6, 2) := by decide +kernel
theorem dX7_unitsOf_8 : decode cX7_unitsOf 8 = .ok (.aload_n 0, 1) := by decide +kernel
theorem dX7_unitsOf_9 : decode cX7_unitsOf 9 = .ok (.getfield 64, 3) := by decide +kernel
theorem dX7_unitsOf_12 : decode cX7_unitsOf 12 = .ok (.iconst 1, 1) := by decide +kernel
theorem dX7_unitsOf_13 : decode cX7_unitsOf 13 = .ok (.iaload, 1) := by decide +kernel
theorem dX7_unitsOf_14 : decode cX7_unitsOf 14 = .ok (.if_icmp .ge 48, 3) := by decide +kernel
theorem dX7_unitsOf_17 : decode cX7_unitsOf 17 = .ok (.aload_n 0, 1) := by decide +kernel
theorem dX7_unitsOf_18 : decode cX7_unitsOf 18 = .ok (.iload 6, 2) := by decide +kernel
theorem dX7_unitsOf_20 : decode cX7_unitsOf 20 = .ok (.iload_n 1, 1) := by decide +kernel
theorem dX7_unitsOf_21 : decode cX7_unitsOf 21 = .ok (.invokevirtual 162, 3) := by decide +kernel
theorem dX7_unitsOf_24 : decode cX7_unitsOf 24 = .ok (.ifCond .eq 32, 3) := by decide +kernel
theorem dX7_unitsOf_27 : decode cX7_unitsOf 27 = .ok (.aload_n 0, 1) := by decide +kernel
theorem dX7_unitsOf_28 : decode cX7_unitsOf 28 = .ok (.iload 6, 2) := by decide +kernel
theorem dX7_unitsOf_30 : decode cX7_unitsOf 30 = .ok (.iload_n 2, 1) := by decide +kernel
theorem dX7_unitsOf_31 : decode cX7_unitsOf 31 = .ok (.iload_n 3, 1) := by decide +kernel
theorem dX7_unitsOf_32 : decode cX7_unitsOf 32 = .ok (.invokevirtual 197, 3) := by decide +kernel
theorem dX7_unitsOf_35 : decode cX7_unitsOf 35 = .ok (.ifCond .ne 21, 3) := by decide +kernel
theorem dX7_unitsOf_38 : decode cX7_unitsOf 38 = .ok (.iload 5, 2) := by decide +kernel
theorem dX7_unitsOf_40 : decode cX7_unitsOf 40 = .ok (.aload_n 0, 1) := by decide +kernel
theorem dX7_unitsOf_41 : decode cX7_unitsOf 41 = .ok (.getfield 64, 3) := by decide +kernel
theorem dX7_unitsOf_44 : decode cX7_unitsOf 44 = .ok (.iload 6, 2) := by decide +kernel
theorem dX7_unitsOf_46 : decode cX7_unitsOf 46 = .ok (.iload 4, 2) := by decide +kernel
theorem dX7_unitsOf_48 : decode cX7_unitsOf 48 = .ok (.iconst 0, 1) := by decide +kernel
theorem dX7_unitsOf_49 : decode cX7_unitsOf 49 = .ok (.invokestatic 81, 3) := by decide +kernel
theorem dX7_unitsOf_52 : decode cX7_unitsOf 52 = .ok (.iaload, 1) := by decide +kernel
theorem dX7_unitsOf_53 : decode cX7_unitsOf 53 = .ok (.iadd, 1) := by decide +kernel
theorem dX7_unitsOf_54 : decode cX7_unitsOf 54 = .ok (.istore 5, 2) := by decide +kernel
theorem dX7_unitsOf_56 : decode cX7_unitsOf 56 = .ok (.iinc 6 1, 3) := by decide +kernel
theorem dX7_unitsOf_59 : decode cX7_unitsOf 59 = .ok (.goto (-53), 3) := by decide +kernel
theorem dX7_unitsOf_62 : decode cX7_unitsOf 62 = .ok (.iload 5, 2) := by decide +kernel
theorem dX7_unitsOf_64 : decode cX7_unitsOf 64 = .ok (.ireturn, 1) := by decide +kernel
set_option maxRecDepth 20000 in
theorem ggX7_mix_X7_isNode : GoodIn wsX7_mix wsX7_isNode := goodIn_r _ [7, 8, 9, 10, 6, 11, 43, 44, 45, 46, 47, 48, 49, 50, 51, 52, 53, 54, 55, 56, 57, 58, 59] (by decide +kernel) (by decide +kernel)
set_option maxRecDepth 20000 in
theorem gX7_mix_X7_isNode : GoodIn wsX7_mix (wsV RX7 150 RX7 yX7_isNode wsX7_isNode) := goodIn_app (goodIn_of _ (by decide +kernel)) ggX7_mix_X7_isNode
set_option maxRecDepth 20000 in
theorem ggX7_mix_X7_areScenes : GoodIn wsX7_mix wsX7_areScenes := goodIn_r _ [15, 16, 17, 18, 6, 19, 8, 9, 10, 11, 43, 44, 45, 46, 47, 48, 49, 50, 51, 52, 53, 54, 55, 56, 57, 58, 59] (by decide +kernel) (by decide +kernel)
set_option maxRecDepth 20000 in
theorem gX7_mix_X7_areScenes : GoodIn wsX7_mix (wsV RX7 194 RX7 yX7_areScenes wsX7_areScenes) := goodIn_app (goodIn_of _ (by decide +kernel)) ggX7_mix_X7_areScenes
set_option maxRecDepth 20000 in
theorem ggX7_mix_X7_parentOf : GoodIn wsX7_mix wsX7_parentOf := goodIn_r _ [23, 8, 43, 44, 45, 46, 47, 48, 49, 50, 51, 52, 53, 54, 55, 56, 57, 58, 59] (by decide +kernel) (by decide +kernel)
set_option maxRecDepth 20000 in
theorem gX7_mix_X7_parentOf : GoodIn wsX7_mix (wsV RX7 156 RX7 yX7_parentOf wsX7_parentOf) := goodIn_app (goodIn_of _ (by decide +kernel)) ggX7_mix_X7_parentOf
set_option maxRecDepth 20000 in
theorem ggX7_mix_X7_unitsOf : GoodIn wsX7_mix wsX7_unitsOf := goodIn_r _ [27, 8, 28, 29, 30, 6, 31, 32, 33, 34, 35, 20, 21, 22, 23, 36, 37, 38, 39, 40, 41, 42, 43, 44, 45, 46, 47, 48, 49, 50, 51, 52, 53, 54, 55, 56, 57, 58, 59] (by decide +kernel) (by decide +kernel)
set_option maxRecDepth 20000 in
theorem gX7_mix_X7_unitsOf : GoodIn wsX7_mix (wsV RX7 223 RX7 yX7_unitsOf wsX7_unitsOf) := goodIn_app (goodIn_of _ (by decide +kernel)) ggX7_mix_X7_unitsOf
theorem dX7_mix_0 : decode cX7_mix 0 = .ok (.aload_n 0, 1) := by decide +kernel
theorem dX7_mix_1 : decode cX7_mix 1 = .ok (.iconst 0, 1) := by decide +kernel
theorem dX7_mix_2 : decode cX7_mix 2 = .ok (.putfield 1, 3) := by decide +kernel
theorem dX7_mix_5 : decode cX7_mix 5 = .ok (.aload_n 0, 1) := by decide +kernel
theorem dX7_mix_6 : decode cX7_mix 6 = .ok (.iload_n 1, 1) := by decide +kernel
theorem dX7_mix_7 : decode cX7_mix 7 = .ok (.invokevirtual 150, 3) := by decide +kernel
theorem dX7_mix_10 : decode cX7_mix 10 = .ok (.ifCond .eq 16, 3) := by decide +kernel
theorem dX7_mix_13 : decode cX7_mix 13 = .ok (.iload_n 1, 1) := by decide +kernel
theorem dX7_mix_14 : decode cX7_mix 14 = .ok (.ifCond .eq 12, 3) := by decide +kernel
theorem dX7_mix_17 : decode cX7_mix 17 = .ok (.aload_n 0, 1) := by decide +kernel
theorem dX7_mix_18 : decode cX7_mix 18 = .ok (.iload_n 2, 1) := by decide +kernel
theorem dX7_mix_19 : decode cX7_mix 19 = .ok (.iload_n 3, 1) := by decide +kernel
theorem dX7_mix_20 : decode cX7_mix 20 = .ok (.invokevirtual 194, 3) := by decide +kernel
theorem dX7_mix_23 : decode cX7_mix 23 = .ok (.ifCond .ne 6, 3) := by decide +kernel
theorem dX7_mix_26 : decode cX7_mix 26 = .ok (.ldc 193, 2) := by decide +kernel
theorem dX7_mix_28 : decode cX7_mix 28 = .ok (.ireturn, 1) := by decide +kernel
theorem dX7_mix_29 : decode cX7_mix 29 = .ok (.aload_n 0, 1) := by decide +kernel
theorem dX7_mix_30 : decode cX7_mix 30 = .ok (.aload_n 0, 1) := by decide +kernel
theorem dX7_mix_31 : decode cX7_mix 31 = .ok (.iload_n 1, 1) := by decide +kernel
theorem dX7_mix_32 : decode cX7_mix 32 = .ok (.invokevirtual 156, 3) := by decide +kernel
theorem dX7_mix_35 : decode cX7_mix 35 = .ok (.iload_n 2, 1) := by decide +kernel
theorem dX7_mix_36 : decode cX7_mix 36 = .ok (.iload_n 3, 1) := by decide +kernel
theorem dX7_mix_37 : decode cX7_mix 37 = .ok (.iload_n 2, 1) := by decide +kernel
theorem dX7_mix_38 : decode cX7_mix 38 = .ok (.invokevirtual 223, 3) := by decide +kernel
theorem dX7_mix_41 : decode cX7_mix 41 = .ok (.istore 4, 2) := by decide +kernel
theorem dX7_mix_43 : decode cX7_mix 43 = .ok (.iload 4, 2) := by decide +kernel
theorem dX7_mix_45 : decode cX7_mix 45 = .ok (.ifCond .ne 5, 3) := by decide +kernel
theorem dX7_mix_48 : decode cX7_mix 48 = .ok (.iconst 0, 1) := by decide +kernel
theorem dX7_mix_49 : decode cX7_mix 49 = .ok (.ireturn, 1) := by decide +kernel
theorem dX7_mix_50 : decode cX7_mix 50 = .ok (.aload_n 0, 1) := by decide +kernel
theorem dX7_mix_51 : decode cX7_mix 51 = .ok (.iload_n 1, 1) := by decide +kernel
theorem dX7_mix_52 : decode cX7_mix 52 = .ok (.iload_n 2, 1) := by decide +kernel
theorem dX7_mix_53 : decode cX7_mix 53 = .ok (.iload_n 3, 1) := by decide +kernel
theorem dX7_mix_54 : decode cX7_mix 54 = .ok (.iload_n 3, 1) := by decide +kernel
theorem dX7_mix_55 : decode cX7_mix 55 = .ok (.invokevirtual 223, 3) := by decide +kernel
theorem dX7_mix_58 : decode cX7_mix 58 = .ok (.aload_n 0, 1) := by decide +kernel
theorem dX7_mix_59 : decode cX7_mix 59 = .ok (.aload_n 0, 1) := by decide +kernel
theorem dX7_mix_60 : decode cX7_mix 60 = .ok (.iload_n 1, 1) := by decide +kernel
theorem dX7_mix_61 : decode cX7_mix 61 = .ok (.invokevirtual 156, 3) := by decide +kernel
theorem dX7_mix_64 : decode cX7_mix 64 = .ok (.iload_n 2, 1) := by decide +kernel
theorem dX7_mix_65 : decode cX7_mix 65 = .ok (.iload_n 3, 1) := by decide +kernel
theorem dX7_mix_66 : decode cX7_mix 66 = .ok (.iload_n 3, 1) := by decide +kernel
theorem dX7_mix_67 : decode cX7_mix 67 = .ok (.invokevirtual 223, 3) := by decide +kernel
theorem dX7_mix_70 : decode cX7_mix 70 = .ok (.aload_n 0, 1) := by decide +kernel
theorem dX7_mix_71 : decode cX7_mix 71 = .ok (.iload_n 1, 1) := by decide +kernel
theorem dX7_mix_72 : decode cX7_mix 72 = .ok (.iload_n 2, 1) := by decide +kernel
theorem dX7_mix_73 : decode cX7_mix 73 = .ok (.iload_n 3, 1) := by decide +kernel
theorem dX7_mix_74 : decode cX7_mix 74 = .ok (.iload_n 2, 1) := by decide +kernel
theorem dX7_mix_75 : decode cX7_mix 75 = .ok (.invokevirtual 223, 3) := by decide +kernel
theorem dX7_mix_78 : decode cX7_mix 78 = .ok (.imul, 1) := by decide +kernel
theorem dX7_mix_79 : decode cX7_mix 79 = .ok (.iload 4, 2) := by decide +kernel
theorem dX7_mix_81 : decode cX7_mix 81 = .ok (.idiv, 1) := by decide +kernel
theorem dX7_mix_82 : decode cX7_mix 82 = .ok (.isub, 1) := by decide +kernel
theorem dX7_mix_83 : decode cX7_mix 83 = .ok (.ireturn, 1) := by decide +kernel
set_option maxRecDepth 20000 in
theorem ggX7_flatters_X7_isNode : GoodIn wsX7_flatters wsX7_isNode := goodIn_r _ [6, 7, 8, 9, 5, 10, 70, 71, 72, 73, 74, 75, 76, 77, 78, 79, 80, 81, 82, 83, 84, 85, 86] (by decide +kernel) (by decide +kernel)
set_option maxRecDepth 20000 in
theorem gX7_flatters_X7_isNode : GoodIn wsX7_flatters (wsV RX7 150 RX7 yX7_isNode wsX7_isNode) := goodIn_app (goodIn_of _ (by decide +kernel)) ggX7_flatters_X7_isNode
set_option maxRecDepth 20000 in
theorem ggX7_flatters_X7_areScenes : GoodIn wsX7_flatters wsX7_areScenes := goodIn_r _ [14, 15, 16, 17, 5, 18, 7, 8, 9, 10, 70, 71, 72, 73, 74, 75, 76, 77, 78, 79, 80, 81, 82, 83, 84, 85, 86] (by decide +kernel) (by decide +kernel)
set_option maxRecDepth 20000 in
theorem gX7_flatters_X7_areScenes : GoodIn wsX7_flatters (wsV RX7 194 RX7 yX7_areScenes wsX7_areScenes) := goodIn_app (goodIn_of _ (by decide +kernel)) ggX7_flatters_X7_areScenes
set_option maxRecDepth 20000 in
theorem ggX7_flatters_X7_isFactor : GoodIn wsX7_flatters wsX7_isFactor := goodIn_r _ [21, 8, 9, 5, 10] (by decide +kernel) (by decide +kernel)
set_option maxRecDepth 20000 in
theorem gX7_flatters_X7_isFactor : GoodIn wsX7_flatters (va_wsS RX7 178 yX7_isFactor wsX7_isFactor) := goodIn_app (goodIn_of _ (by decide +kernel)) ggX7_flatters_X7_isFactor
set_option maxRecDepth 20000 in
theorem ggX7_flatters_X7_effectIn : GoodIn wsX7_flatters wsX7_effectIn := goodIn_r _ [25, 7, 26, 27, 28, 5, 29, 30, 31, 32, 33, 34, 35, 36, 37, 38, 39, 40, 41, 42, 43, 44, 45, 46, 47, 48, 49, 50, 51, 52, 53, 54, 55, 56, 57, 58, 59, 60, 61, 62, 63, 64, 65, 66, 67, 68, 69, 70, 71, 72, 73, 74, 75, 76, 77, 78, 79, 80, 81, 82, 83, 84, 85, 86] (by decide +kernel) (by decide +kernel)
set_option maxRecDepth 20000 in
theorem gX7_flatters_X7_effectIn : GoodIn wsX7_flatters (wsV RX7 220 RX7 yX7_effectIn wsX7_effectIn) := goodIn_app (goodIn_of _ (by decide +kernel)) ggX7_flatters_X7_effectIn
theorem dX7_flatters_0 : decode cX7_flatters 0 = .ok (.aload_n 0, 1) := by decide +kernel
theorem dX7_flatters_1 : decode cX7_flatters 1 = .ok (.iconst 0, 1) := by decide +kernel
theorem dX7_flatters_2 : decode cX7_flatters 2 = .ok (.putfield 1, 3) := by decide +kernel
theorem dX7_flatters_5 : decode cX7_flatters 5 = .ok (.aload_n 0, 1) := by decide +kernel
theorem dX7_flatters_6 : decode cX7_flatters 6 = .ok (.iload_n 1, 1) := by decide +kernel
theorem dX7_flatters_7 : decode cX7_flatters 7 = .ok (.invokevirtual 150, 3) := by decide +kernel
theorem dX7_flatters_10 : decode cX7_flatters 10 = .ok (.ifCond .eq 20, 3) := by decide +kernel
theorem dX7_flatters_13 : decode cX7_flatters 13 = .ok (.aload_n 0, 1) := by decide +kernel
theorem dX7_flatters_14 : decode cX7_flatters 14 = .ok (.iload_n 2, 1) := by decide +kernel
theorem dX7_flatters_15 : decode cX7_flatters 15 = .ok (.iload_n 3, 1) := by decide +kernel
theorem dX7_flatters_16 : decode cX7_flatters 16 = .ok (.invokevirtual 194, 3) := by decide +kernel
theorem dX7_flatters_19 : decode cX7_flatters 19 = .ok (.ifCond .eq 11, 3) := by decide +kernel
theorem dX7_flatters_22 : decode cX7_flatters 22 = .ok (.iload 4, 2) := by decide +kernel
theorem dX7_flatters_24 : decode cX7_flatters 24 = .ok (.invokestatic 178, 3) := by decide +kernel
theorem dX7_flatters_27 : decode cX7_flatters 27 = .ok (.ifCond .ne 5, 3) := by decide +kernel
theorem dX7_flatters_30 : decode cX7_flatters 30 = .ok (.iconst (-1), 1) := by decide +kernel
theorem dX7_flatters_31 : decode cX7_flatters 31 = .ok (.ireturn, 1) := by decide +kernel
theorem dX7_flatters_32 : decode cX7_flatters 32 = .ok (.iconst 0, 1) := by decide +kernel
theorem dX7_flatters_33 : decode cX7_flatters 33 = .ok (.istore 5, 2) := by decide +kernel
theorem dX7_flatters_35 : decode cX7_flatters 35 = .ok (.aload_n 0, 1) := by decide +kernel
theorem dX7_flatters_36 : decode cX7_flatters 36 = .ok (.iload_n 1, 1) := by decide +kernel
theorem dX7_flatters_37 : decode cX7_flatters 37 = .ok (.iload_n 2, 1) := by decide +kernel
theorem dX7_flatters_38 : decode cX7_flatters 38 = .ok (.iload_n 3, 1) := by decide +kernel
theorem dX7_flatters_39 : decode cX7_flatters 39 = .ok (.iconst 0, 1) := by decide +kernel
theorem dX7_flatters_40 : decode cX7_flatters 40 = .ok (.iload 4, 2) := by decide +kernel
theorem dX7_flatters_42 : decode cX7_flatters 42 = .ok (.invokevirtual 220, 3) := by decide +kernel
theorem dX7_flatters_45 : decode cX7_flatters 45 = .ok (.istore 6, 2) := by decide +kernel
theorem dX7_flatters_47 : decode cX7_flatters 47 = .ok (.iconst 1, 1) := by decide +kernel
theorem dX7_flatters_48 : decode cX7_flatters 48 = .ok (.istore 7, 2) := by decide +kernel
theorem dX7_flatters_50 : decode cX7_flatters 50 = .ok (.iload 7, 2) := by decide +kernel
theorem dX7_flatters_52 : decode cX7_flatters 52 = .ok (.bipush 120, 2) := by decide +kernel
theorem dX7_flatters_54 : decode cX7_flatters 54 = .ok (.if_icmp .ge 40, 3) := by decide +kernel
theorem dX7_flatters_57 : decode cX7_flatters 57 = .ok (.aload_n 0, 1) := by decide +kernel
theorem dX7_flatters_58 : decode cX7_flatters 58 = .ok (.iload_n 1, 1) := by decide +kernel
theorem dX7_flatters_59 : decode cX7_flatters 59 = .ok (.iload_n 2, 1) := by decide +kernel
theorem dX7_flatters_60 : decode cX7_flatters 60 = .ok (.iload_n 3, 1) := by decide +kernel
theorem dX7_flatters_61 : decode cX7_flatters 61 = .ok (.iload 7, 2) := by decide +kernel
theorem dX7_flatters_63 : decode cX7_flatters 63 = .ok (.iload 4, 2) := by decide +kernel
theorem dX7_flatters_65 : decode cX7_flatters 65 = .ok (.invokevirtual 220, 3) := by decide +kernel
theorem dX7_flatters_68 : decode cX7_flatters 68 = .ok (.istore 8, 2) := by decide +kernel
theorem dX7_flatters_70 : decode cX7_flatters 70 = .ok (.iload 8, 2) := by decide +kernel
theorem dX7_flatters_72 : decode cX7_flatters 72 = .ok (.iload 6, 2) := by decide +kernel
theorem dX7_flatters_74 : decode cX7_flatters 74 = .ok (.if_icmp .gt 6, 3) := by decide +kernel
theorem dX7_flatters_77 : decode cX7_flatters 77 = .ok (.goto 11, 3) := by decide +kernel
theorem dX7_flatters_80 : decode cX7_flatters 80 = .ok (.iload 8, 2) := by decide +kernel
theorem dX7_flatters_82 : decode cX7_flatters 82 = .ok (.istore 6, 2) := by decide +kernel
theorem dX7_flatters_84 : decode cX7_flatters 84 = .ok (.iload 7, 2) := by decide +kernel
theorem dX7_flatters_86 : decode cX7_flatters 86 = .ok (.istore 5, 2) := by decide +kernel
theorem dX7_flatters_88 : decode cX7_flatters 88 = .ok (.iinc 7 1, 3) := by decide +kernel
theorem dX7_flatters_91 : decode cX7_flatters 91 = .ok (.goto (-41), 3) := by decide +kernel
theorem dX7_flatters_94 : decode cX7_flatters 94 = .ok (.iload 5, 2) := by decide +kernel
theorem dX7_flatters_96 : decode cX7_flatters 96 = .ok (.ireturn, 1) := by decide +kernel
set_option maxRecDepth 20000 in
theorem ggX7_farOf_X7_differenceOf : GoodIn wsX7_farOf wsX7_differenceOf := goodIn_r _ [5, 6, 7, 8, 4, 9, 10, 11, 12, 13, 14, 15, 16, 17, 18, 19, 20, 21, 22, 23, 24, 25, 26, 27, 28, 29, 30, 31, 32, 33, 34, 35, 36, 37, 38, 39, 40, 41, 42, 43, 44, 45, 46, 47, 48, 49, 50] (by decide +kernel) (by decide +kernel)
set_option maxRecDepth 20000 in
theorem gX7_farOf_X7_differenceOf : GoodIn wsX7_farOf (wsV RX7 226 RX7 yX7_differenceOf wsX7_differenceOf) := goodIn_app (goodIn_of _ (by decide +kernel)) ggX7_farOf_X7_differenceOf
theorem dX7_farOf_0 : decode cX7_farOf 0 = .ok (.aload_n 0, 1) := by decide +kernel
theorem dX7_farOf_1 : decode cX7_farOf 1 = .ok (.iload_n 1, 1) := by decide +kernel
theorem dX7_farOf_2 : decode cX7_farOf 2 = .ok (.iload_n 2, 1) := by decide +kernel
theorem dX7_farOf_3 : decode cX7_farOf 3 = .ok (.iload_n 3, 1) := by decide +kernel
theorem dX7_farOf_4 : decode cX7_farOf 4 = .ok (.invokevirtual 226, 3) := by decide +kernel
theorem dX7_farOf_7 : decode cX7_farOf 7 = .ok (.istore 4, 2) := by decide +kernel
theorem dX7_farOf_9 : decode cX7_farOf 9 = .ok (.iload 4, 2) := by decide +kernel
theorem dX7_farOf_11 : decode cX7_farOf 11 = .ok (.ifCond .ge 9, 3) := by decide +kernel
theorem dX7_farOf_14 : decode cX7_farOf 14 = .ok (.iload 4, 2) := by decide +kernel
theorem dX7_farOf_16 : decode cX7_farOf 16 = .ok (.ineg, 1) := by decide +kernel
theorem dX7_farOf_17 : decode cX7_farOf 17 = .ok (.goto 5, 3) := by decide +kernel
theorem dX7_farOf_20 : decode cX7_farOf 20 = .ok (.iload 4, 2) := by decide +kernel
theorem dX7_farOf_22 : decode cX7_farOf 22 = .ok (.ireturn, 1) := by decide +kernel
set_option maxRecDepth 20000 in
theorem ggX7_mover_X7_areScenes : GoodIn wsX7_mover wsX7_areScenes := goodIn_r _ [7, 8, 9, 10, 6, 11, 2, 12, 13, 14, 58, 59, 60, 61, 62, 63, 64, 65, 66, 67, 68, 69, 70, 71, 72, 73, 74] (by decide +kernel) (by decide +kernel)
set_option maxRecDepth 20000 in
theorem gX7_mover_X7_areScenes : GoodIn wsX7_mover (wsV RX7 194 RX7 yX7_areScenes wsX7_areScenes) := goodIn_app (goodIn_of _ (by decide +kernel)) ggX7_mover_X7_areScenes
set_option maxRecDepth 20000 in
theorem ggX7_mover_X7_isLeaf : GoodIn wsX7_mover wsX7_isLeaf := goodIn_r _ [18, 2, 19, 20, 21, 6, 22, 12, 13, 14, 58, 59, 60, 61, 62, 63, 64, 65, 66, 67, 68, 69, 70, 71, 72, 73, 74] (by decide +kernel) (by decide +kernel)
set_option maxRecDepth 20000 in
theorem gX7_mover_X7_isLeaf : GoodIn wsX7_mover (wsV RX7 175 RX7 yX7_isLeaf wsX7_isLeaf) := goodIn_app (goodIn_of _ (by decide +kernel)) ggX7_mover_X7_isLeaf
set_option maxRecDepth 20000 in
theorem ggX7_mover_X7_farOf : GoodIn wsX7_mover wsX7_farOf := goodIn_r _ [26, 27, 28, 29, 6, 30, 31, 32, 33, 34, 2, 35, 36, 37, 38, 39, 40, 41, 42, 43, 44, 45, 46, 47, 48, 49, 50, 51, 52, 53, 54, 55, 56, 57, 58, 59, 60, 61, 62, 63, 64, 65, 66, 67, 68, 69, 70, 71, 72, 73, 74] (by decide +kernel) (by decide +kernel)
set_option maxRecDepth 20000 in
theorem gX7_mover_X7_farOf : GoodIn wsX7_mover (wsV RX7 229 RX7 yX7_farOf wsX7_farOf) := goodIn_app (goodIn_of _ (by decide +kernel)) ggX7_mover_X7_farOf
theorem dX7_mover_0 : decode cX7_mover 0 = .ok (.aload_n 0, 1) := by decide +kernel
theorem dX7_mover_1 : decode cX7_mover 1 = .ok (.iconst 0, 1) := by decide +kernel
theorem dX7_mover_2 : decode cX7_mover 2 = .ok (.putfield 1, 3) := by decide +kernel
theorem dX7_mover_5 : decode cX7_mover 5 = .ok (.aload_n 0, 1) := by decide +kernel
theorem dX7_mover_6 : decode cX7_mover 6 = .ok (.iload_n 1, 1) := by decide +kernel
theorem dX7_mover_7 : decode cX7_mover 7 = .ok (.iload_n 2, 1) := by decide +kernel
theorem dX7_mover_8 : decode cX7_mover 8 = .ok (.invokevirtual 194, 3) := by decide +kernel
theorem dX7_mover_11 : decode cX7_mover 11 = .ok (.ifCond .ne 5, 3) := by decide +kernel
theorem dX7_mover_14 : decode cX7_mover 14 = .ok (.iconst (-1), 1) := by decide +kernel
theorem dX7_mover_15 : decode cX7_mover 15 = .ok (.ireturn, 1) := by decide +kernel
theorem dX7_mover_16 : decode cX7_mover 16 = .ok (.iconst 0, 1) := by decide +kernel
theorem dX7_mover_17 : decode cX7_mover 17 = .ok (.istore 4, 2) := by decide +kernel
theorem dX7_mover_19 : decode cX7_mover 19 = .ok (.iload 4, 2) := by decide +kernel
theorem dX7_mover_21 : decode cX7_mover 21 = .ok (.aload_n 0, 1) := by decide +kernel
theorem dX7_mover_22 : decode cX7_mover 22 = .ok (.getfield 64, 3) := by decide +kernel
theorem dX7_mover_25 : decode cX7_mover 25 = .ok (.iconst 1, 1) := by decide +kernel
theorem dX7_mover_26 : decode cX7_mover 26 = .ok (.iaload, 1) := by decide +kernel
theorem dX7_mover_27 : decode cX7_mover 27 = .ok (.if_icmp .ge 110, 3) := by decide +kernel
theorem dX7_mover_30 : decode cX7_mover 30 = .ok (.aload_n 0, 1) := by decide +kernel
theorem dX7_mover_31 : decode cX7_mover 31 = .ok (.iload 4, 2) := by decide +kernel
theorem dX7_mover_33 : decode cX7_mover 33 = .ok (.invokevirtual 175, 3) := by decide +kernel
theorem dX7_mover_36 : decode cX7_mover 36 = .ok (.ifCond .ne 6, 3) := by decide +kernel
theorem dX7_mover_39 : decode cX7_mover 39 = .ok (.goto 92, 3) := by decide +kernel
theorem dX7_mover_42 : decode cX7_mover 42 = .ok (.iconst 0, 1) := by decide +kernel
theorem dX7_mover_43 : decode cX7_mover 43 = .ok (.istore 5, 2) := by decide +kernel
theorem dX7_mover_45 : decode cX7_mover 45 = .ok (.iconst 0, 1) := by decide +kernel
theorem dX7_mover_46 : decode cX7_mover 46 = .ok (.istore 6, 2) := by decide +kernel
theorem dX7_mover_48 : decode cX7_mover 48 = .ok (.iload 6, 2) := by decide +kernel
theorem dX7_mover_50 : decode cX7_mover 50 = .ok (.aload_n 0, 1) := by decide +kernel
theorem dX7_mover_51 : decode cX7_mover 51 = .ok (.getfield 64, 3) := by decide +kernel
theorem dX7_mover_54 : decode cX7_mover 54 = .ok (.iconst 1, 1) := by decide +kernel
theorem dX7_mover_55 : decode cX7_mover 55 = .ok (.iaload, 1) := by decide +kernel
theorem dX7_mover_56 : decode cX7_mover 56 = .ok (.if_icmp .ge 66, 3) := by decide +kernel
theorem dX7_mover_59 : decode cX7_mover 59 = .ok (.aload_n 0, 1) := by decide +kernel
theorem dX7_mover_60 : decode cX7_mover 60 = .ok (.iload 6, 2) := by decide +kernel
theorem dX7_mover_62 : decode cX7_mover 62 = .ok (.invokevirtual 175, 3) := by decide +kernel
theorem dX7_mover_65 : decode cX7_mover 65 = .ok (.ifCond .eq 51, 3) := by decide +kernel
theorem dX7_mover_68 : decode cX7_mover 68 = .ok (.aload_n 0, 1) := by decide +kernel
theorem dX7_mover_69 : decode cX7_mover 69 = .ok (.iload 6, 2) := by decide +kernel
theorem dX7_mover_71 : decode cX7_mover 71 = .ok (.iload_n 1, 1) := by decide +kernel
theorem dX7_mover_72 : decode cX7_mover 72 = .ok (.iload_n 2, 1) := by decide +kernel
theorem dX7_mover_73 : decode cX7_mover 73 = .ok (.invokevirtual 229, 3) := by decide +kernel
theorem dX7_mover_76 : decode cX7_mover 76 = .ok (.aload_n 0, 1) := by decide +kernel
theorem dX7_mover_77 : decode cX7_mover 77 = .ok (.iload 4, 2) := by decide +kernel
theorem dX7_mover_79 : decode cX7_mover 79 = .ok (.iload_n 1, 1) := by decide +kernel
theorem dX7_mover_80 : decode cX7_mover 80 = .ok (.iload_n 2, 1) := by decide +kernel
theorem dX7_mover_81 : decode cX7_mover 81 = .ok (.invokevirtual 229, 3) := by decide +kernel
theorem dX7_mover_84 : decode cX7_mover 84 = .ok (.if_icmp .gt 29, 3) := by decide +kernel
theorem dX7_mover_87 : decode cX7_mover 87 = .ok (.iload 6, 2) := by decide +kernel
theorem dX7_mover_89 : decode cX7_mover 89 = .ok (.iload 4, 2) := by decide +kernel
theorem dX7_mover_91 : decode cX7_mover 91 = .ok (.if_icmp .ge 25, 3) := by decide +kernel
theorem dX7_mover_94 : decode cX7_mover 94 = .ok (.aload_n 0, 1) := by decide +kernel
theorem dX7_mover_95 : decode cX7_mover 95 = .ok (.iload 6, 2) := by decide +kernel
theorem dX7_mover_97 : decode cX7_mover 97 = .ok (.iload_n 1, 1) := by decide +kernel
theorem dX7_mover_98 : decode cX7_mover 98 = .ok (.iload_n 2, 1) := by decide +kernel
theorem dX7_mover_99 : decode cX7_mover 99 = .ok (.invokevirtual 229, 3) := by decide +kernel
theorem dX7_mover_102 : decode cX7_mover 102 = .ok (.aload_n 0, 1) := by decide +kernel
theorem dX7_mover_103 : decode cX7_mover 103 = .ok (.iload 4, 2) := by decide +kernel
theorem dX7_mover_105 : decode cX7_mover 105 = .ok (.iload_n 1, 1) := by decide +kernel
theorem dX7_mover_106 : decode cX7_mover 106 = .ok (.iload_n 2, 1) := by decide +kernel
theorem dX7_mover_107 : decode cX7_mover 107 = .ok (.invokevirtual 229, 3) := by decide +kernel
theorem dX7_mover_110 : decode cX7_mover 110 = .ok (.if_icmp .ne 6, 3) := by decide +kernel
theorem dX7_mover_113 : decode cX7_mover 113 = .ok (.iinc 5 1, 3) := by decide +kernel
theorem dX7_mover_116 : decode cX7_mover 116 = .ok (.iinc 6 1, 3) := by decide +kernel
theorem dX7_mover_119 : decode cX7_mover 119 = .ok (.goto (-71), 3) := by decide +kernel
theorem dX7_mover_122 : decode cX7_mover 122 = .ok (.iload 5, 2) := by decide +kernel
theorem dX7_mover_124 : decode cX7_mover 124 = .ok (.iload_n 3, 1) := by decide +kernel
theorem dX7_mover_125 : decode cX7_mover 125 = .ok (.if_icmp .ne 6, 3) := by decide +kernel
theorem dX7_mover_128 : decode cX7_mover 128 = .ok (.iload 4, 2) := by decide +kernel
theorem dX7_mover_130 : decode cX7_mover 130 = .ok (.ireturn, 1) := by decide +kernel
theorem dX7_mover_131 : decode cX7_mover 131 = .ok (.iinc 4 1, 3) := by decide +kernel
theorem dX7_mover_134 : decode cX7_mover 134 = .ok (.goto (-115), 3) := by decide +kernel
theorem dX7_mover_137 : decode cX7_mover 137 = .ok (.iconst (-1), 1) := by decide +kernel
theorem dX7_mover_138 : decode cX7_mover 138 = .ok (.ireturn, 1) := by decide +kernel
set_option maxRecDepth 20000 in
theorem ggX7_branch_X7_areScenes : GoodIn wsX7_branch wsX7_areScenes := goodIn_r _ [7, 8, 9, 10, 6, 11, 2, 12, 13, 14, 58, 59, 60, 61, 62, 63, 64, 65, 66, 67, 68, 69, 70, 71, 72, 73, 74] (by decide +kernel) (by decide +kernel)
set_option maxRecDepth 20000 in
theorem gX7_branch_X7_areScenes : GoodIn wsX7_branch (wsV RX7 194 RX7 yX7_areScenes wsX7_areScenes) := goodIn_app (goodIn_of _ (by decide +kernel)) ggX7_branch_X7_areScenes
set_option maxRecDepth 20000 in
theorem ggX7_branch_X7_isGroup : GoodIn wsX7_branch wsX7_isGroup := goodIn_r _ [18, 2, 19, 20, 21, 6, 22, 12, 13, 14, 58, 59, 60, 61, 62, 63, 64, 65, 66, 67, 68, 69, 70, 71, 72, 73, 74] (by decide +kernel) (by decide +kernel)
set_option maxRecDepth 20000 in
theorem gX7_branch_X7_isGroup : GoodIn wsX7_branch (wsV RX7 232 RX7 yX7_isGroup wsX7_isGroup) := goodIn_app (goodIn_of _ (by decide +kernel)) ggX7_branch_X7_isGroup
set_option maxRecDepth 20000 in
theorem ggX7_branch_X7_farOf : GoodIn wsX7_branch wsX7_farOf := goodIn_r _ [26, 27, 28, 29, 6, 30, 31, 32, 33, 34, 2, 35, 36, 37, 38, 39, 40, 41, 42, 43, 44, 45, 46, 47, 48, 49, 50, 51, 52, 53, 54, 55, 56, 57, 58, 59, 60, 61, 62, 63, 64, 65, 66, 67, 68, 69, 70, 71, 72, 73, 74] (by decide +kernel) (by decide +kernel)
set_option maxRecDepth 20000 in
theorem gX7_branch_X7_farOf : GoodIn wsX7_branch (wsV RX7 229 RX7 yX7_farOf wsX7_farOf) := goodIn_app (goodIn_of _ (by decide +kernel)) ggX7_branch_X7_farOf
theorem dX7_branch_0 : decode cX7_branch 0 = .ok (.aload_n 0, 1) := by decide +kernel
theorem dX7_branch_1 : decode cX7_branch 1 = .ok (.iconst 0, 1) := by decide +kernel
theorem dX7_branch_2 : decode cX7_branch 2 = .ok (.putfield 1, 3) := by decide +kernel
theorem dX7_branch_5 : decode cX7_branch 5 = .ok (.aload_n 0, 1) := by decide +kernel
theorem dX7_branch_6 : decode cX7_branch 6 = .ok (.iload_n 1, 1) := by decide +kernel
theorem dX7_branch_7 : decode cX7_branch 7 = .ok (.iload_n 2, 1) := by decide +kernel
theorem dX7_branch_8 : decode cX7_branch 8 = .ok (.invokevirtual 194, 3) := by decide +kernel
theorem dX7_branch_11 : decode cX7_branch 11 = .ok (.ifCond .ne 5, 3) := by decide +kernel
theorem dX7_branch_14 : decode cX7_branch 14 = .ok (.iconst (-1), 1) := by decide +kernel
theorem dX7_branch_15 : decode cX7_branch 15 = .ok (.ireturn, 1) := by decide +kernel
theorem dX7_branch_16 : decode cX7_branch 16 = .ok (.bipush (-2), 2) := by decide +kernel
theorem dX7_branch_18 : decode cX7_branch 18 = .ok (.istore_n 3, 1) := by decide +kernel
theorem dX7_branch_19 : decode cX7_branch 19 = .ok (.iconst 1, 1) := by decide +kernel
theorem dX7_branch_20 : decode cX7_branch 20 = .ok (.istore 4, 2) := by decide +kernel
theorem dX7_branch_22 : decode cX7_branch 22 = .ok (.iload 4, 2) := by decide +kernel
theorem dX7_branch_24 : decode cX7_branch 24 = .ok (.aload_n 0, 1) := by decide +kernel
theorem dX7_branch_25 : decode cX7_branch 25 = .ok (.getfield 64, 3) := by decide +kernel
theorem dX7_branch_28 : decode cX7_branch 28 = .ok (.iconst 1, 1) := by decide +kernel
theorem dX7_branch_29 : decode cX7_branch 29 = .ok (.iaload, 1) := by decide +kernel
theorem dX7_branch_30 : decode cX7_branch 30 = .ok (.if_icmp .ge 45, 3) := by decide +kernel
theorem dX7_branch_33 : decode cX7_branch 33 = .ok (.aload_n 0, 1) := by decide +kernel
theorem dX7_branch_34 : decode cX7_branch 34 = .ok (.iload 4, 2) := by decide +kernel
theorem dX7_branch_36 : decode cX7_branch 36 = .ok (.invokevirtual 232, 3) := by decide +kernel
theorem dX7_branch_39 : decode cX7_branch 39 = .ok (.ifCond .eq 30, 3) := by decide +kernel
theorem dX7_branch_42 : decode cX7_branch 42 = .ok (.iload_n 3, 1) := by decide +kernel
theorem dX7_branch_43 : decode cX7_branch 43 = .ok (.bipush (-2), 2) := by decide +kernel
theorem dX7_branch_45 : decode cX7_branch 45 = .ok (.if_icmp .eq 21, 3) := by decide +kernel
theorem dX7_branch_48 : decode cX7_branch 48 = .ok (.aload_n 0, 1) := by decide +kernel
theorem dX7_branch_49 : decode cX7_branch 49 = .ok (.iload 4, 2) := by decide +kernel
theorem dX7_branch_51 : decode cX7_branch 51 = .ok (.iload_n 1, 1) := by decide +kernel
theorem dX7_branch_52 : decode cX7_branch 52 = .ok (.iload_n 2, 1) := by decide +kernel
theorem dX7_branch_53 : decode cX7_branch 53 = .ok (.invokevirtual 229, 3) := by decide +kernel
theorem dX7_branch_56 : decode cX7_branch 56 = .ok (.aload_n 0, 1) := by decide +kernel
theorem dX7_branch_57 : decode cX7_branch 57 = .ok (.iload_n 3, 1) := by decide +kernel
theorem dX7_branch_58 : decode cX7_branch 58 = .ok (.iload_n 1, 1) := by decide +kernel
theorem dX7_branch_59 : decode cX7_branch 59 = .ok (.iload_n 2, 1) := by decide +kernel
theorem dX7_branch_60 : decode cX7_branch 60 = .ok (.invokevirtual 229, 3) := by decide +kernel
theorem dX7_branch_63 : decode cX7_branch 63 = .ok (.if_icmp .le 6, 3) := by decide +kernel
theorem dX7_branch_66 : decode cX7_branch 66 = .ok (.iload 4, 2) := by decide +kernel
theorem dX7_branch_68 : decode cX7_branch 68 = .ok (.istore_n 3, 1) := by decide +kernel
theorem dX7_branch_69 : decode cX7_branch 69 = .ok (.iinc 4 1, 3) := by decide +kernel
theorem dX7_branch_72 : decode cX7_branch 72 = .ok (.goto (-50), 3) := by decide +kernel
theorem dX7_branch_75 : decode cX7_branch 75 = .ok (.iload_n 3, 1) := by decide +kernel
theorem dX7_branch_76 : decode cX7_branch 76 = .ok (.ireturn, 1) := by decide +kernel
set_option maxRecDepth 20000 in
theorem ggX7_canSet_X7_isLeaf : GoodIn wsX7_canSet wsX7_isLeaf := goodIn_r _ [5, 6, 7, 8, 9, 4, 10, 11, 12, 13, 27, 28, 29, 30, 31, 32, 33, 34, 35, 36, 37, 38, 39, 40, 41, 42, 43] (by decide +kernel) (by decide +kernel)
set_option maxRecDepth 20000 in
theorem gX7_canSet_X7_isLeaf : GoodIn wsX7_canSet (wsV RX7 175 RX7 yX7_isLeaf wsX7_isLeaf) := goodIn_app (goodIn_of _ (by decide +kernel)) ggX7_canSet_X7_isLeaf
set_option maxRecDepth 20000 in
theorem ggX7_canSet_X7_isScene : GoodIn wsX7_canSet wsX7_isScene := goodIn_r _ [17, 6, 11, 12, 4, 13, 27, 28, 29, 30, 31, 32, 33, 34, 35, 36, 37, 38, 39, 40, 41, 42, 43] (by decide +kernel) (by decide +kernel)
set_option maxRecDepth 20000 in
theorem gX7_canSet_X7_isScene : GoodIn wsX7_canSet (wsV RX7 153 RX7 yX7_isScene wsX7_isScene) := goodIn_app (goodIn_of _ (by decide +kernel)) ggX7_canSet_X7_isScene
set_option maxRecDepth 20000 in
theorem ggX7_canSet_X7_isFactor : GoodIn wsX7_canSet wsX7_isFactor := goodIn_r _ [20, 11, 12, 4, 13] (by decide +kernel) (by decide +kernel)
set_option maxRecDepth 20000 in
theorem gX7_canSet_X7_isFactor : GoodIn wsX7_canSet (va_wsS RX7 178 yX7_isFactor wsX7_isFactor) := goodIn_app (goodIn_of _ (by decide +kernel)) ggX7_canSet_X7_isFactor
set_option maxRecDepth 20000 in
theorem ggX7_canSet_X7_lowOf : GoodIn wsX7_canSet wsX7_lowOf := goodIn_r _ [23] (by decide +kernel) (by decide +kernel)
set_option maxRecDepth 20000 in
theorem gX7_canSet_X7_lowOf : GoodIn wsX7_canSet (va_wsS RX7 106 yX7_lowOf wsX7_lowOf) := goodIn_app (goodIn_of _ (by decide +kernel)) ggX7_canSet_X7_lowOf
set_option maxRecDepth 20000 in
theorem ggX7_canSet_X7_highOf : GoodIn wsX7_canSet wsX7_highOf := goodIn_r _ [26] (by decide +kernel) (by decide +kernel)
set_option maxRecDepth 20000 in
theorem gX7_canSet_X7_highOf : GoodIn wsX7_canSet (va_wsS RX7 109 yX7_highOf wsX7_highOf) := goodIn_app (goodIn_of _ (by decide +kernel)) ggX7_canSet_X7_highOf
set_option maxRecDepth 20000 in
theorem ggX7_canSet_X7_isIn : GoodIn wsX7_canSet wsX7_isIn := goodIn_r _ [13] (by decide +kernel) (by decide +kernel)
set_option maxRecDepth 20000 in
theorem gX7_canSet_X7_isIn : GoodIn wsX7_canSet (va_wsS RX7 88 yX7_isIn wsX7_isIn) := goodIn_app (goodIn_of _ (by decide +kernel)) ggX7_canSet_X7_isIn
theorem dX7_canSet_0 : decode cX7_canSet 0 = .ok (.aload_n 0, 1) := by decide +kernel
theorem dX7_canSet_1 : decode cX7_canSet 1 = .ok (.iload_n 1, 1) := by decide +kernel
theorem dX7_canSet_2 : decode cX7_canSet 2 = .ok (.invokevirtual 175, 3) := by decide +kernel
theorem dX7_canSet_5 : decode cX7_canSet 5 = .ok (.ifCond .eq 38, 3) := by decide +kernel
theorem dX7_canSet_8 : decode cX7_canSet 8 = .ok (.aload_n 0, 1) := by decide +kernel
theorem dX7_canSet_9 : decode cX7_canSet 9 = .ok (.iload_n 2, 1) := by decide +kernel
theorem dX7_canSet_10 : decode cX7_canSet 10 = .ok (.invokevirtual 153, 3) := by decide +kernel
theorem dX7_canSet_13 : decode cX7_canSet 13 = .ok (.ifCond .eq 30, 3) := by decide +kernel
theorem dX7_canSet_16 : decode cX7_canSet 16 = .ok (.iload_n 3, 1) := by decide +kernel
theorem dX7_canSet_17 : decode cX7_canSet 17 = .ok (.invokestatic 178, 3) := by decide +kernel
theorem dX7_canSet_20 : decode cX7_canSet 20 = .ok (.ifCond .eq 23, 3) := by decide +kernel
theorem dX7_canSet_23 : decode cX7_canSet 23 = .ok (.iload 4, 2) := by decide +kernel
theorem dX7_canSet_25 : decode cX7_canSet 25 = .ok (.iload_n 3, 1) := by decide +kernel
theorem dX7_canSet_26 : decode cX7_canSet 26 = .ok (.invokestatic 106, 3) := by decide +kernel
theorem dX7_canSet_29 : decode cX7_canSet 29 = .ok (.iload_n 3, 1) := by decide +kernel
theorem dX7_canSet_30 : decode cX7_canSet 30 = .ok (.invokestatic 109, 3) := by decide +kernel
theorem dX7_canSet_33 : decode cX7_canSet 33 = .ok (.invokestatic 88, 3) := by decide +kernel
theorem dX7_canSet_36 : decode cX7_canSet 36 = .ok (.ifCond .eq 7, 3) := by decide +kernel
theorem dX7_canSet_39 : decode cX7_canSet 39 = .ok (.iconst 1, 1) := by decide +kernel
theorem dX7_canSet_40 : decode cX7_canSet 40 = .ok (.goto 4, 3) := by decide +kernel
theorem dX7_canSet_43 : decode cX7_canSet 43 = .ok (.iconst 0, 1) := by decide +kernel
theorem dX7_canSet_44 : decode cX7_canSet 44 = .ok (.ireturn, 1) := by decide +kernel
set_option maxRecDepth 20000 in
theorem ggX7_valueWith_X7_at : GoodIn wsX7_valueWith wsX7_at := goodIn_r _ [5] (by decide +kernel) (by decide +kernel)
set_option maxRecDepth 20000 in
theorem gX7_valueWith_X7_at : GoodIn wsX7_valueWith (va_wsS RX7 81 yX7_at wsX7_at) := goodIn_app (goodIn_of _ (by decide +kernel)) ggX7_valueWith_X7_at
set_option maxRecDepth 20000 in
theorem ggX7_valueWith_X7_valueIn : GoodIn wsX7_valueWith wsX7_valueIn := goodIn_r _ [9, 1, 10, 11, 12, 4, 13, 14, 15, 16, 17, 18, 19, 20, 21, 22, 23, 24, 25, 26, 27, 28, 29, 2, 3, 5, 30, 31, 32, 33, 34, 35, 36, 37, 38, 39, 40, 41, 42, 43, 44, 45, 46] (by decide +kernel) (by decide +kernel)
set_option maxRecDepth 20000 in
theorem gX7_valueWith_X7_valueIn : GoodIn wsX7_valueWith (wsV RX7 189 RX7 yX7_valueIn wsX7_valueIn) := goodIn_app (goodIn_of _ (by decide +kernel)) ggX7_valueWith_X7_valueIn
theorem dX7_valueWith_0 : decode cX7_valueWith 0 = .ok (.aload_n 0, 1) := by decide +kernel
theorem dX7_valueWith_1 : decode cX7_valueWith 1 = .ok (.getfield 64, 3) := by decide +kernel
theorem dX7_valueWith_4 : decode cX7_valueWith 4 = .ok (.iload_n 1, 1) := by decide +kernel
theorem dX7_valueWith_5 : decode cX7_valueWith 5 = .ok (.iload_n 2, 1) := by decide +kernel
theorem dX7_valueWith_6 : decode cX7_valueWith 6 = .ok (.iload_n 3, 1) := by decide +kernel
theorem dX7_valueWith_7 : decode cX7_valueWith 7 = .ok (.invokestatic 81, 3) := by decide +kernel
theorem dX7_valueWith_10 : decode cX7_valueWith 10 = .ok (.iaload, 1) := by decide +kernel
theorem dX7_valueWith_11 : decode cX7_valueWith 11 = .ok (.istore 5, 2) := by decide +kernel
theorem dX7_valueWith_13 : decode cX7_valueWith 13 = .ok (.aload_n 0, 1) := by decide +kernel
theorem dX7_valueWith_14 : decode cX7_valueWith 14 = .ok (.getfield 64, 3) := by decide +kernel
theorem dX7_valueWith_17 : decode cX7_valueWith 17 = .ok (.iload_n 1, 1) := by decide +kernel
theorem dX7_valueWith_18 : decode cX7_valueWith 18 = .ok (.iload_n 2, 1) := by decide +kernel
theorem dX7_valueWith_19 : decode cX7_valueWith 19 = .ok (.iload_n 3, 1) := by decide +kernel
theorem dX7_valueWith_20 : decode cX7_valueWith 20 = .ok (.invokestatic 81, 3) := by decide +kernel
theorem dX7_valueWith_23 : decode cX7_valueWith 23 = .ok (.iload 4, 2) := by decide +kernel
theorem dX7_valueWith_25 : decode cX7_valueWith 25 = .ok (.iastore, 1) := by decide +kernel
theorem dX7_valueWith_26 : decode cX7_valueWith 26 = .ok (.aload_n 0, 1) := by decide +kernel
theorem dX7_valueWith_27 : decode cX7_valueWith 27 = .ok (.iconst 0, 1) := by decide +kernel
theorem dX7_valueWith_28 : decode cX7_valueWith 28 = .ok (.iload_n 2, 1) := by decide +kernel
theorem dX7_valueWith_29 : decode cX7_valueWith 29 = .ok (.invokevirtual 189, 3) := by decide +kernel
theorem dX7_valueWith_32 : decode cX7_valueWith 32 = .ok (.istore 6, 2) := by decide +kernel
theorem dX7_valueWith_34 : decode cX7_valueWith 34 = .ok (.aload_n 0, 1) := by decide +kernel
theorem dX7_valueWith_35 : decode cX7_valueWith 35 = .ok (.getfield 64, 3) := by decide +kernel
theorem dX7_valueWith_38 : decode cX7_valueWith 38 = .ok (.iload_n 1, 1) := by decide +kernel
theorem dX7_valueWith_39 : decode cX7_valueWith 39 = .ok (.iload_n 2, 1) := by decide +kernel
theorem dX7_valueWith_40 : decode cX7_valueWith 40 = .ok (.iload_n 3, 1) := by decide +kernel
theorem dX7_valueWith_41 : decode cX7_valueWith 41 = .ok (.invokestatic 81, 3) := by decide +kernel
theorem dX7_valueWith_44 : decode cX7_valueWith 44 = .ok (.iload 5, 2) := by decide +kernel
theorem dX7_valueWith_46 : decode cX7_valueWith 46 = .ok (.iastore, 1) := by decide +kernel
theorem dX7_valueWith_47 : decode cX7_valueWith 47 = .ok (.iload 6, 2) := by decide +kernel
theorem dX7_valueWith_49 : decode cX7_valueWith 49 = .ok (.ireturn, 1) := by decide +kernel
set_option maxRecDepth 20000 in
theorem ggX7_would_X7_canSet : GoodIn wsX7_would wsX7_canSet := goodIn_r _ [7, 8, 9, 10, 6, 11, 12, 13, 14, 15, 16, 17, 18, 19, 20, 21, 22, 23, 24, 25, 26, 27, 28, 29, 30, 31, 32, 64, 65, 66, 67, 68, 69, 70, 71, 72, 73, 74, 75, 76, 77, 78, 79, 80] (by decide +kernel) (by decide +kernel)
set_option maxRecDepth 20000 in
theorem gX7_would_X7_canSet : GoodIn wsX7_would (wsV RX7 235 RX7 yX7_canSet wsX7_canSet) := goodIn_app (goodIn_of _ (by decide +kernel)) ggX7_would_X7_canSet
set_option maxRecDepth 20000 in
theorem ggX7_would_X7_valueWith : GoodIn wsX7_would wsX7_valueWith := goodIn_r _ [36, 12, 37, 38, 6, 39, 40, 41, 42, 43, 44, 45, 46, 47, 48, 49, 50, 51, 52, 53, 54, 55, 56, 57, 58, 59, 60, 61, 62, 63, 64, 65, 66, 67, 68, 69, 70, 71, 72, 73, 74, 75, 76, 77, 78, 79, 80] (by decide +kernel) (by decide +kernel)
set_option maxRecDepth 20000 in
theorem gX7_would_X7_valueWith : GoodIn wsX7_would (wsV RX7 239 RX7 yX7_valueWith wsX7_valueWith) := goodIn_app (goodIn_of _ (by decide +kernel)) ggX7_would_X7_valueWith
set_option maxRecDepth 20000 in
theorem ggX7_would_X7_valueIn : GoodIn wsX7_would wsX7_valueIn := goodIn_r _ [43, 12, 44, 45, 46, 6, 47, 48, 49, 50, 51, 52, 53, 54, 55, 56, 57, 58, 59, 60, 61, 62, 63, 37, 38, 39, 64, 65, 66, 67, 68, 69, 70, 71, 72, 73, 74, 75, 76, 77, 78, 79, 80] (by decide +kernel) (by decide +kernel)
set_option maxRecDepth 20000 in
theorem gX7_would_X7_valueIn : GoodIn wsX7_would (wsV RX7 189 RX7 yX7_valueIn wsX7_valueIn) := goodIn_app (goodIn_of _ (by decide +kernel)) ggX7_would_X7_valueIn
theorem dX7_would_0 : decode cX7_would 0 = .ok (.aload_n 0, 1) := by decide +kernel
theorem dX7_would_1 : decode cX7_would 1 = .ok (.iconst 0, 1) := by decide +kernel
theorem dX7_would_2 : decode cX7_would 2 = .ok (.putfield 1, 3) := by decide +kernel
theorem dX7_would_5 : decode cX7_would 5 = .ok (.aload_n 0, 1) := by decide +kernel
theorem dX7_would_6 : decode cX7_would 6 = .ok (.iload_n 1, 1) := by decide +kernel
theorem dX7_would_7 : decode cX7_would 7 = .ok (.iload_n 2, 1) := by decide +kernel
theorem dX7_would_8 : decode cX7_would 8 = .ok (.iload_n 3, 1) := by decide +kernel
theorem dX7_would_9 : decode cX7_would 9 = .ok (.iload 4, 2) := by decide +kernel
theorem dX7_would_11 : decode cX7_would 11 = .ok (.invokevirtual 235, 3) := by decide +kernel
theorem dX7_would_14 : decode cX7_would 14 = .ok (.ifCond .eq 22, 3) := by decide +kernel
theorem dX7_would_17 : decode cX7_would 17 = .ok (.aload_n 0, 1) := by decide +kernel
theorem dX7_would_18 : decode cX7_would 18 = .ok (.iload_n 1, 1) := by decide +kernel
theorem dX7_would_19 : decode cX7_would 19 = .ok (.iload_n 2, 1) := by decide +kernel
theorem dX7_would_20 : decode cX7_would 20 = .ok (.iload_n 3, 1) := by decide +kernel
theorem dX7_would_21 : decode cX7_would 21 = .ok (.iload 4, 2) := by decide +kernel
theorem dX7_would_23 : decode cX7_would 23 = .ok (.invokevirtual 239, 3) := by decide +kernel
theorem dX7_would_26 : decode cX7_would 26 = .ok (.aload_n 0, 1) := by decide +kernel
theorem dX7_would_27 : decode cX7_would 27 = .ok (.iconst 0, 1) := by decide +kernel
theorem dX7_would_28 : decode cX7_would 28 = .ok (.iload_n 2, 1) := by decide +kernel
theorem dX7_would_29 : decode cX7_would 29 = .ok (.invokevirtual 189, 3) := by decide +kernel
theorem dX7_would_32 : decode cX7_would 32 = .ok (.isub, 1) := by decide +kernel
theorem dX7_would_33 : decode cX7_would 33 = .ok (.goto 5, 3) := by decide +kernel
theorem dX7_would_36 : decode cX7_would 36 = .ok (.ldc 193, 2) := by decide +kernel
theorem dX7_would_38 : decode cX7_would 38 = .ok (.ireturn, 1) := by decide +kernel
set_option maxRecDepth 20000 in
theorem ggX7_needs_X7_isLeaf : GoodIn wsX7_needs wsX7_isLeaf := goodIn_r _ [8, 9, 10, 11, 12, 7, 13, 14, 15, 16, 52, 53, 54, 55, 56, 57, 58, 59, 60, 61, 62, 63, 64, 65, 66, 67, 68] (by decide +kernel) (by decide +kernel)
set_option maxRecDepth 20000 in
theorem gX7_needs_X7_isLeaf : GoodIn wsX7_needs (wsV RX7 175 RX7 yX7_isLeaf wsX7_isLeaf) := goodIn_app (goodIn_of _ (by decide +kernel)) ggX7_needs_X7_isLeaf
set_option maxRecDepth 20000 in
theorem ggX7_needs_X7_isScene : GoodIn wsX7_needs wsX7_isScene := goodIn_r _ [20, 9, 14, 15, 7, 16, 52, 53, 54, 55, 56, 57, 58, 59, 60, 61, 62, 63, 64, 65, 66, 67, 68] (by decide +kernel) (by decide +kernel)
set_option maxRecDepth 20000 in
theorem gX7_needs_X7_isScene : GoodIn wsX7_needs (wsV RX7 153 RX7 yX7_isScene wsX7_isScene) := goodIn_app (goodIn_of _ (by decide +kernel)) ggX7_needs_X7_isScene
set_option maxRecDepth 20000 in
theorem ggX7_needs_X7_isIn : GoodIn wsX7_needs wsX7_isIn := goodIn_r _ [16] (by decide +kernel) (by decide +kernel)
set_option maxRecDepth 20000 in
theorem gX7_needs_X7_isIn : GoodIn wsX7_needs (va_wsS RX7 88 yX7_isIn wsX7_isIn) := goodIn_app (goodIn_of _ (by decide +kernel)) ggX7_needs_X7_isIn
set_option maxRecDepth 20000 in
theorem ggX7_needs_X7_valueWith : GoodIn wsX7_needs wsX7_valueWith := goodIn_r _ [24, 9, 25, 26, 7, 27, 28, 29, 30, 31, 32, 33, 34, 35, 36, 37, 38, 39, 40, 41, 42, 43, 44, 45, 46, 47, 48, 49, 50, 51, 52, 53, 54, 55, 56, 57, 58, 59, 60, 61, 62, 63, 64, 65, 66, 67, 68] (by decide +kernel) (by decide +kernel)
set_option maxRecDepth 20000 in
theorem gX7_needs_X7_valueWith : GoodIn wsX7_needs (wsV RX7 239 RX7 yX7_valueWith wsX7_valueWith) := goodIn_app (goodIn_of _ (by decide +kernel)) ggX7_needs_X7_valueWith
theorem dX7_needs_0 : decode cX7_needs 0 = .ok (.aload_n 0, 1) := by decide +kernel
theorem dX7_needs_1 : decode cX7_needs 1 = .ok (.iconst 0, 1) := by decide +kernel
theorem dX7_needs_2 : decode cX7_needs 2 = .ok (.putfield 1, 3) := by decide +kernel
theorem dX7_needs_5 : decode cX7_needs 5 = .ok (.aload_n 0, 1) := by decide +kernel
theorem dX7_needs_6 : decode cX7_needs 6 = .ok (.iload_n 1, 1) := by decide +kernel
theorem dX7_needs_7 : decode cX7_needs 7 = .ok (.invokevirtual 175, 3) := by decide +kernel
theorem dX7_needs_10 : decode cX7_needs 10 = .ok (.ifCond .eq 22, 3) := by decide +kernel
theorem dX7_needs_13 : decode cX7_needs 13 = .ok (.aload_n 0, 1) := by decide +kernel
theorem dX7_needs_14 : decode cX7_needs 14 = .ok (.iload_n 2, 1) := by decide +kernel
theorem dX7_needs_15 : decode cX7_needs 15 = .ok (.invokevirtual 153, 3) := by decide +kernel
theorem dX7_needs_18 : decode cX7_needs 18 = .ok (.ifCond .eq 14, 3) := by decide +kernel
theorem dX7_needs_21 : decode cX7_needs 21 = .ok (.iload_n 3, 1) := by decide +kernel
theorem dX7_needs_22 : decode cX7_needs 22 = .ok (.ldc 242, 2) := by decide +kernel
theorem dX7_needs_24 : decode cX7_needs 24 = .ok (.ldc 243, 2) := by decide +kernel
theorem dX7_needs_26 : decode cX7_needs 26 = .ok (.invokestatic 88, 3) := by decide +kernel
theorem dX7_needs_29 : decode cX7_needs 29 = .ok (.ifCond .ne 5, 3) := by decide +kernel
theorem dX7_needs_32 : decode cX7_needs 32 = .ok (.iconst (-1), 1) := by decide +kernel
theorem dX7_needs_33 : decode cX7_needs 33 = .ok (.ireturn, 1) := by decide +kernel
theorem dX7_needs_34 : decode cX7_needs 34 = .ok (.aload_n 0, 1) := by decide +kernel
theorem dX7_needs_35 : decode cX7_needs 35 = .ok (.iload_n 1, 1) := by decide +kernel
theorem dX7_needs_36 : decode cX7_needs 36 = .ok (.iload_n 2, 1) := by decide +kernel
theorem dX7_needs_37 : decode cX7_needs 37 = .ok (.iconst 0, 1) := by decide +kernel
theorem dX7_needs_38 : decode cX7_needs 38 = .ok (.iconst 0, 1) := by decide +kernel
theorem dX7_needs_39 : decode cX7_needs 39 = .ok (.invokevirtual 239, 3) := by decide +kernel
theorem dX7_needs_42 : decode cX7_needs 42 = .ok (.istore 4, 2) := by decide +kernel
theorem dX7_needs_44 : decode cX7_needs 44 = .ok (.aload_n 0, 1) := by decide +kernel
theorem dX7_needs_45 : decode cX7_needs 45 = .ok (.iload_n 1, 1) := by decide +kernel
theorem dX7_needs_46 : decode cX7_needs 46 = .ok (.iload_n 2, 1) := by decide +kernel
theorem dX7_needs_47 : decode cX7_needs 47 = .ok (.iconst 0, 1) := by decide +kernel
theorem dX7_needs_48 : decode cX7_needs 48 = .ok (.iconst 1, 1) := by decide +kernel
theorem dX7_needs_49 : decode cX7_needs 49 = .ok (.invokevirtual 239, 3) := by decide +kernel
theorem dX7_needs_52 : decode cX7_needs 52 = .ok (.iload 4, 2) := by decide +kernel
theorem dX7_needs_54 : decode cX7_needs 54 = .ok (.isub, 1) := by decide +kernel
theorem dX7_needs_55 : decode cX7_needs 55 = .ok (.istore 5, 2) := by decide +kernel
theorem dX7_needs_57 : decode cX7_needs 57 = .ok (.iconst 0, 1) := by decide +kernel
theorem dX7_needs_58 : decode cX7_needs 58 = .ok (.istore 6, 2) := by decide +kernel
theorem dX7_needs_60 : decode cX7_needs 60 = .ok (.iload 6, 2) := by decide +kernel
theorem dX7_needs_62 : decode cX7_needs 62 = .ok (.sipush 1000, 3) := by decide +kernel
theorem dX7_needs_65 : decode cX7_needs 65 = .ok (.if_icmp .ge 24, 3) := by decide +kernel
theorem dX7_needs_68 : decode cX7_needs 68 = .ok (.iload 4, 2) := by decide +kernel
theorem dX7_needs_70 : decode cX7_needs 70 = .ok (.iload 6, 2) := by decide +kernel
theorem dX7_needs_72 : decode cX7_needs 72 = .ok (.iload 5, 2) := by decide +kernel
theorem dX7_needs_74 : decode cX7_needs 74 = .ok (.imul, 1) := by decide +kernel
theorem dX7_needs_75 : decode cX7_needs 75 = .ok (.iadd, 1) := by decide +kernel
theorem dX7_needs_76 : decode cX7_needs 76 = .ok (.iload_n 3, 1) := by decide +kernel
theorem dX7_needs_77 : decode cX7_needs 77 = .ok (.if_icmp .lt 6, 3) := by decide +kernel
theorem dX7_needs_80 : decode cX7_needs 80 = .ok (.iload 6, 2) := by decide +kernel
theorem dX7_needs_82 : decode cX7_needs 82 = .ok (.ireturn, 1) := by decide +kernel
theorem dX7_needs_83 : decode cX7_needs 83 = .ok (.iinc 6 1, 3) := by decide +kernel
theorem dX7_needs_86 : decode cX7_needs 86 = .ok (.goto (-26), 3) := by decide +kernel
theorem dX7_needs_89 : decode cX7_needs 89 = .ok (.bipush (-2), 2) := by decide +kernel
theorem dX7_needs_91 : decode cX7_needs 91 = .ok (.ireturn, 1) := by decide +kernel
theorem dX7_snap_0 : decode cX7_snap 0 = .ok (.aload_n 0, 1) := by decide +kernel
theorem dX7_snap_1 : decode cX7_snap 1 = .ok (.getfield 147, 3) := by decide +kernel
theorem dX7_snap_4 : decode cX7_snap 4 = .ok (.bipush 10, 2) := by decide +kernel
theorem dX7_snap_6 : decode cX7_snap 6 = .ok (.if_icmp .ne 44, 3) := by decide +kernel
theorem dX7_snap_9 : decode cX7_snap 9 = .ok (.iconst 0, 1) := by decide +kernel
theorem dX7_snap_10 : decode cX7_snap 10 = .ok (.istore_n 1, 1) := by decide +kernel
theorem dX7_snap_11 : decode cX7_snap 11 = .ok (.iload_n 1, 1) := by decide +kernel
theorem dX7_snap_12 : decode cX7_snap 12 = .ok (.sipush 3978, 3) := by decide +kernel
theorem dX7_snap_15 : decode cX7_snap 15 = .ok (.if_icmp .ge 25, 3) := by decide +kernel
theorem dX7_snap_18 : decode cX7_snap 18 = .ok (.aload_n 0, 1) := by decide +kernel
theorem dX7_snap_19 : decode cX7_snap 19 = .ok (.getfield 70, 3) := by decide +kernel
theorem dX7_snap_22 : decode cX7_snap 22 = .ok (.iload_n 1, 1) := by decide +kernel
theorem dX7_snap_23 : decode cX7_snap 23 = .ok (.aload_n 0, 1) := by decide +kernel
theorem dX7_snap_24 : decode cX7_snap 24 = .ok (.getfield 70, 3) := by decide +kernel
theorem dX7_snap_27 : decode cX7_snap 27 = .ok (.iload_n 1, 1) := by decide +kernel
theorem dX7_snap_28 : decode cX7_snap 28 = .ok (.sipush 442, 3) := by decide +kernel
theorem dX7_snap_31 : decode cX7_snap 31 = .ok (.iadd, 1) := by decide +kernel
theorem dX7_snap_32 : decode cX7_snap 32 = .ok (.iaload, 1) := by decide +kernel
theorem dX7_snap_33 : decode cX7_snap 33 = .ok (.iastore, 1) := by decide +kernel
theorem dX7_snap_34 : decode cX7_snap 34 = .ok (.iinc 1 1, 3) := by decide +kernel
theorem dX7_snap_37 : decode cX7_snap 37 = .ok (.goto (-26), 3) := by decide +kernel
theorem dX7_snap_40 : decode cX7_snap 40 = .ok (.aload_n 0, 1) := by decide +kernel
theorem dX7_snap_41 : decode cX7_snap 41 = .ok (.dup, 1) := by decide +kernel
theorem dX7_snap_42 : decode cX7_snap 42 = .ok (.getfield 147, 3) := by decide +kernel
theorem dX7_snap_45 : decode cX7_snap 45 = .ok (.iconst 1, 1) := by decide +kernel
theorem dX7_snap_46 : decode cX7_snap 46 = .ok (.isub, 1) := by decide +kernel
theorem dX7_snap_47 : decode cX7_snap 47 = .ok (.putfield 147, 3) := by decide +kernel
theorem dX7_snap_50 : decode cX7_snap 50 = .ok (.iconst 0, 1) := by decide +kernel
theorem dX7_snap_51 : decode cX7_snap 51 = .ok (.istore_n 1, 1) := by decide +kernel
theorem dX7_snap_52 : decode cX7_snap 52 = .ok (.iload_n 1, 1) := by decide +kernel
theorem dX7_snap_53 : decode cX7_snap 53 = .ok (.sipush 442, 3) := by decide +kernel
theorem dX7_snap_56 : decode cX7_snap 56 = .ok (.if_icmp .ge 30, 3) := by decide +kernel
theorem dX7_snap_59 : decode cX7_snap 59 = .ok (.aload_n 0, 1) := by decide +kernel
theorem dX7_snap_60 : decode cX7_snap 60 = .ok (.getfield 70, 3) := by decide +kernel
theorem dX7_snap_63 : decode cX7_snap 63 = .ok (.sipush 442, 3) := by decide +kernel
theorem dX7_snap_66 : decode cX7_snap 66 = .ok (.aload_n 0, 1) := by decide +kernel
theorem dX7_snap_67 : decode cX7_snap 67 = .ok (.getfield 147, 3) := by decide +kernel
theorem dX7_snap_70 : decode cX7_snap 70 = .ok (.imul, 1) := by decide +kernel
theorem dX7_snap_71 : decode cX7_snap 71 = .ok (.iload_n 1, 1) := by decide +kernel
theorem dX7_snap_72 : decode cX7_snap 72 = .ok (.iadd, 1) := by decide +kernel
theorem dX7_snap_73 : decode cX7_snap 73 = .ok (.aload_n 0, 1) := by decide +kernel
theorem dX7_snap_74 : decode cX7_snap 74 = .ok (.getfield 64, 3) := by decide +kernel
theorem dX7_snap_77 : decode cX7_snap 77 = .ok (.iload_n 1, 1) := by decide +kernel
theorem dX7_snap_78 : decode cX7_snap 78 = .ok (.iaload, 1) := by decide +kernel
theorem dX7_snap_79 : decode cX7_snap 79 = .ok (.iastore, 1) := by decide +kernel
theorem dX7_snap_80 : decode cX7_snap 80 = .ok (.iinc 1 1, 3) := by decide +kernel
theorem dX7_snap_83 : decode cX7_snap 83 = .ok (.goto (-31), 3) := by decide +kernel
theorem dX7_snap_86 : decode cX7_snap 86 = .ok (.aload_n 0, 1) := by decide +kernel
theorem dX7_snap_87 : decode cX7_snap 87 = .ok (.dup, 1) := by decide +kernel
theorem dX7_snap_88 : decode cX7_snap 88 = .ok (.getfield 147, 3) := by decide +kernel
theorem dX7_snap_91 : decode cX7_snap 91 = .ok (.iconst 1, 1) := by decide +kernel
theorem dX7_snap_92 : decode cX7_snap 92 = .ok (.iadd, 1) := by decide +kernel
theorem dX7_snap_93 : decode cX7_snap 93 = .ok (.putfield 147, 3) := by decide +kernel
theorem dX7_snap_96 : decode cX7_snap 96 = .ok (.return_, 1) := by decide +kernel
set_option maxRecDepth 20000 in
theorem ggX7_set_X7_canSet : GoodIn wsX7_set wsX7_canSet := goodIn_r _ [7, 8, 9, 10, 6, 11, 2, 12, 13, 14, 15, 16, 17, 18, 19, 20, 21, 22, 23, 24, 25, 26, 27, 28, 29, 30, 31, 41, 42, 43, 44, 45, 46, 47, 48, 49, 50, 51, 52, 53, 54, 55, 56, 57] (by decide +kernel) (by decide +kernel)
set_option maxRecDepth 20000 in
theorem gX7_set_X7_canSet : GoodIn wsX7_set (wsV RX7 235 RX7 yX7_canSet wsX7_canSet) := goodIn_app (goodIn_of _ (by decide +kernel)) ggX7_set_X7_canSet
set_option maxRecDepth 20000 in
theorem ggX7_set_X7_snap : GoodIn wsX7_set wsX7_snap := goodIn_r _ [35, 36, 37, 2, 41, 42, 43, 44, 45, 46, 47, 48, 49, 50, 51, 52, 53, 54, 55, 56, 57] (by decide +kernel) (by decide +kernel)
set_option maxRecDepth 20000 in
theorem gX7_set_X7_snap : GoodIn wsX7_set (wsV RX7 244 RX7 yX7_snap wsX7_snap) := goodIn_app (goodIn_of _ (by decide +kernel)) ggX7_set_X7_snap
set_option maxRecDepth 20000 in
theorem ggX7_set_X7_at : GoodIn wsX7_set wsX7_at := goodIn_r _ [40] (by decide +kernel) (by decide +kernel)
set_option maxRecDepth 20000 in
theorem gX7_set_X7_at : GoodIn wsX7_set (va_wsS RX7 81 yX7_at wsX7_at) := goodIn_app (goodIn_of _ (by decide +kernel)) ggX7_set_X7_at
theorem dX7_set_0 : decode cX7_set 0 = .ok (.aload_n 0, 1) := by decide +kernel
theorem dX7_set_1 : decode cX7_set 1 = .ok (.iconst 0, 1) := by decide +kernel
theorem dX7_set_2 : decode cX7_set 2 = .ok (.putfield 1, 3) := by decide +kernel
theorem dX7_set_5 : decode cX7_set 5 = .ok (.aload_n 0, 1) := by decide +kernel
theorem dX7_set_6 : decode cX7_set 6 = .ok (.iload_n 1, 1) := by decide +kernel
theorem dX7_set_7 : decode cX7_set 7 = .ok (.iload_n 2, 1) := by decide +kernel
theorem dX7_set_8 : decode cX7_set 8 = .ok (.iload_n 3, 1) := by decide +kernel
theorem dX7_set_9 : decode cX7_set 9 = .ok (.iload 4, 2) := by decide +kernel
theorem dX7_set_11 : decode cX7_set 11 = .ok (.invokevirtual 235, 3) := by decide +kernel
theorem dX7_set_14 : decode cX7_set 14 = .ok (.ifCond .ne 5, 3) := by decide +kernel
theorem dX7_set_17 : decode cX7_set 17 = .ok (.iconst (-1), 1) := by decide +kernel
theorem dX7_set_18 : decode cX7_set 18 = .ok (.ireturn, 1) := by decide +kernel
theorem dX7_set_19 : decode cX7_set 19 = .ok (.aload_n 0, 1) := by decide +kernel
theorem dX7_set_20 : decode cX7_set 20 = .ok (.invokevirtual 244, 3) := by decide +kernel
theorem dX7_set_23 : decode cX7_set 23 = .ok (.aload_n 0, 1) := by decide +kernel
theorem dX7_set_24 : decode cX7_set 24 = .ok (.getfield 64, 3) := by decide +kernel
theorem dX7_set_27 : decode cX7_set 27 = .ok (.iload_n 1, 1) := by decide +kernel
theorem dX7_set_28 : decode cX7_set 28 = .ok (.iload_n 2, 1) := by decide +kernel
theorem dX7_set_29 : decode cX7_set 29 = .ok (.iload_n 3, 1) := by decide +kernel
theorem dX7_set_30 : decode cX7_set 30 = .ok (.invokestatic 81, 3) := by decide +kernel
theorem dX7_set_33 : decode cX7_set 33 = .ok (.iaload, 1) := by decide +kernel
theorem dX7_set_34 : decode cX7_set 34 = .ok (.istore 5, 2) := by decide +kernel
theorem dX7_set_36 : decode cX7_set 36 = .ok (.aload_n 0, 1) := by decide +kernel
theorem dX7_set_37 : decode cX7_set 37 = .ok (.getfield 64, 3) := by decide +kernel
theorem dX7_set_40 : decode cX7_set 40 = .ok (.iload_n 1, 1) := by decide +kernel
theorem dX7_set_41 : decode cX7_set 41 = .ok (.iload_n 2, 1) := by decide +kernel
theorem dX7_set_42 : decode cX7_set 42 = .ok (.iload_n 3, 1) := by decide +kernel
theorem dX7_set_43 : decode cX7_set 43 = .ok (.invokestatic 81, 3) := by decide +kernel
theorem dX7_set_46 : decode cX7_set 46 = .ok (.iload 4, 2) := by decide +kernel
theorem dX7_set_48 : decode cX7_set 48 = .ok (.iastore, 1) := by decide +kernel
theorem dX7_set_49 : decode cX7_set 49 = .ok (.iload 5, 2) := by decide +kernel
theorem dX7_set_51 : decode cX7_set 51 = .ok (.ireturn, 1) := by decide +kernel
set_option maxRecDepth 20000 in
theorem ggX7_copy_X7_areScenes : GoodIn wsX7_copy wsX7_areScenes := goodIn_r _ [7, 8, 9, 10, 6, 11, 2, 12, 13, 14, 32, 33, 34, 35, 36, 37, 38, 39, 40, 41, 42, 43, 44, 45, 46, 47, 48] (by decide +kernel) (by decide +kernel)
set_option maxRecDepth 20000 in
theorem gX7_copy_X7_areScenes : GoodIn wsX7_copy (wsV RX7 194 RX7 yX7_areScenes wsX7_areScenes) := goodIn_app (goodIn_of _ (by decide +kernel)) ggX7_copy_X7_areScenes
set_option maxRecDepth 20000 in
theorem ggX7_copy_X7_snap : GoodIn wsX7_copy wsX7_snap := goodIn_r _ [18, 19, 20, 2, 32, 33, 34, 35, 36, 37, 38, 39, 40, 41, 42, 43, 44, 45, 46, 47, 48] (by decide +kernel) (by decide +kernel)
set_option maxRecDepth 20000 in
theorem gX7_copy_X7_snap : GoodIn wsX7_copy (wsV RX7 244 RX7 yX7_snap wsX7_snap) := goodIn_app (goodIn_of _ (by decide +kernel)) ggX7_copy_X7_snap
set_option maxRecDepth 20000 in
theorem ggX7_copy_X7_isLeaf : GoodIn wsX7_copy wsX7_isLeaf := goodIn_r _ [24, 2, 25, 26, 27, 6, 28, 12, 13, 14, 32, 33, 34, 35, 36, 37, 38, 39, 40, 41, 42, 43, 44, 45, 46, 47, 48] (by decide +kernel) (by decide +kernel)
set_option maxRecDepth 20000 in
theorem gX7_copy_X7_isLeaf : GoodIn wsX7_copy (wsV RX7 175 RX7 yX7_isLeaf wsX7_isLeaf) := goodIn_app (goodIn_of _ (by decide +kernel)) ggX7_copy_X7_isLeaf
set_option maxRecDepth 20000 in
theorem ggX7_copy_X7_at : GoodIn wsX7_copy wsX7_at := goodIn_r _ [31] (by decide +kernel) (by decide +kernel)
set_option maxRecDepth 20000 in
theorem gX7_copy_X7_at : GoodIn wsX7_copy (va_wsS RX7 81 yX7_at wsX7_at) := goodIn_app (goodIn_of _ (by decide +kernel)) ggX7_copy_X7_at
theorem dX7_copy_0 : decode cX7_copy 0 = .ok (.aload_n 0, 1) := by decide +kernel
theorem dX7_copy_1 : decode cX7_copy 1 = .ok (.iconst 0, 1) := by decide +kernel
theorem dX7_copy_2 : decode cX7_copy 2 = .ok (.putfield 1, 3) := by decide +kernel
theorem dX7_copy_5 : decode cX7_copy 5 = .ok (.aload_n 0, 1) := by decide +kernel
theorem dX7_copy_6 : decode cX7_copy 6 = .ok (.iload_n 1, 1) := by decide +kernel
theorem dX7_copy_7 : decode cX7_copy 7 = .ok (.iload_n 2, 1) := by decide +kernel
theorem dX7_copy_8 : decode cX7_copy 8 = .ok (.invokevirtual 194, 3) := by decide +kernel
theorem dX7_copy_11 : decode cX7_copy 11 = .ok (.ifCond .eq 8, 3) := by decide +kernel
theorem dX7_copy_14 : decode cX7_copy 14 = .ok (.iload_n 1, 1) := by decide +kernel
theorem dX7_copy_15 : decode cX7_copy 15 = .ok (.iload_n 2, 1) := by decide +kernel
theorem dX7_copy_16 : decode cX7_copy 16 = .ok (.if_icmp .ne 5, 3) := by decide +kernel
theorem dX7_copy_19 : decode cX7_copy 19 = .ok (.iconst (-1), 1) := by decide +kernel
theorem dX7_copy_20 : decode cX7_copy 20 = .ok (.ireturn, 1) := by decide +kernel
theorem dX7_copy_21 : decode cX7_copy 21 = .ok (.aload_n 0, 1) := by decide +kernel
theorem dX7_copy_22 : decode cX7_copy 22 = .ok (.invokevirtual 244, 3) := by decide +kernel
theorem dX7_copy_25 : decode cX7_copy 25 = .ok (.iconst 0, 1) := by decide +kernel
theorem dX7_copy_26 : decode cX7_copy 26 = .ok (.istore_n 3, 1) := by decide +kernel
theorem dX7_copy_27 : decode cX7_copy 27 = .ok (.iconst 0, 1) := by decide +kernel
theorem dX7_copy_28 : decode cX7_copy 28 = .ok (.istore 4, 2) := by decide +kernel
theorem dX7_copy_30 : decode cX7_copy 30 = .ok (.iload 4, 2) := by decide +kernel
theorem dX7_copy_32 : decode cX7_copy 32 = .ok (.aload_n 0, 1) := by decide +kernel
theorem dX7_copy_33 : decode cX7_copy 33 = .ok (.getfield 64, 3) := by decide +kernel
theorem dX7_copy_36 : decode cX7_copy 36 = .ok (.iconst 1, 1) := by decide +kernel
theorem dX7_copy_37 : decode cX7_copy 37 = .ok (.iaload, 1) := by decide +kernel
theorem dX7_copy_38 : decode cX7_copy 38 = .ok (.if_icmp .ge 91, 3) := by decide +kernel
theorem dX7_copy_41 : decode cX7_copy 41 = .ok (.iconst 0, 1) := by decide +kernel
theorem dX7_copy_42 : decode cX7_copy 42 = .ok (.istore 5, 2) := by decide +kernel
theorem dX7_copy_44 : decode cX7_copy 44 = .ok (.iload 5, 2) := by decide +kernel
theorem dX7_copy_46 : decode cX7_copy 46 = .ok (.iconst 5, 1) := by decide +kernel
theorem dX7_copy_47 : decode cX7_copy 47 = .ok (.if_icmp .ge 76, 3) := by decide +kernel
theorem dX7_copy_50 : decode cX7_copy 50 = .ok (.aload_n 0, 1) := by decide +kernel
theorem dX7_copy_51 : decode cX7_copy 51 = .ok (.iload 4, 2) := by decide +kernel
theorem dX7_copy_53 : decode cX7_copy 53 = .ok (.invokevirtual 175, 3) := by decide +kernel
theorem dX7_copy_56 : decode cX7_copy 56 = .ok (.ifCond .eq 67, 3) := by decide +kernel
theorem dX7_copy_59 : decode cX7_copy 59 = .ok (.aload_n 0, 1) := by decide +kernel
theorem dX7_copy_60 : decode cX7_copy 60 = .ok (.getfield 64, 3) := by decide +kernel
theorem dX7_copy_63 : decode cX7_copy 63 = .ok (.iload 4, 2) := by decide +kernel
theorem dX7_copy_65 : decode cX7_copy 65 = .ok (.iload_n 1, 1) := by decide +kernel
theorem dX7_copy_66 : decode cX7_copy 66 = .ok (.iload 5, 2) := by decide +kernel
theorem dX7_copy_68 : decode cX7_copy 68 = .ok (.invokestatic 81, 3) := by decide +kernel
theorem dX7_copy_71 : decode cX7_copy 71 = .ok (.iaload, 1) := by decide +kernel
theorem dX7_copy_72 : decode cX7_copy 72 = .ok (.aload_n 0, 1) := by decide +kernel
theorem dX7_copy_73 : decode cX7_copy 73 = .ok (.getfield 64, 3) := by decide +kernel
theorem dX7_copy_76 : decode cX7_copy 76 = .ok (.iload 4, 2) := by decide +kernel
theorem dX7_copy_78 : decode cX7_copy 78 = .ok (.iload_n 2, 1) := by decide +kernel
theorem dX7_copy_79 : decode cX7_copy 79 = .ok (.iload 5, 2) := by decide +kernel
theorem dX7_copy_81 : decode cX7_copy 81 = .ok (.invokestatic 81, 3) := by decide +kernel
theorem dX7_copy_84 : decode cX7_copy 84 = .ok (.iaload, 1) := by decide +kernel
theorem dX7_copy_85 : decode cX7_copy 85 = .ok (.if_icmp .eq 6, 3) := by decide +kernel
theorem dX7_copy_88 : decode cX7_copy 88 = .ok (.iinc 3 1, 3) := by decide +kernel
theorem dX7_copy_91 : decode cX7_copy 91 = .ok (.aload_n 0, 1) := by decide +kernel
theorem dX7_copy_92 : decode cX7_copy 92 = .ok (.getfield 64, 3) := by decide +kernel
theorem dX7_copy_95 : decode cX7_copy 95 = .ok (.iload 4, 2) := by decide +kernel
theorem dX7_copy_97 : decode cX7_copy 97 = .ok (.iload_n 2, 1) := by decide +kernel
theorem dX7_copy_98 : decode cX7_copy 98 = .ok (.iload 5, 2) := by decide +kernel
theorem dX7_copy_100 : decode cX7_copy 100 = .ok (.invokestatic 81, 3) := by decide +kernel
theorem dX7_copy_103 : decode cX7_copy 103 = .ok (.aload_n 0, 1) := by decide +kernel
theorem dX7_copy_104 : decode cX7_copy 104 = .ok (.getfield 64, 3) := by decide +kernel
theorem dX7_copy_107 : decode cX7_copy 107 = .ok (.iload 4, 2) := by decide +kernel
theorem dX7_copy_109 : decode cX7_copy 109 = .ok (.iload_n 1, 1) := by decide +kernel
theorem dX7_copy_110 : decode cX7_copy 110 = .ok (.iload 5, 2) := by decide +kernel
theorem dX7_copy_112 : decode cX7_copy 112 = .ok (.invokestatic 81, 3) := by decide +kernel
theorem dX7_copy_115 : decode cX7_copy 115 = .ok (.iaload, 1) := by decide +kernel
theorem dX7_copy_116 : decode cX7_copy 116 = .ok (.iastore, 1) := by decide +kernel
theorem dX7_copy_117 : decode cX7_copy 117 = .ok (.iinc 5 1, 3) := by decide +kernel
theorem dX7_copy_120 : decode cX7_copy 120 = .ok (.goto (-76), 3) := by decide +kernel
theorem dX7_copy_123 : decode cX7_copy 123 = .ok (.iinc 4 1, 3) := by decide +kernel
theorem dX7_copy_126 : decode cX7_copy 126 = .ok (.goto (-96), 3) := by decide +kernel
theorem dX7_copy_129 : decode cX7_copy 129 = .ok (.iload_n 3, 1) := by decide +kernel
theorem dX7_copy_130 : decode cX7_copy 130 = .ok (.ireturn, 1) := by decide +kernel
set_option maxRecDepth 20000 in
theorem ggX7_move_X7_isNode : GoodIn wsX7_move wsX7_isNode := goodIn_r _ [7, 2, 8, 9, 6, 10, 29, 30, 31, 32, 33, 34, 35, 36, 37, 38, 39, 40, 41, 42, 43, 44, 45] (by decide +kernel) (by decide +kernel)
set_option maxRecDepth 20000 in
theorem gX7_move_X7_isNode : GoodIn wsX7_move (wsV RX7 150 RX7 yX7_isNode wsX7_isNode) := goodIn_app (goodIn_of _ (by decide +kernel)) ggX7_move_X7_isNode
set_option maxRecDepth 20000 in
theorem ggX7_move_X7_isGroup : GoodIn wsX7_move wsX7_isGroup := goodIn_r _ [14, 2, 3, 4, 5, 6, 7, 8, 9, 10, 29, 30, 31, 32, 33, 34, 35, 36, 37, 38, 39, 40, 41, 42, 43, 44, 45] (by decide +kernel) (by decide +kernel)
set_option maxRecDepth 20000 in
theorem gX7_move_X7_isGroup : GoodIn wsX7_move (wsV RX7 232 RX7 yX7_isGroup wsX7_isGroup) := goodIn_app (goodIn_of _ (by decide +kernel)) ggX7_move_X7_isGroup
set_option maxRecDepth 20000 in
theorem ggX7_move_X7_parentOf : GoodIn wsX7_move wsX7_parentOf := goodIn_r _ [18, 2, 29, 30, 31, 32, 33, 34, 35, 36, 37, 38, 39, 40, 41, 42, 43, 44, 45] (by decide +kernel) (by decide +kernel)
set_option maxRecDepth 20000 in
theorem gX7_move_X7_parentOf : GoodIn wsX7_move (wsV RX7 156 RX7 yX7_parentOf wsX7_parentOf) := goodIn_app (goodIn_of _ (by decide +kernel)) ggX7_move_X7_parentOf
set_option maxRecDepth 20000 in
theorem ggX7_move_X7_isBelow : GoodIn wsX7_move wsX7_isBelow := goodIn_r _ [22, 15, 16, 17, 6, 18, 2, 29, 30, 31, 32, 33, 34, 35, 36, 37, 38, 39, 40, 41, 42, 43, 44, 45] (by decide +kernel) (by decide +kernel)
set_option maxRecDepth 20000 in
theorem gX7_move_X7_isBelow : GoodIn wsX7_move (wsV RX7 159 RX7 yX7_isBelow wsX7_isBelow) := goodIn_app (goodIn_of _ (by decide +kernel)) ggX7_move_X7_isBelow
set_option maxRecDepth 20000 in
theorem ggX7_move_X7_snap : GoodIn wsX7_move wsX7_snap := goodIn_r _ [26, 27, 28, 2, 29, 30, 31, 32, 33, 34, 35, 36, 37, 38, 39, 40, 41, 42, 43, 44, 45] (by decide +kernel) (by decide +kernel)
set_option maxRecDepth 20000 in
theorem gX7_move_X7_snap : GoodIn wsX7_move (wsV RX7 244 RX7 yX7_snap wsX7_snap) := goodIn_app (goodIn_of _ (by decide +kernel)) ggX7_move_X7_snap
theorem dX7_move_0 : decode cX7_move 0 = .ok (.aload_n 0, 1) := by decide +kernel
theorem dX7_move_1 : decode cX7_move 1 = .ok (.iconst 0, 1) := by decide +kernel
theorem dX7_move_2 : decode cX7_move 2 = .ok (.putfield 1, 3) := by decide +kernel
theorem dX7_move_5 : decode cX7_move 5 = .ok (.aload_n 0, 1) := by decide +kernel
theorem dX7_move_6 : decode cX7_move 6 = .ok (.iload_n 1, 1) := by decide +kernel
theorem dX7_move_7 : decode cX7_move 7 = .ok (.invokevirtual 150, 3) := by decide +kernel
theorem dX7_move_10 : decode cX7_move 10 = .ok (.ifCond .eq 33, 3) := by decide +kernel
theorem dX7_move_13 : decode cX7_move 13 = .ok (.iload_n 1, 1) := by decide +kernel
theorem dX7_move_14 : decode cX7_move 14 = .ok (.ifCond .eq 29, 3) := by decide +kernel
theorem dX7_move_17 : decode cX7_move 17 = .ok (.aload_n 0, 1) := by decide +kernel
theorem dX7_move_18 : decode cX7_move 18 = .ok (.iload_n 2, 1) := by decide +kernel
theorem dX7_move_19 : decode cX7_move 19 = .ok (.invokevirtual 232, 3) := by decide +kernel
theorem dX7_move_22 : decode cX7_move 22 = .ok (.ifCond .eq 21, 3) := by decide +kernel
theorem dX7_move_25 : decode cX7_move 25 = .ok (.aload_n 0, 1) := by decide +kernel
theorem dX7_move_26 : decode cX7_move 26 = .ok (.iload_n 1, 1) := by decide +kernel
theorem dX7_move_27 : decode cX7_move 27 = .ok (.invokevirtual 156, 3) := by decide +kernel
theorem dX7_move_30 : decode cX7_move 30 = .ok (.iload_n 2, 1) := by decide +kernel
theorem dX7_move_31 : decode cX7_move 31 = .ok (.if_icmp .eq 12, 3) := by decide +kernel
theorem dX7_move_34 : decode cX7_move 34 = .ok (.aload_n 0, 1) := by decide +kernel
theorem dX7_move_35 : decode cX7_move 35 = .ok (.iload_n 2, 1) := by decide +kernel
theorem dX7_move_36 : decode cX7_move 36 = .ok (.iload_n 1, 1) := by decide +kernel
theorem dX7_move_37 : decode cX7_move 37 = .ok (.invokevirtual 159, 3) := by decide +kernel
theorem dX7_move_40 : decode cX7_move 40 = .ok (.ifCond .eq 5, 3) := by decide +kernel
theorem dX7_move_43 : decode cX7_move 43 = .ok (.iconst 0, 1) := by decide +kernel
theorem dX7_move_44 : decode cX7_move 44 = .ok (.ireturn, 1) := by decide +kernel
theorem dX7_move_45 : decode cX7_move 45 = .ok (.aload_n 0, 1) := by decide +kernel
theorem dX7_move_46 : decode cX7_move 46 = .ok (.invokevirtual 244, 3) := by decide +kernel
theorem dX7_move_49 : decode cX7_move 49 = .ok (.aload_n 0, 1) := by decide +kernel
theorem dX7_move_50 : decode cX7_move 50 = .ok (.getfield 64, 3) := by decide +kernel
theorem dX7_move_53 : decode cX7_move 53 = .ok (.iconst 2, 1) := by decide +kernel
theorem dX7_move_54 : decode cX7_move 54 = .ok (.iload_n 1, 1) := by decide +kernel
theorem dX7_move_55 : decode cX7_move 55 = .ok (.iadd, 1) := by decide +kernel
theorem dX7_move_56 : decode cX7_move 56 = .ok (.iload_n 2, 1) := by decide +kernel
theorem dX7_move_57 : decode cX7_move 57 = .ok (.iastore, 1) := by decide +kernel
theorem dX7_move_58 : decode cX7_move 58 = .ok (.iconst 1, 1) := by decide +kernel
theorem dX7_move_59 : decode cX7_move 59 = .ok (.ireturn, 1) := by decide +kernel
set_option maxRecDepth 20000 in
theorem ggX7_grow_X7_isGroup : GoodIn wsX7_grow wsX7_isGroup := goodIn_r _ [7, 2, 8, 9, 10, 6, 11, 12, 13, 14, 27, 28, 29, 30, 31, 32, 33, 34, 35, 36, 37, 38, 39, 40, 41, 42, 43] (by decide +kernel) (by decide +kernel)
set_option maxRecDepth 20000 in
theorem gX7_grow_X7_isGroup : GoodIn wsX7_grow (wsV RX7 232 RX7 yX7_isGroup wsX7_isGroup) := goodIn_app (goodIn_of _ (by decide +kernel)) ggX7_grow_X7_isGroup
set_option maxRecDepth 20000 in
theorem ggX7_grow_X7_snap : GoodIn wsX7_grow wsX7_snap := goodIn_r _ [18, 19, 20, 2, 27, 28, 29, 30, 31, 32, 33, 34, 35, 36, 37, 38, 39, 40, 41, 42, 43] (by decide +kernel) (by decide +kernel)
set_option maxRecDepth 20000 in
theorem gX7_grow_X7_snap : GoodIn wsX7_grow (wsV RX7 244 RX7 yX7_snap wsX7_snap) := goodIn_app (goodIn_of _ (by decide +kernel)) ggX7_grow_X7_snap
set_option maxRecDepth 20000 in
theorem ggX7_grow_X7_adds : GoodIn wsX7_grow wsX7_adds := goodIn_r _ [23, 24, 25, 6, 26] (by decide +kernel) (by decide +kernel)
set_option maxRecDepth 20000 in
theorem gX7_grow_X7_adds : GoodIn wsX7_grow (va_wsS RX7 98 yX7_adds wsX7_adds) := goodIn_app (goodIn_of _ (by decide +kernel)) ggX7_grow_X7_adds
theorem dX7_grow_0 : decode cX7_grow 0 = .ok (.aload_n 0, 1) := by decide +kernel
theorem dX7_grow_1 : decode cX7_grow 1 = .ok (.iconst 0, 1) := by decide +kernel
theorem dX7_grow_2 : decode cX7_grow 2 = .ok (.putfield 1, 3) := by decide +kernel
theorem dX7_grow_5 : decode cX7_grow 5 = .ok (.aload_n 0, 1) := by decide +kernel
theorem dX7_grow_6 : decode cX7_grow 6 = .ok (.iload_n 1, 1) := by decide +kernel
theorem dX7_grow_7 : decode cX7_grow 7 = .ok (.invokevirtual 232, 3) := by decide +kernel
theorem dX7_grow_10 : decode cX7_grow 10 = .ok (.ifCond .ne 5, 3) := by decide +kernel
theorem dX7_grow_13 : decode cX7_grow 13 = .ok (.iconst (-1), 1) := by decide +kernel
theorem dX7_grow_14 : decode cX7_grow 14 = .ok (.ireturn, 1) := by decide +kernel
theorem dX7_grow_15 : decode cX7_grow 15 = .ok (.aload_n 0, 1) := by decide +kernel
theorem dX7_grow_16 : decode cX7_grow 16 = .ok (.getfield 64, 3) := by decide +kernel
theorem dX7_grow_19 : decode cX7_grow 19 = .ok (.iconst 1, 1) := by decide +kernel
theorem dX7_grow_20 : decode cX7_grow 20 = .ok (.iaload, 1) := by decide +kernel
theorem dX7_grow_21 : decode cX7_grow 21 = .ok (.bipush 20, 2) := by decide +kernel
theorem dX7_grow_23 : decode cX7_grow 23 = .ok (.if_icmp .ne 6, 3) := by decide +kernel
theorem dX7_grow_26 : decode cX7_grow 26 = .ok (.bipush (-2), 2) := by decide +kernel
theorem dX7_grow_28 : decode cX7_grow 28 = .ok (.ireturn, 1) := by decide +kernel
theorem dX7_grow_29 : decode cX7_grow 29 = .ok (.aload_n 0, 1) := by decide +kernel
theorem dX7_grow_30 : decode cX7_grow 30 = .ok (.invokevirtual 244, 3) := by decide +kernel
theorem dX7_grow_33 : decode cX7_grow 33 = .ok (.aload_n 0, 1) := by decide +kernel
theorem dX7_grow_34 : decode cX7_grow 34 = .ok (.getfield 64, 3) := by decide +kernel
theorem dX7_grow_37 : decode cX7_grow 37 = .ok (.iload_n 1, 1) := by decide +kernel
theorem dX7_grow_38 : decode cX7_grow 38 = .ok (.iconst 0, 1) := by decide +kernel
theorem dX7_grow_39 : decode cX7_grow 39 = .ok (.invokestatic 98, 3) := by decide +kernel
theorem dX7_grow_42 : decode cX7_grow 42 = .ok (.aload_n 0, 1) := by decide +kernel
theorem dX7_grow_43 : decode cX7_grow 43 = .ok (.getfield 64, 3) := by decide +kernel
theorem dX7_grow_46 : decode cX7_grow 46 = .ok (.iconst 1, 1) := by decide +kernel
theorem dX7_grow_47 : decode cX7_grow 47 = .ok (.iaload, 1) := by decide +kernel
theorem dX7_grow_48 : decode cX7_grow 48 = .ok (.iconst 1, 1) := by decide +kernel
theorem dX7_grow_49 : decode cX7_grow 49 = .ok (.isub, 1) := by decide +kernel
theorem dX7_grow_50 : decode cX7_grow 50 = .ok (.ireturn, 1) := by decide +kernel
theorem dX7_undo_0 : decode cX7_undo 0 = .ok (.aload_n 0, 1) := by decide +kernel
theorem dX7_undo_1 : decode cX7_undo 1 = .ok (.iconst 0, 1) := by decide +kernel
theorem dX7_undo_2 : decode cX7_undo 2 = .ok (.putfield 1, 3) := by decide +kernel
theorem dX7_undo_5 : decode cX7_undo 5 = .ok (.aload_n 0, 1) := by decide +kernel
theorem dX7_undo_6 : decode cX7_undo 6 = .ok (.getfield 147, 3) := by decide +kernel
theorem dX7_undo_9 : decode cX7_undo 9 = .ok (.ifCond .ne 5, 3) := by decide +kernel
theorem dX7_undo_12 : decode cX7_undo 12 = .ok (.iconst (-1), 1) := by decide +kernel
theorem dX7_undo_13 : decode cX7_undo 13 = .ok (.ireturn, 1) := by decide +kernel
theorem dX7_undo_14 : decode cX7_undo 14 = .ok (.aload_n 0, 1) := by decide +kernel
theorem dX7_undo_15 : decode cX7_undo 15 = .ok (.dup, 1) := by decide +kernel
theorem dX7_undo_16 : decode cX7_undo 16 = .ok (.getfield 147, 3) := by decide +kernel
theorem dX7_undo_19 : decode cX7_undo 19 = .ok (.iconst 1, 1) := by decide +kernel
theorem dX7_undo_20 : decode cX7_undo 20 = .ok (.isub, 1) := by decide +kernel
theorem dX7_undo_21 : decode cX7_undo 21 = .ok (.putfield 147, 3) := by decide +kernel
theorem dX7_undo_24 : decode cX7_undo 24 = .ok (.iconst 0, 1) := by decide +kernel
theorem dX7_undo_25 : decode cX7_undo 25 = .ok (.istore_n 1, 1) := by decide +kernel
theorem dX7_undo_26 : decode cX7_undo 26 = .ok (.iload_n 1, 1) := by decide +kernel
theorem dX7_undo_27 : decode cX7_undo 27 = .ok (.sipush 442, 3) := by decide +kernel
theorem dX7_undo_30 : decode cX7_undo 30 = .ok (.if_icmp .ge 30, 3) := by decide +kernel
theorem dX7_undo_33 : decode cX7_undo 33 = .ok (.aload_n 0, 1) := by decide +kernel
theorem dX7_undo_34 : decode cX7_undo 34 = .ok (.getfield 64, 3) := by decide +kernel
theorem dX7_undo_37 : decode cX7_undo 37 = .ok (.iload_n 1, 1) := by decide +kernel
theorem dX7_undo_38 : decode cX7_undo 38 = .ok (.aload_n 0, 1) := by decide +kernel
theorem dX7_undo_39 : decode cX7_undo 39 = .ok (.getfield 70, 3) := by decide +kernel
theorem dX7_undo_42 : decode cX7_undo 42 = .ok (.sipush 442, 3) := by decide +kernel
theorem dX7_undo_45 : decode cX7_undo 45 = .ok (.aload_n 0, 1) := by decide +kernel
theorem dX7_undo_46 : decode cX7_undo 46 = .ok (.getfield 147, 3) := by decide +kernel
theorem dX7_undo_49 : decode cX7_undo 49 = .ok (.imul, 1) := by decide +kernel
theorem dX7_undo_50 : decode cX7_undo 50 = .ok (.iload_n 1, 1) := by decide +kernel
theorem dX7_undo_51 : decode cX7_undo 51 = .ok (.iadd, 1) := by decide +kernel
theorem dX7_undo_52 : decode cX7_undo 52 = .ok (.iaload, 1) := by decide +kernel
theorem dX7_undo_53 : decode cX7_undo 53 = .ok (.iastore, 1) := by decide +kernel
theorem dX7_undo_54 : decode cX7_undo 54 = .ok (.iinc 1 1, 3) := by decide +kernel
theorem dX7_undo_57 : decode cX7_undo 57 = .ok (.goto (-31), 3) := by decide +kernel
theorem dX7_undo_60 : decode cX7_undo 60 = .ok (.aload_n 0, 1) := by decide +kernel
theorem dX7_undo_61 : decode cX7_undo 61 = .ok (.getfield 147, 3) := by decide +kernel
theorem dX7_undo_64 : decode cX7_undo 64 = .ok (.ireturn, 1) := by decide +kernel
