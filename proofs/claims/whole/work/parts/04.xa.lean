theorem dX0_init_0 : decode cX0_init 0 = .ok (.aload_n 0, 1) := by decide +kernel
theorem dX0_init_1 : decode cX0_init 1 = .ok (.invokespecial 3, 3) := by decide +kernel
theorem dX0_init_4 : decode cX0_init 4 = .ok (.aload_n 0, 1) := by decide +kernel
theorem dX0_init_5 : decode cX0_init 5 = .ok (.bipush 32, 2) := by decide +kernel
theorem dX0_init_7 : decode cX0_init 7 = .ok (.newarray .int, 2) := by decide +kernel
theorem dX0_init_9 : decode cX0_init 9 = .ok (.putfield 11, 3) := by decide +kernel
theorem dX0_init_12 : decode cX0_init 12 = .ok (.aload_n 0, 1) := by decide +kernel
theorem dX0_init_13 : decode cX0_init 13 = .ok (.bipush 20, 2) := by decide +kernel
theorem dX0_init_15 : decode cX0_init 15 = .ok (.newarray .int, 2) := by decide +kernel
theorem dX0_init_17 : decode cX0_init 17 = .ok (.putfield 15, 3) := by decide +kernel
theorem dX0_init_20 : decode cX0_init 20 = .ok (.aload_n 0, 1) := by decide +kernel
theorem dX0_init_21 : decode cX0_init 21 = .ok (.aload_n 1, 1) := by decide +kernel
theorem dX0_init_22 : decode cX0_init 22 = .ok (.putfield 18, 3) := by decide +kernel
theorem dX0_init_25 : decode cX0_init 25 = .ok (.return_, 1) := by decide +kernel
set_option maxRecDepth 20000 in
theorem ggX0_fateOf_X2_factorOf : GoodIn wsX0_fateOf wsX2_factorOf := goodIn_r _ [5, 6, 10, 11, 12, 13, 14] (by decide +kernel) (by decide +kernel)
set_option maxRecDepth 20000 in
theorem gX0_fateOf_X2_factorOf_n22 : GoodIn wsX0_fateOf (wsX2_factorOf) := ggX0_fateOf_X2_factorOf
theorem dX0_fateOf_0 : decode cX0_fateOf 0 = .ok (.aload_n 0, 1) := by decide +kernel
theorem dX0_fateOf_1 : decode cX0_fateOf 1 = .ok (.getfield 18, 3) := by decide +kernel
theorem dX0_fateOf_4 : decode cX0_fateOf 4 = .ok (.iload_n 1, 1) := by decide +kernel
theorem dX0_fateOf_5 : decode cX0_fateOf 5 = .ok (.iload_n 2, 1) := by decide +kernel
theorem dX0_fateOf_6 : decode cX0_fateOf 6 = .ok (.iconst 0, 1) := by decide +kernel
theorem dX0_fateOf_7 : decode cX0_fateOf 7 = .ok (.invokevirtual 22, 3) := by decide +kernel
theorem dX0_fateOf_10 : decode cX0_fateOf 10 = .ok (.ifCond .le 7, 3) := by decide +kernel
theorem dX0_fateOf_13 : decode cX0_fateOf 13 = .ok (.iconst 1, 1) := by decide +kernel
theorem dX0_fateOf_14 : decode cX0_fateOf 14 = .ok (.goto 4, 3) := by decide +kernel
theorem dX0_fateOf_17 : decode cX0_fateOf 17 = .ok (.iconst 0, 1) := by decide +kernel
theorem dX0_fateOf_18 : decode cX0_fateOf 18 = .ok (.istore 4, 2) := by decide +kernel
theorem dX0_fateOf_20 : decode cX0_fateOf 20 = .ok (.aload_n 0, 1) := by decide +kernel
theorem dX0_fateOf_21 : decode cX0_fateOf 21 = .ok (.getfield 18, 3) := by decide +kernel
theorem dX0_fateOf_24 : decode cX0_fateOf 24 = .ok (.iload_n 1, 1) := by decide +kernel
theorem dX0_fateOf_25 : decode cX0_fateOf 25 = .ok (.iload_n 3, 1) := by decide +kernel
theorem dX0_fateOf_26 : decode cX0_fateOf 26 = .ok (.iconst 0, 1) := by decide +kernel
theorem dX0_fateOf_27 : decode cX0_fateOf 27 = .ok (.invokevirtual 22, 3) := by decide +kernel
theorem dX0_fateOf_30 : decode cX0_fateOf 30 = .ok (.ifCond .le 7, 3) := by decide +kernel
theorem dX0_fateOf_33 : decode cX0_fateOf 33 = .ok (.iconst 1, 1) := by decide +kernel
theorem dX0_fateOf_34 : decode cX0_fateOf 34 = .ok (.goto 4, 3) := by decide +kernel
theorem dX0_fateOf_37 : decode cX0_fateOf 37 = .ok (.iconst 0, 1) := by decide +kernel
theorem dX0_fateOf_38 : decode cX0_fateOf 38 = .ok (.istore 5, 2) := by decide +kernel
theorem dX0_fateOf_40 : decode cX0_fateOf 40 = .ok (.iload 4, 2) := by decide +kernel
theorem dX0_fateOf_42 : decode cX0_fateOf 42 = .ok (.iload 5, 2) := by decide +kernel
theorem dX0_fateOf_44 : decode cX0_fateOf 44 = .ok (.if_icmp .ne 5, 3) := by decide +kernel
theorem dX0_fateOf_47 : decode cX0_fateOf 47 = .ok (.iconst 0, 1) := by decide +kernel
theorem dX0_fateOf_48 : decode cX0_fateOf 48 = .ok (.ireturn, 1) := by decide +kernel
theorem dX0_fateOf_49 : decode cX0_fateOf 49 = .ok (.iload 5, 2) := by decide +kernel
theorem dX0_fateOf_51 : decode cX0_fateOf 51 = .ok (.ifCond .eq 7, 3) := by decide +kernel
theorem dX0_fateOf_54 : decode cX0_fateOf 54 = .ok (.iconst 1, 1) := by decide +kernel
theorem dX0_fateOf_55 : decode cX0_fateOf 55 = .ok (.goto 4, 3) := by decide +kernel
theorem dX0_fateOf_58 : decode cX0_fateOf 58 = .ok (.iconst 2, 1) := by decide +kernel
theorem dX0_fateOf_59 : decode cX0_fateOf 59 = .ok (.ireturn, 1) := by decide +kernel
set_option maxRecDepth 20000 in
theorem ggX0_nodeEffect_X2_leavesBelow : GoodIn wsX0_nodeEffect wsX2_leavesBelow := goodIn_r _ [5, 6, 7, 8, 9, 3, 10, 11, 12, 13, 14, 15, 16, 17, 18, 19, 20, 82, 83, 84, 85, 86] (by decide +kernel) (by decide +kernel)
set_option maxRecDepth 20000 in
theorem gX0_nodeEffect_X2_leavesBelow_n28 : GoodIn wsX0_nodeEffect (wsX2_leavesBelow) := ggX0_nodeEffect_X2_leavesBelow
set_option maxRecDepth 20000 in
theorem ggX0_nodeEffect_X0_leafEffect : GoodIn wsX0_nodeEffect wsX0_leafEffect := goodIn_r _ [25, 26, 27, 28, 29, 30, 31, 32, 33, 24, 34, 1, 35, 3, 36, 37, 38, 39, 40, 41, 42, 43, 44, 45, 46, 47, 48, 49, 50, 51, 52, 53, 54, 55, 56, 57, 58, 59, 60, 61, 62, 63, 64, 65, 66, 67, 68, 69, 70, 71, 72, 73, 74, 75, 76, 77, 78, 79, 80, 81, 82, 83, 84, 85, 86] (by decide +kernel) (by decide +kernel)
set_option maxRecDepth 20000 in
theorem gX0_nodeEffect_X0_leafEffect : GoodIn wsX0_nodeEffect (wsV RX0 36 RX0 yX0_leafEffect wsX0_leafEffect) := goodIn_app (goodIn_of _ (by decide +kernel)) ggX0_nodeEffect_X0_leafEffect
theorem dX0_nodeEffect_0 : decode cX0_nodeEffect 0 = .ok (.aload_n 0, 1) := by decide +kernel
theorem dX0_nodeEffect_1 : decode cX0_nodeEffect 1 = .ok (.getfield 18, 3) := by decide +kernel
theorem dX0_nodeEffect_4 : decode cX0_nodeEffect 4 = .ok (.iload_n 1, 1) := by decide +kernel
theorem dX0_nodeEffect_5 : decode cX0_nodeEffect 5 = .ok (.invokevirtual 28, 3) := by decide +kernel
theorem dX0_nodeEffect_8 : decode cX0_nodeEffect 8 = .ok (.istore 6, 2) := by decide +kernel
theorem dX0_nodeEffect_10 : decode cX0_nodeEffect 10 = .ok (.iconst 0, 1) := by decide +kernel
theorem dX0_nodeEffect_11 : decode cX0_nodeEffect 11 = .ok (.istore 7, 2) := by decide +kernel
theorem dX0_nodeEffect_13 : decode cX0_nodeEffect 13 = .ok (.iconst 1, 1) := by decide +kernel
theorem dX0_nodeEffect_14 : decode cX0_nodeEffect 14 = .ok (.istore 8, 2) := by decide +kernel
theorem dX0_nodeEffect_16 : decode cX0_nodeEffect 16 = .ok (.iload 8, 2) := by decide +kernel
theorem dX0_nodeEffect_18 : decode cX0_nodeEffect 18 = .ok (.aload_n 0, 1) := by decide +kernel
theorem dX0_nodeEffect_19 : decode cX0_nodeEffect 19 = .ok (.getfield 18, 3) := by decide +kernel
theorem dX0_nodeEffect_22 : decode cX0_nodeEffect 22 = .ok (.getfield 32, 3) := by decide +kernel
theorem dX0_nodeEffect_25 : decode cX0_nodeEffect 25 = .ok (.if_icmp .ge 36, 3) := by decide +kernel
theorem dX0_nodeEffect_28 : decode cX0_nodeEffect 28 = .ok (.iload 6, 2) := by decide +kernel
theorem dX0_nodeEffect_30 : decode cX0_nodeEffect 30 = .ok (.iload 8, 2) := by decide +kernel
theorem dX0_nodeEffect_32 : decode cX0_nodeEffect 32 = .ok (.ishr, 1) := by decide +kernel
theorem dX0_nodeEffect_33 : decode cX0_nodeEffect 33 = .ok (.iconst 1, 1) := by decide +kernel
theorem dX0_nodeEffect_34 : decode cX0_nodeEffect 34 = .ok (.iand, 1) := by decide +kernel
theorem dX0_nodeEffect_35 : decode cX0_nodeEffect 35 = .ok (.ifCond .eq 20, 3) := by decide +kernel
theorem dX0_nodeEffect_38 : decode cX0_nodeEffect 38 = .ok (.iload 7, 2) := by decide +kernel
theorem dX0_nodeEffect_40 : decode cX0_nodeEffect 40 = .ok (.aload_n 0, 1) := by decide +kernel
theorem dX0_nodeEffect_41 : decode cX0_nodeEffect 41 = .ok (.iload 8, 2) := by decide +kernel
theorem dX0_nodeEffect_43 : decode cX0_nodeEffect 43 = .ok (.iload_n 2, 1) := by decide +kernel
theorem dX0_nodeEffect_44 : decode cX0_nodeEffect 44 = .ok (.iload_n 3, 1) := by decide +kernel
theorem dX0_nodeEffect_45 : decode cX0_nodeEffect 45 = .ok (.iload 4, 2) := by decide +kernel
theorem dX0_nodeEffect_47 : decode cX0_nodeEffect 47 = .ok (.iload 5, 2) := by decide +kernel
theorem dX0_nodeEffect_49 : decode cX0_nodeEffect 49 = .ok (.invokevirtual 36, 3) := by decide +kernel
theorem dX0_nodeEffect_52 : decode cX0_nodeEffect 52 = .ok (.iadd, 1) := by decide +kernel
theorem dX0_nodeEffect_53 : decode cX0_nodeEffect 53 = .ok (.istore 7, 2) := by decide +kernel
theorem dX0_nodeEffect_55 : decode cX0_nodeEffect 55 = .ok (.iinc 8 1, 3) := by decide +kernel
theorem dX0_nodeEffect_58 : decode cX0_nodeEffect 58 = .ok (.goto (-42), 3) := by decide +kernel
theorem dX0_nodeEffect_61 : decode cX0_nodeEffect 61 = .ok (.iload 7, 2) := by decide +kernel
theorem dX0_nodeEffect_63 : decode cX0_nodeEffect 63 = .ok (.ireturn, 1) := by decide +kernel
set_option maxRecDepth 20000 in
theorem ggX0_leafEffect_J7_fill_53178 : GoodIn wsX0_leafEffect wsJ7_fill_53178 := goodIn_r _ [5] (by decide +kernel) (by decide +kernel)
set_option maxRecDepth 20000 in
theorem gX0_leafEffect_J7_fill_53178 : GoodIn wsX0_leafEffect (va_wsS RX0 40 yJ7_fill_53178 wsJ7_fill_53178) := goodIn_app (goodIn_of _ (by decide +kernel)) ggX0_leafEffect_J7_fill_53178
set_option maxRecDepth 20000 in
theorem ggX0_leafEffect_X0_addBlends : GoodIn wsX0_leafEffect wsX0_addBlends := goodIn_r _ [10, 1, 11, 12, 13, 14, 15, 16, 17, 18, 19, 20, 21, 22, 23, 57, 58, 59, 60, 61, 62, 63, 64] (by decide +kernel) (by decide +kernel)
set_option maxRecDepth 20000 in
theorem gX0_leafEffect_X0_addBlends : GoodIn wsX0_leafEffect (wsV RX0 46 RX0 yX0_addBlends wsX0_addBlends) := goodIn_app (goodIn_of _ (by decide +kernel)) ggX0_leafEffect_X0_addBlends
set_option maxRecDepth 20000 in
theorem ggX0_leafEffect_X0_fateOf : GoodIn wsX0_leafEffect wsX0_fateOf := goodIn_r _ [27, 11, 17, 13, 18, 19, 20, 57, 58, 59, 60, 61, 62, 63, 64] (by decide +kernel) (by decide +kernel)
set_option maxRecDepth 20000 in
theorem gX0_leafEffect_X0_fateOf : GoodIn wsX0_leafEffect (wsV RX0 50 RX0 yX0_fateOf wsX0_fateOf) := goodIn_app (goodIn_of _ (by decide +kernel)) ggX0_leafEffect_X0_fateOf
set_option maxRecDepth 20000 in
theorem ggX0_leafEffect_X0_blendedDifference : GoodIn wsX0_leafEffect wsX0_blendedDifference := goodIn_r _ [31, 1, 57, 58, 59] (by decide +kernel) (by decide +kernel)
set_option maxRecDepth 20000 in
theorem gX0_leafEffect_X0_blendedDifference : GoodIn wsX0_leafEffect (wsV RX0 53 RX0 yX0_blendedDifference wsX0_blendedDifference) := goodIn_app (goodIn_of _ (by decide +kernel)) ggX0_leafEffect_X0_blendedDifference
set_option maxRecDepth 20000 in
theorem ggX0_leafEffect_X0_meanEffect : GoodIn wsX0_leafEffect wsX0_meanEffect := goodIn_r _ [35, 36, 37, 38, 39, 40, 41, 42, 43, 44, 45, 9, 46, 1, 57, 58, 59] (by decide +kernel) (by decide +kernel)
set_option maxRecDepth 20000 in
theorem gX0_leafEffect_X0_meanEffect : GoodIn wsX0_leafEffect (wsV RX0 57 RX0 yX0_meanEffect wsX0_meanEffect) := goodIn_app (goodIn_of _ (by decide +kernel)) ggX0_leafEffect_X0_meanEffect
set_option maxRecDepth 20000 in
theorem ggX0_leafEffect_X6_aheadInOrder : GoodIn wsX0_leafEffect wsX6_aheadInOrder := goodIn_r _ [48, 49, 50, 22, 51, 52] (by decide +kernel) (by decide +kernel)
set_option maxRecDepth 20000 in
theorem gX0_leafEffect_X6_aheadInOrder_n60 : GoodIn wsX0_leafEffect (wsX6_aheadInOrder) := ggX0_leafEffect_X6_aheadInOrder
set_option maxRecDepth 20000 in
theorem ggX0_leafEffect_X0_stepEffect : GoodIn wsX0_leafEffect wsX0_stepEffect := goodIn_r _ [46, 1, 57, 58, 59] (by decide +kernel) (by decide +kernel)
set_option maxRecDepth 20000 in
theorem gX0_leafEffect_X0_stepEffect : GoodIn wsX0_leafEffect (wsV RX0 64 RX0 yX0_stepEffect wsX0_stepEffect) := goodIn_app (goodIn_of _ (by decide +kernel)) ggX0_leafEffect_X0_stepEffect
set_option maxRecDepth 20000 in
theorem ggX0_leafEffect_X0_restOfMeans : GoodIn wsX0_leafEffect wsX0_restOfMeans := goodIn_r _ [56, 28, 29, 30, 9, 31, 1, 32, 33, 34, 35, 36, 37, 38, 39, 40, 41, 42, 43, 44, 45, 46, 57, 58, 59] (by decide +kernel) (by decide +kernel)
set_option maxRecDepth 20000 in
theorem gX0_leafEffect_X0_restOfMeans : GoodIn wsX0_leafEffect (wsV RX0 67 RX0 yX0_restOfMeans wsX0_restOfMeans) := goodIn_app (goodIn_of _ (by decide +kernel)) ggX0_leafEffect_X0_restOfMeans
theorem dX0_leafEffect_0 : decode cX0_leafEffect 0 = .ok (.aload_n 0, 1) := by decide +kernel
theorem dX0_leafEffect_1 : decode cX0_leafEffect 1 = .ok (.getfield 11, 3) := by decide +kernel
theorem dX0_leafEffect_4 : decode cX0_leafEffect 4 = .ok (.iconst 0, 1) := by decide +kernel
theorem dX0_leafEffect_5 : decode cX0_leafEffect 5 = .ok (.invokestatic 40, 3) := by decide +kernel
theorem dX0_leafEffect_8 : decode cX0_leafEffect 8 = .ok (.aload_n 0, 1) := by decide +kernel
theorem dX0_leafEffect_9 : decode cX0_leafEffect 9 = .ok (.iload_n 1, 1) := by decide +kernel
theorem dX0_leafEffect_10 : decode cX0_leafEffect 10 = .ok (.iload_n 2, 1) := by decide +kernel
theorem dX0_leafEffect_11 : decode cX0_leafEffect 11 = .ok (.iload_n 3, 1) := by decide +kernel
theorem dX0_leafEffect_12 : decode cX0_leafEffect 12 = .ok (.invokevirtual 46, 3) := by decide +kernel
theorem dX0_leafEffect_15 : decode cX0_leafEffect 15 = .ok (.aload_n 0, 1) := by decide +kernel
theorem dX0_leafEffect_16 : decode cX0_leafEffect 16 = .ok (.iload_n 1, 1) := by decide +kernel
theorem dX0_leafEffect_17 : decode cX0_leafEffect 17 = .ok (.iload_n 2, 1) := by decide +kernel
theorem dX0_leafEffect_18 : decode cX0_leafEffect 18 = .ok (.iload_n 3, 1) := by decide +kernel
theorem dX0_leafEffect_19 : decode cX0_leafEffect 19 = .ok (.invokevirtual 50, 3) := by decide +kernel
theorem dX0_leafEffect_22 : decode cX0_leafEffect 22 = .ok (.istore 6, 2) := by decide +kernel
theorem dX0_leafEffect_24 : decode cX0_leafEffect 24 = .ok (.iload 6, 2) := by decide +kernel
theorem dX0_leafEffect_26 : decode cX0_leafEffect 26 = .ok (.ifCond .eq 33, 3) := by decide +kernel
theorem dX0_leafEffect_29 : decode cX0_leafEffect 29 = .ok (.iload 6, 2) := by decide +kernel
theorem dX0_leafEffect_31 : decode cX0_leafEffect 31 = .ok (.iconst 1, 1) := by decide +kernel
theorem dX0_leafEffect_32 : decode cX0_leafEffect 32 = .ok (.if_icmp .ne 7, 3) := by decide +kernel
theorem dX0_leafEffect_35 : decode cX0_leafEffect 35 = .ok (.iconst 5, 1) := by decide +kernel
theorem dX0_leafEffect_36 : decode cX0_leafEffect 36 = .ok (.goto 5, 3) := by decide +kernel
theorem dX0_leafEffect_39 : decode cX0_leafEffect 39 = .ok (.bipush 6, 2) := by decide +kernel
theorem dX0_leafEffect_41 : decode cX0_leafEffect 41 = .ok (.istore 7, 2) := by decide +kernel
theorem dX0_leafEffect_43 : decode cX0_leafEffect 43 = .ok (.iload 5, 2) := by decide +kernel
theorem dX0_leafEffect_45 : decode cX0_leafEffect 45 = .ok (.iload 7, 2) := by decide +kernel
theorem dX0_leafEffect_47 : decode cX0_leafEffect 47 = .ok (.if_icmp .ne 10, 3) := by decide +kernel
theorem dX0_leafEffect_50 : decode cX0_leafEffect 50 = .ok (.aload_n 0, 1) := by decide +kernel
theorem dX0_leafEffect_51 : decode cX0_leafEffect 51 = .ok (.invokevirtual 53, 3) := by decide +kernel
theorem dX0_leafEffect_54 : decode cX0_leafEffect 54 = .ok (.goto 4, 3) := by decide +kernel
theorem dX0_leafEffect_57 : decode cX0_leafEffect 57 = .ok (.iconst 0, 1) := by decide +kernel
theorem dX0_leafEffect_58 : decode cX0_leafEffect 58 = .ok (.ireturn, 1) := by decide +kernel
theorem dX0_leafEffect_59 : decode cX0_leafEffect 59 = .ok (.iload 5, 2) := by decide +kernel
theorem dX0_leafEffect_61 : decode cX0_leafEffect 61 = .ok (.iconst 5, 1) := by decide +kernel
theorem dX0_leafEffect_62 : decode cX0_leafEffect 62 = .ok (.if_icmp .ge 32, 3) := by decide +kernel
theorem dX0_leafEffect_65 : decode cX0_leafEffect 65 = .ok (.iload 4, 2) := by decide +kernel
theorem dX0_leafEffect_67 : decode cX0_leafEffect 67 = .ok (.iconst (-1), 1) := by decide +kernel
theorem dX0_leafEffect_68 : decode cX0_leafEffect 68 = .ok (.if_icmp .ne 12, 3) := by decide +kernel
theorem dX0_leafEffect_71 : decode cX0_leafEffect 71 = .ok (.aload_n 0, 1) := by decide +kernel
theorem dX0_leafEffect_72 : decode cX0_leafEffect 72 = .ok (.iload 5, 2) := by decide +kernel
theorem dX0_leafEffect_74 : decode cX0_leafEffect 74 = .ok (.invokevirtual 57, 3) := by decide +kernel
theorem dX0_leafEffect_77 : decode cX0_leafEffect 77 = .ok (.goto 16, 3) := by decide +kernel
theorem dX0_leafEffect_80 : decode cX0_leafEffect 80 = .ok (.aload_n 0, 1) := by decide +kernel
theorem dX0_leafEffect_81 : decode cX0_leafEffect 81 = .ok (.iload 4, 2) := by decide +kernel
theorem dX0_leafEffect_83 : decode cX0_leafEffect 83 = .ok (.iload 5, 2) := by decide +kernel
theorem dX0_leafEffect_85 : decode cX0_leafEffect 85 = .ok (.invokestatic 60, 3) := by decide +kernel
theorem dX0_leafEffect_88 : decode cX0_leafEffect 88 = .ok (.iload 5, 2) := by decide +kernel
theorem dX0_leafEffect_90 : decode cX0_leafEffect 90 = .ok (.invokevirtual 64, 3) := by decide +kernel
theorem dX0_leafEffect_93 : decode cX0_leafEffect 93 = .ok (.ireturn, 1) := by decide +kernel
theorem dX0_leafEffect_94 : decode cX0_leafEffect 94 = .ok (.iload 4, 2) := by decide +kernel
theorem dX0_leafEffect_96 : decode cX0_leafEffect 96 = .ok (.iconst (-1), 1) := by decide +kernel
theorem dX0_leafEffect_97 : decode cX0_leafEffect 97 = .ok (.if_icmp .ne 17, 3) := by decide +kernel
theorem dX0_leafEffect_100 : decode cX0_leafEffect 100 = .ok (.iload 5, 2) := by decide +kernel
theorem dX0_leafEffect_102 : decode cX0_leafEffect 102 = .ok (.bipush 7, 2) := by decide +kernel
theorem dX0_leafEffect_104 : decode cX0_leafEffect 104 = .ok (.if_icmp .ne 10, 3) := by decide +kernel
theorem dX0_leafEffect_107 : decode cX0_leafEffect 107 = .ok (.aload_n 0, 1) := by decide +kernel
theorem dX0_leafEffect_108 : decode cX0_leafEffect 108 = .ok (.invokevirtual 67, 3) := by decide +kernel
theorem dX0_leafEffect_111 : decode cX0_leafEffect 111 = .ok (.goto 4, 3) := by decide +kernel
theorem dX0_leafEffect_114 : decode cX0_leafEffect 114 = .ok (.iconst 0, 1) := by decide +kernel
theorem dX0_leafEffect_115 : decode cX0_leafEffect 115 = .ok (.ireturn, 1) := by decide +kernel
set_option maxRecDepth 20000 in
theorem ggX0_addBlends_X2_blendedValue : GoodIn wsX0_addBlends wsX2_blendedValue := goodIn_r _ [6, 7, 8, 9, 4, 10, 11, 12, 13, 14, 18, 19, 20, 21, 22] (by decide +kernel) (by decide +kernel)
set_option maxRecDepth 20000 in
theorem gX0_addBlends_X2_blendedValue_n70 : GoodIn wsX0_addBlends (wsX2_blendedValue) := ggX0_addBlends_X2_blendedValue
theorem dX0_addBlends_0 : decode cX0_addBlends 0 = .ok (.iconst 0, 1) := by decide +kernel
theorem dX0_addBlends_1 : decode cX0_addBlends 1 = .ok (.istore 4, 2) := by decide +kernel
theorem dX0_addBlends_3 : decode cX0_addBlends 3 = .ok (.iload 4, 2) := by decide +kernel
theorem dX0_addBlends_5 : decode cX0_addBlends 5 = .ok (.bipush 32, 2) := by decide +kernel
theorem dX0_addBlends_7 : decode cX0_addBlends 7 = .ok (.if_icmp .ge 31, 3) := by decide +kernel
theorem dX0_addBlends_10 : decode cX0_addBlends 10 = .ok (.aload_n 0, 1) := by decide +kernel
theorem dX0_addBlends_11 : decode cX0_addBlends 11 = .ok (.getfield 11, 3) := by decide +kernel
theorem dX0_addBlends_14 : decode cX0_addBlends 14 = .ok (.iload 4, 2) := by decide +kernel
theorem dX0_addBlends_16 : decode cX0_addBlends 16 = .ok (.dup2, 1) := by decide +kernel
theorem dX0_addBlends_17 : decode cX0_addBlends 17 = .ok (.iaload, 1) := by decide +kernel
theorem dX0_addBlends_18 : decode cX0_addBlends 18 = .ok (.aload_n 0, 1) := by decide +kernel
theorem dX0_addBlends_19 : decode cX0_addBlends 19 = .ok (.getfield 18, 3) := by decide +kernel
theorem dX0_addBlends_22 : decode cX0_addBlends 22 = .ok (.iload_n 1, 1) := by decide +kernel
theorem dX0_addBlends_23 : decode cX0_addBlends 23 = .ok (.iload_n 2, 1) := by decide +kernel
theorem dX0_addBlends_24 : decode cX0_addBlends 24 = .ok (.iload_n 3, 1) := by decide +kernel
theorem dX0_addBlends_25 : decode cX0_addBlends 25 = .ok (.iload 4, 2) := by decide +kernel
theorem dX0_addBlends_27 : decode cX0_addBlends 27 = .ok (.invokevirtual 70, 3) := by decide +kernel
theorem dX0_addBlends_30 : decode cX0_addBlends 30 = .ok (.iadd, 1) := by decide +kernel
theorem dX0_addBlends_31 : decode cX0_addBlends 31 = .ok (.iastore, 1) := by decide +kernel
theorem dX0_addBlends_32 : decode cX0_addBlends 32 = .ok (.iinc 4 1, 3) := by decide +kernel
theorem dX0_addBlends_35 : decode cX0_addBlends 35 = .ok (.goto (-32), 3) := by decide +kernel
theorem dX0_addBlends_38 : decode cX0_addBlends 38 = .ok (.return_, 1) := by decide +kernel
theorem dX0_blendedDifference_0 : decode cX0_blendedDifference 0 = .ok (.aload_n 0, 1) := by decide +kernel
theorem dX0_blendedDifference_1 : decode cX0_blendedDifference 1 = .ok (.getfield 11, 3) := by decide +kernel
theorem dX0_blendedDifference_4 : decode cX0_blendedDifference 4 = .ok (.bipush 31, 2) := by decide +kernel
theorem dX0_blendedDifference_6 : decode cX0_blendedDifference 6 = .ok (.iaload, 1) := by decide +kernel
theorem dX0_blendedDifference_7 : decode cX0_blendedDifference 7 = .ok (.aload_n 0, 1) := by decide +kernel
theorem dX0_blendedDifference_8 : decode cX0_blendedDifference 8 = .ok (.getfield 11, 3) := by decide +kernel
theorem dX0_blendedDifference_11 : decode cX0_blendedDifference 11 = .ok (.iconst 0, 1) := by decide +kernel
theorem dX0_blendedDifference_12 : decode cX0_blendedDifference 12 = .ok (.iaload, 1) := by decide +kernel
theorem dX0_blendedDifference_13 : decode cX0_blendedDifference 13 = .ok (.isub, 1) := by decide +kernel
theorem dX0_blendedDifference_14 : decode cX0_blendedDifference 14 = .ok (.ireturn, 1) := by decide +kernel
theorem dX0_stepEffect_0 : decode cX0_stepEffect 0 = .ok (.aload_n 0, 1) := by decide +kernel
theorem dX0_stepEffect_1 : decode cX0_stepEffect 1 = .ok (.getfield 11, 3) := by decide +kernel
theorem dX0_stepEffect_4 : decode cX0_stepEffect 4 = .ok (.iload_n 1, 1) := by decide +kernel
theorem dX0_stepEffect_5 : decode cX0_stepEffect 5 = .ok (.iconst 1, 1) := by decide +kernel
theorem dX0_stepEffect_6 : decode cX0_stepEffect 6 = .ok (.iload_n 2, 1) := by decide +kernel
theorem dX0_stepEffect_7 : decode cX0_stepEffect 7 = .ok (.ishl, 1) := by decide +kernel
theorem dX0_stepEffect_8 : decode cX0_stepEffect 8 = .ok (.ior, 1) := by decide +kernel
theorem dX0_stepEffect_9 : decode cX0_stepEffect 9 = .ok (.iaload, 1) := by decide +kernel
theorem dX0_stepEffect_10 : decode cX0_stepEffect 10 = .ok (.aload_n 0, 1) := by decide +kernel
theorem dX0_stepEffect_11 : decode cX0_stepEffect 11 = .ok (.getfield 11, 3) := by decide +kernel
theorem dX0_stepEffect_14 : decode cX0_stepEffect 14 = .ok (.iload_n 1, 1) := by decide +kernel
theorem dX0_stepEffect_15 : decode cX0_stepEffect 15 = .ok (.iaload, 1) := by decide +kernel
theorem dX0_stepEffect_16 : decode cX0_stepEffect 16 = .ok (.isub, 1) := by decide +kernel
theorem dX0_stepEffect_17 : decode cX0_stepEffect 17 = .ok (.ireturn, 1) := by decide +kernel
set_option maxRecDepth 20000 in
theorem ggX0_meanEffect_J6_bitCount_0f7a4 : GoodIn wsX0_meanEffect wsJ6_bitCount_0f7a4 := goodIn_r _ [4, 5, 6, 7] (by decide +kernel) (by decide +kernel)
set_option maxRecDepth 20000 in
theorem gX0_meanEffect_J6_bitCount_0f7a4 : GoodIn wsX0_meanEffect (va_wsS RX0 77 yJ6_bitCount_0f7a4 wsJ6_bitCount_0f7a4) := goodIn_app (goodIn_of _ (by decide +kernel)) ggX0_meanEffect_J6_bitCount_0f7a4
set_option maxRecDepth 20000 in
theorem ggX0_meanEffect_X0_stepEffect : GoodIn wsX0_meanEffect wsX0_stepEffect := goodIn_r _ [12, 13, 14, 15, 16] (by decide +kernel) (by decide +kernel)
set_option maxRecDepth 20000 in
theorem gX0_meanEffect_X0_stepEffect : GoodIn wsX0_meanEffect (wsV RX0 64 RX0 yX0_stepEffect wsX0_stepEffect) := goodIn_app (goodIn_of _ (by decide +kernel)) ggX0_meanEffect_X0_stepEffect
theorem dX0_meanEffect_0 : decode cX0_meanEffect 0 = .ok (.iconst 0, 1) := by decide +kernel
theorem dX0_meanEffect_1 : decode cX0_meanEffect 1 = .ok (.istore_n 2, 1) := by decide +kernel
theorem dX0_meanEffect_2 : decode cX0_meanEffect 2 = .ok (.iconst 0, 1) := by decide +kernel
theorem dX0_meanEffect_3 : decode cX0_meanEffect 3 = .ok (.istore_n 3, 1) := by decide +kernel
theorem dX0_meanEffect_4 : decode cX0_meanEffect 4 = .ok (.iload_n 3, 1) := by decide +kernel
theorem dX0_meanEffect_5 : decode cX0_meanEffect 5 = .ok (.bipush 32, 2) := by decide +kernel
theorem dX0_meanEffect_7 : decode cX0_meanEffect 7 = .ok (.if_icmp .ge 35, 3) := by decide +kernel
theorem dX0_meanEffect_10 : decode cX0_meanEffect 10 = .ok (.iload_n 3, 1) := by decide +kernel
theorem dX0_meanEffect_11 : decode cX0_meanEffect 11 = .ok (.iload_n 1, 1) := by decide +kernel
theorem dX0_meanEffect_12 : decode cX0_meanEffect 12 = .ok (.ishr, 1) := by decide +kernel
theorem dX0_meanEffect_13 : decode cX0_meanEffect 13 = .ok (.iconst 1, 1) := by decide +kernel
theorem dX0_meanEffect_14 : decode cX0_meanEffect 14 = .ok (.iand, 1) := by decide +kernel
theorem dX0_meanEffect_15 : decode cX0_meanEffect 15 = .ok (.ifCond .ne 21, 3) := by decide +kernel
theorem dX0_meanEffect_18 : decode cX0_meanEffect 18 = .ok (.iload_n 2, 1) := by decide +kernel
theorem dX0_meanEffect_19 : decode cX0_meanEffect 19 = .ok (.getstatic 74, 3) := by decide +kernel
theorem dX0_meanEffect_22 : decode cX0_meanEffect 22 = .ok (.iload_n 3, 1) := by decide +kernel
theorem dX0_meanEffect_23 : decode cX0_meanEffect 23 = .ok (.invokestatic 77, 3) := by decide +kernel
theorem dX0_meanEffect_26 : decode cX0_meanEffect 26 = .ok (.iaload, 1) := by decide +kernel
theorem dX0_meanEffect_27 : decode cX0_meanEffect 27 = .ok (.aload_n 0, 1) := by decide +kernel
theorem dX0_meanEffect_28 : decode cX0_meanEffect 28 = .ok (.iload_n 3, 1) := by decide +kernel
theorem dX0_meanEffect_29 : decode cX0_meanEffect 29 = .ok (.iload_n 1, 1) := by decide +kernel
theorem dX0_meanEffect_30 : decode cX0_meanEffect 30 = .ok (.invokevirtual 64, 3) := by decide +kernel
theorem dX0_meanEffect_33 : decode cX0_meanEffect 33 = .ok (.imul, 1) := by decide +kernel
theorem dX0_meanEffect_34 : decode cX0_meanEffect 34 = .ok (.iadd, 1) := by decide +kernel
theorem dX0_meanEffect_35 : decode cX0_meanEffect 35 = .ok (.istore_n 2, 1) := by decide +kernel
theorem dX0_meanEffect_36 : decode cX0_meanEffect 36 = .ok (.iinc 3 1, 3) := by decide +kernel
theorem dX0_meanEffect_39 : decode cX0_meanEffect 39 = .ok (.goto (-35), 3) := by decide +kernel
theorem dX0_meanEffect_42 : decode cX0_meanEffect 42 = .ok (.iload_n 2, 1) := by decide +kernel
theorem dX0_meanEffect_43 : decode cX0_meanEffect 43 = .ok (.bipush 120, 2) := by decide +kernel
theorem dX0_meanEffect_45 : decode cX0_meanEffect 45 = .ok (.idiv, 1) := by decide +kernel
theorem dX0_meanEffect_46 : decode cX0_meanEffect 46 = .ok (.ireturn, 1) := by decide +kernel
set_option maxRecDepth 20000 in
theorem ggX0_restOfMeans_X0_blendedDifference : GoodIn wsX0_restOfMeans wsX0_blendedDifference := goodIn_r _ [5, 6, 22, 23, 24] (by decide +kernel) (by decide +kernel)
set_option maxRecDepth 20000 in
theorem gX0_restOfMeans_X0_blendedDifference : GoodIn wsX0_restOfMeans (wsV RX0 53 RX0 yX0_blendedDifference wsX0_blendedDifference) := goodIn_app (goodIn_of _ (by decide +kernel)) ggX0_restOfMeans_X0_blendedDifference
set_option maxRecDepth 20000 in
theorem ggX0_restOfMeans_X0_meanEffect : GoodIn wsX0_restOfMeans wsX0_meanEffect := goodIn_r _ [10, 11, 12, 13, 14, 15, 16, 17, 18, 19, 20, 4, 21, 6, 22, 23, 24] (by decide +kernel) (by decide +kernel)
set_option maxRecDepth 20000 in
theorem gX0_restOfMeans_X0_meanEffect : GoodIn wsX0_restOfMeans (wsV RX0 57 RX0 yX0_meanEffect wsX0_meanEffect) := goodIn_app (goodIn_of _ (by decide +kernel)) ggX0_restOfMeans_X0_meanEffect
theorem dX0_restOfMeans_0 : decode cX0_restOfMeans 0 = .ok (.aload_n 0, 1) := by decide +kernel
theorem dX0_restOfMeans_1 : decode cX0_restOfMeans 1 = .ok (.invokevirtual 53, 3) := by decide +kernel
theorem dX0_restOfMeans_4 : decode cX0_restOfMeans 4 = .ok (.istore_n 1, 1) := by decide +kernel
theorem dX0_restOfMeans_5 : decode cX0_restOfMeans 5 = .ok (.iconst 0, 1) := by decide +kernel
theorem dX0_restOfMeans_6 : decode cX0_restOfMeans 6 = .ok (.istore_n 2, 1) := by decide +kernel
theorem dX0_restOfMeans_7 : decode cX0_restOfMeans 7 = .ok (.iload_n 2, 1) := by decide +kernel
theorem dX0_restOfMeans_8 : decode cX0_restOfMeans 8 = .ok (.iconst 5, 1) := by decide +kernel
theorem dX0_restOfMeans_9 : decode cX0_restOfMeans 9 = .ok (.if_icmp .ge 17, 3) := by decide +kernel
theorem dX0_restOfMeans_12 : decode cX0_restOfMeans 12 = .ok (.iload_n 1, 1) := by decide +kernel
theorem dX0_restOfMeans_13 : decode cX0_restOfMeans 13 = .ok (.aload_n 0, 1) := by decide +kernel
theorem dX0_restOfMeans_14 : decode cX0_restOfMeans 14 = .ok (.iload_n 2, 1) := by decide +kernel
theorem dX0_restOfMeans_15 : decode cX0_restOfMeans 15 = .ok (.invokevirtual 57, 3) := by decide +kernel
theorem dX0_restOfMeans_18 : decode cX0_restOfMeans 18 = .ok (.isub, 1) := by decide +kernel
theorem dX0_restOfMeans_19 : decode cX0_restOfMeans 19 = .ok (.istore_n 1, 1) := by decide +kernel
theorem dX0_restOfMeans_20 : decode cX0_restOfMeans 20 = .ok (.iinc 2 1, 3) := by decide +kernel
theorem dX0_restOfMeans_23 : decode cX0_restOfMeans 23 = .ok (.goto (-16), 3) := by decide +kernel
theorem dX0_restOfMeans_26 : decode cX0_restOfMeans 26 = .ok (.iload_n 1, 1) := by decide +kernel
theorem dX0_restOfMeans_27 : decode cX0_restOfMeans 27 = .ok (.ireturn, 1) := by decide +kernel
set_option maxRecDepth 20000 in
theorem ggX0_mixOf_X0_stayingUnits : GoodIn wsX0_mixOf wsX0_stayingUnits := goodIn_r _ [6, 1, 7, 8, 9, 10, 11, 12, 13, 14, 15, 16, 17, 18, 19, 20, 21, 22, 23, 24, 25, 26, 27, 28, 5, 29, 30, 31, 32, 33, 34, 35, 36, 37, 38, 39, 40, 41] (by decide +kernel) (by decide +kernel)
set_option maxRecDepth 20000 in
theorem gX0_mixOf_X0_stayingUnits : GoodIn wsX0_mixOf (wsV RX0 85 RX0 yX0_stayingUnits wsX0_stayingUnits) := goodIn_app (goodIn_of _ (by decide +kernel)) ggX0_mixOf_X0_stayingUnits
theorem dX0_mixOf_0 : decode cX0_mixOf 0 = .ok (.aload_n 0, 1) := by decide +kernel
theorem dX0_mixOf_1 : decode cX0_mixOf 1 = .ok (.getfield 18, 3) := by decide +kernel
theorem dX0_mixOf_4 : decode cX0_mixOf 4 = .ok (.getfield 82, 3) := by decide +kernel
theorem dX0_mixOf_7 : decode cX0_mixOf 7 = .ok (.iload_n 1, 1) := by decide +kernel
theorem dX0_mixOf_8 : decode cX0_mixOf 8 = .ok (.iaload, 1) := by decide +kernel
theorem dX0_mixOf_9 : decode cX0_mixOf 9 = .ok (.istore 4, 2) := by decide +kernel
theorem dX0_mixOf_11 : decode cX0_mixOf 11 = .ok (.aload_n 0, 1) := by decide +kernel
theorem dX0_mixOf_12 : decode cX0_mixOf 12 = .ok (.iload 4, 2) := by decide +kernel
theorem dX0_mixOf_14 : decode cX0_mixOf 14 = .ok (.iload_n 2, 1) := by decide +kernel
theorem dX0_mixOf_15 : decode cX0_mixOf 15 = .ok (.iload_n 3, 1) := by decide +kernel
theorem dX0_mixOf_16 : decode cX0_mixOf 16 = .ok (.iload_n 2, 1) := by decide +kernel
theorem dX0_mixOf_17 : decode cX0_mixOf 17 = .ok (.invokevirtual 85, 3) := by decide +kernel
theorem dX0_mixOf_20 : decode cX0_mixOf 20 = .ok (.istore 5, 2) := by decide +kernel
theorem dX0_mixOf_22 : decode cX0_mixOf 22 = .ok (.iload 5, 2) := by decide +kernel
theorem dX0_mixOf_24 : decode cX0_mixOf 24 = .ok (.ifCond .ne 5, 3) := by decide +kernel
theorem dX0_mixOf_27 : decode cX0_mixOf 27 = .ok (.iconst 0, 1) := by decide +kernel
theorem dX0_mixOf_28 : decode cX0_mixOf 28 = .ok (.ireturn, 1) := by decide +kernel
theorem dX0_mixOf_29 : decode cX0_mixOf 29 = .ok (.aload_n 0, 1) := by decide +kernel
theorem dX0_mixOf_30 : decode cX0_mixOf 30 = .ok (.iload 4, 2) := by decide +kernel
theorem dX0_mixOf_32 : decode cX0_mixOf 32 = .ok (.iload_n 2, 1) := by decide +kernel
theorem dX0_mixOf_33 : decode cX0_mixOf 33 = .ok (.iload_n 3, 1) := by decide +kernel
theorem dX0_mixOf_34 : decode cX0_mixOf 34 = .ok (.iload_n 3, 1) := by decide +kernel
theorem dX0_mixOf_35 : decode cX0_mixOf 35 = .ok (.invokevirtual 85, 3) := by decide +kernel
theorem dX0_mixOf_38 : decode cX0_mixOf 38 = .ok (.istore 6, 2) := by decide +kernel
theorem dX0_mixOf_40 : decode cX0_mixOf 40 = .ok (.iload 6, 2) := by decide +kernel
theorem dX0_mixOf_42 : decode cX0_mixOf 42 = .ok (.aload_n 0, 1) := by decide +kernel
theorem dX0_mixOf_43 : decode cX0_mixOf 43 = .ok (.iload_n 1, 1) := by decide +kernel
theorem dX0_mixOf_44 : decode cX0_mixOf 44 = .ok (.iload_n 2, 1) := by decide +kernel
theorem dX0_mixOf_45 : decode cX0_mixOf 45 = .ok (.iload_n 3, 1) := by decide +kernel
theorem dX0_mixOf_46 : decode cX0_mixOf 46 = .ok (.iload_n 2, 1) := by decide +kernel
theorem dX0_mixOf_47 : decode cX0_mixOf 47 = .ok (.invokevirtual 85, 3) := by decide +kernel
theorem dX0_mixOf_50 : decode cX0_mixOf 50 = .ok (.imul, 1) := by decide +kernel
theorem dX0_mixOf_51 : decode cX0_mixOf 51 = .ok (.iload 5, 2) := by decide +kernel
theorem dX0_mixOf_53 : decode cX0_mixOf 53 = .ok (.idiv, 1) := by decide +kernel
theorem dX0_mixOf_54 : decode cX0_mixOf 54 = .ok (.istore 7, 2) := by decide +kernel
theorem dX0_mixOf_56 : decode cX0_mixOf 56 = .ok (.aload_n 0, 1) := by decide +kernel
theorem dX0_mixOf_57 : decode cX0_mixOf 57 = .ok (.iload_n 1, 1) := by decide +kernel
theorem dX0_mixOf_58 : decode cX0_mixOf 58 = .ok (.iload_n 2, 1) := by decide +kernel
theorem dX0_mixOf_59 : decode cX0_mixOf 59 = .ok (.iload_n 3, 1) := by decide +kernel
theorem dX0_mixOf_60 : decode cX0_mixOf 60 = .ok (.iload_n 3, 1) := by decide +kernel
theorem dX0_mixOf_61 : decode cX0_mixOf 61 = .ok (.invokevirtual 85, 3) := by decide +kernel
theorem dX0_mixOf_64 : decode cX0_mixOf 64 = .ok (.iload 7, 2) := by decide +kernel
theorem dX0_mixOf_66 : decode cX0_mixOf 66 = .ok (.isub, 1) := by decide +kernel
theorem dX0_mixOf_67 : decode cX0_mixOf 67 = .ok (.ireturn, 1) := by decide +kernel
set_option maxRecDepth 20000 in
theorem ggX0_stayingUnits_X2_leavesBelow : GoodIn wsX0_stayingUnits wsX2_leavesBelow := goodIn_r _ [5, 6, 7, 8, 9, 3, 10, 11, 12, 13, 14, 15, 16, 17, 18, 19, 20, 33, 34, 35, 36, 37] (by decide +kernel) (by decide +kernel)
set_option maxRecDepth 20000 in
theorem gX0_stayingUnits_X2_leavesBelow_n28 : GoodIn wsX0_stayingUnits (wsX2_leavesBelow) := ggX0_stayingUnits_X2_leavesBelow
set_option maxRecDepth 20000 in
theorem ggX0_stayingUnits_X0_fateOf : GoodIn wsX0_stayingUnits wsX0_fateOf := goodIn_r _ [25, 1, 26, 3, 27, 28, 29, 30, 31, 32, 33, 34, 35, 36, 37] (by decide +kernel) (by decide +kernel)
set_option maxRecDepth 20000 in
theorem gX0_stayingUnits_X0_fateOf : GoodIn wsX0_stayingUnits (wsV RX0 50 RX0 yX0_fateOf wsX0_fateOf) := goodIn_app (goodIn_of _ (by decide +kernel)) ggX0_stayingUnits_X0_fateOf
set_option maxRecDepth 20000 in
theorem ggX0_stayingUnits_X2_factorOf : GoodIn wsX0_stayingUnits wsX2_factorOf := goodIn_r _ [28, 29, 33, 34, 35, 36, 37] (by decide +kernel) (by decide +kernel)
set_option maxRecDepth 20000 in
theorem gX0_stayingUnits_X2_factorOf_n22 : GoodIn wsX0_stayingUnits (wsX2_factorOf) := ggX0_stayingUnits_X2_factorOf
theorem dX0_stayingUnits_0 : decode cX0_stayingUnits 0 = .ok (.aload_n 0, 1) := by decide +kernel
theorem dX0_stayingUnits_1 : decode cX0_stayingUnits 1 = .ok (.getfield 18, 3) := by decide +kernel
theorem dX0_stayingUnits_4 : decode cX0_stayingUnits 4 = .ok (.iload_n 1, 1) := by decide +kernel
theorem dX0_stayingUnits_5 : decode cX0_stayingUnits 5 = .ok (.invokevirtual 28, 3) := by decide +kernel
theorem dX0_stayingUnits_8 : decode cX0_stayingUnits 8 = .ok (.istore 5, 2) := by decide +kernel
theorem dX0_stayingUnits_10 : decode cX0_stayingUnits 10 = .ok (.iconst 0, 1) := by decide +kernel
theorem dX0_stayingUnits_11 : decode cX0_stayingUnits 11 = .ok (.istore 6, 2) := by decide +kernel
theorem dX0_stayingUnits_13 : decode cX0_stayingUnits 13 = .ok (.iconst 1, 1) := by decide +kernel
theorem dX0_stayingUnits_14 : decode cX0_stayingUnits 14 = .ok (.istore 7, 2) := by decide +kernel
theorem dX0_stayingUnits_16 : decode cX0_stayingUnits 16 = .ok (.iload 7, 2) := by decide +kernel
theorem dX0_stayingUnits_18 : decode cX0_stayingUnits 18 = .ok (.aload_n 0, 1) := by decide +kernel
theorem dX0_stayingUnits_19 : decode cX0_stayingUnits 19 = .ok (.getfield 18, 3) := by decide +kernel
theorem dX0_stayingUnits_22 : decode cX0_stayingUnits 22 = .ok (.getfield 32, 3) := by decide +kernel
theorem dX0_stayingUnits_25 : decode cX0_stayingUnits 25 = .ok (.if_icmp .ge 47, 3) := by decide +kernel
theorem dX0_stayingUnits_28 : decode cX0_stayingUnits 28 = .ok (.iload 5, 2) := by decide +kernel
theorem dX0_stayingUnits_30 : decode cX0_stayingUnits 30 = .ok (.iload 7, 2) := by decide +kernel
theorem dX0_stayingUnits_32 : decode cX0_stayingUnits 32 = .ok (.ishr, 1) := by decide +kernel
theorem dX0_stayingUnits_33 : decode cX0_stayingUnits 33 = .ok (.iconst 1, 1) := by decide +kernel
theorem dX0_stayingUnits_34 : decode cX0_stayingUnits 34 = .ok (.iand, 1) := by decide +kernel
theorem dX0_stayingUnits_35 : decode cX0_stayingUnits 35 = .ok (.ifCond .eq 31, 3) := by decide +kernel
theorem dX0_stayingUnits_38 : decode cX0_stayingUnits 38 = .ok (.aload_n 0, 1) := by decide +kernel
theorem dX0_stayingUnits_39 : decode cX0_stayingUnits 39 = .ok (.iload 7, 2) := by decide +kernel
theorem dX0_stayingUnits_41 : decode cX0_stayingUnits 41 = .ok (.iload_n 2, 1) := by decide +kernel
theorem dX0_stayingUnits_42 : decode cX0_stayingUnits 42 = .ok (.iload_n 3, 1) := by decide +kernel
theorem dX0_stayingUnits_43 : decode cX0_stayingUnits 43 = .ok (.invokevirtual 50, 3) := by decide +kernel
theorem dX0_stayingUnits_46 : decode cX0_stayingUnits 46 = .ok (.ifCond .ne 20, 3) := by decide +kernel
theorem dX0_stayingUnits_49 : decode cX0_stayingUnits 49 = .ok (.iload 6, 2) := by decide +kernel
theorem dX0_stayingUnits_51 : decode cX0_stayingUnits 51 = .ok (.aload_n 0, 1) := by decide +kernel
theorem dX0_stayingUnits_52 : decode cX0_stayingUnits 52 = .ok (.getfield 18, 3) := by decide +kernel
theorem dX0_stayingUnits_55 : decode cX0_stayingUnits 55 = .ok (.iload 7, 2) := by decide +kernel
theorem dX0_stayingUnits_57 : decode cX0_stayingUnits 57 = .ok (.iload 4, 2) := by decide +kernel
theorem dX0_stayingUnits_59 : decode cX0_stayingUnits 59 = .ok (.iconst 0, 1) := by decide +kernel
theorem dX0_stayingUnits_60 : decode cX0_stayingUnits 60 = .ok (.invokevirtual 22, 3) := by decide +kernel
theorem dX0_stayingUnits_63 : decode cX0_stayingUnits 63 = .ok (.iadd, 1) := by decide +kernel
theorem dX0_stayingUnits_64 : decode cX0_stayingUnits 64 = .ok (.istore 6, 2) := by decide +kernel
theorem dX0_stayingUnits_66 : decode cX0_stayingUnits 66 = .ok (.iinc 7 1, 3) := by decide +kernel
theorem dX0_stayingUnits_69 : decode cX0_stayingUnits 69 = .ok (.goto (-53), 3) := by decide +kernel
theorem dX0_stayingUnits_72 : decode cX0_stayingUnits 72 = .ok (.iload 6, 2) := by decide +kernel
theorem dX0_stayingUnits_74 : decode cX0_stayingUnits 74 = .ok (.ireturn, 1) := by decide +kernel
set_option maxRecDepth 20000 in
theorem ggX0_mostFlattering_X2_leavesBelow : GoodIn wsX0_mostFlattering wsX2_leavesBelow := goodIn_r _ [6, 7, 8, 9, 10, 4, 11, 12, 13, 14, 15, 16, 17, 18, 19, 20, 21, 63, 64, 65, 66, 67] (by decide +kernel) (by decide +kernel)
set_option maxRecDepth 20000 in
theorem gX0_mostFlattering_X2_leavesBelow_n28 : GoodIn wsX0_mostFlattering (wsX2_leavesBelow) := ggX0_mostFlattering_X2_leavesBelow
set_option maxRecDepth 20000 in
theorem ggX0_mostFlattering_J7_fill_53178 : GoodIn wsX0_mostFlattering wsJ7_fill_53178 := goodIn_r _ [25] (by decide +kernel) (by decide +kernel)
set_option maxRecDepth 20000 in
theorem gX0_mostFlattering_J7_fill_53178 : GoodIn wsX0_mostFlattering (va_wsS RX0 40 yJ7_fill_53178 wsJ7_fill_53178) := goodIn_app (goodIn_of _ (by decide +kernel)) ggX0_mostFlattering_J7_fill_53178
set_option maxRecDepth 20000 in
theorem ggX0_mostFlattering_X0_fateOf : GoodIn wsX0_mostFlattering wsX0_fateOf := goodIn_r _ [30, 1, 31, 4, 32, 33, 34, 60, 61, 62, 63, 64, 65, 66, 67] (by decide +kernel) (by decide +kernel)
set_option maxRecDepth 20000 in
theorem gX0_mostFlattering_X0_fateOf : GoodIn wsX0_mostFlattering (wsV RX0 50 RX0 yX0_fateOf wsX0_fateOf) := goodIn_app (goodIn_of _ (by decide +kernel)) ggX0_mostFlattering_X0_fateOf
set_option maxRecDepth 20000 in
theorem ggX0_mostFlattering_X0_addBlends : GoodIn wsX0_mostFlattering wsX0_addBlends := goodIn_r _ [38, 2, 1, 39, 4, 40, 41, 42, 31, 32, 33, 34, 43, 44, 45, 60, 61, 62, 63, 64, 65, 66, 67] (by decide +kernel) (by decide +kernel)
set_option maxRecDepth 20000 in
theorem gX0_mostFlattering_X0_addBlends : GoodIn wsX0_mostFlattering (wsV RX0 46 RX0 yX0_addBlends wsX0_addBlends) := goodIn_app (goodIn_of _ (by decide +kernel)) ggX0_mostFlattering_X0_addBlends
set_option maxRecDepth 20000 in
theorem ggX0_mostFlattering_X0_bestOrder : GoodIn wsX0_mostFlattering wsX0_bestOrder := goodIn_r _ [49, 50, 44, 51, 52, 53, 54, 55, 56, 57, 58, 29, 59, 2, 60, 61, 62] (by decide +kernel) (by decide +kernel)
set_option maxRecDepth 20000 in
theorem gX0_mostFlattering_X0_bestOrder : GoodIn wsX0_mostFlattering (wsV RX0 88 RX0 yX0_bestOrder wsX0_bestOrder) := goodIn_app (goodIn_of _ (by decide +kernel)) ggX0_mostFlattering_X0_bestOrder
theorem dX0_mostFlattering_0 : decode cX0_mostFlattering 0 = .ok (.aload_n 0, 1) := by decide +kernel
theorem dX0_mostFlattering_1 : decode cX0_mostFlattering 1 = .ok (.getfield 18, 3) := by decide +kernel
theorem dX0_mostFlattering_4 : decode cX0_mostFlattering 4 = .ok (.iload_n 1, 1) := by decide +kernel
theorem dX0_mostFlattering_5 : decode cX0_mostFlattering 5 = .ok (.invokevirtual 28, 3) := by decide +kernel
theorem dX0_mostFlattering_8 : decode cX0_mostFlattering 8 = .ok (.istore 5, 2) := by decide +kernel
theorem dX0_mostFlattering_10 : decode cX0_mostFlattering 10 = .ok (.aload_n 0, 1) := by decide +kernel
theorem dX0_mostFlattering_11 : decode cX0_mostFlattering 11 = .ok (.getfield 11, 3) := by decide +kernel
theorem dX0_mostFlattering_14 : decode cX0_mostFlattering 14 = .ok (.iconst 0, 1) := by decide +kernel
theorem dX0_mostFlattering_15 : decode cX0_mostFlattering 15 = .ok (.invokestatic 40, 3) := by decide +kernel
theorem dX0_mostFlattering_18 : decode cX0_mostFlattering 18 = .ok (.iconst 1, 1) := by decide +kernel
theorem dX0_mostFlattering_19 : decode cX0_mostFlattering 19 = .ok (.istore 6, 2) := by decide +kernel
theorem dX0_mostFlattering_21 : decode cX0_mostFlattering 21 = .ok (.iload 6, 2) := by decide +kernel
theorem dX0_mostFlattering_23 : decode cX0_mostFlattering 23 = .ok (.aload_n 0, 1) := by decide +kernel
theorem dX0_mostFlattering_24 : decode cX0_mostFlattering 24 = .ok (.getfield 18, 3) := by decide +kernel
theorem dX0_mostFlattering_27 : decode cX0_mostFlattering 27 = .ok (.getfield 32, 3) := by decide +kernel
theorem dX0_mostFlattering_30 : decode cX0_mostFlattering 30 = .ok (.if_icmp .ge 38, 3) := by decide +kernel
theorem dX0_mostFlattering_33 : decode cX0_mostFlattering 33 = .ok (.iload 5, 2) := by decide +kernel
theorem dX0_mostFlattering_35 : decode cX0_mostFlattering 35 = .ok (.iload 6, 2) := by decide +kernel
theorem dX0_mostFlattering_37 : decode cX0_mostFlattering 37 = .ok (.ishr, 1) := by decide +kernel
theorem dX0_mostFlattering_38 : decode cX0_mostFlattering 38 = .ok (.iconst 1, 1) := by decide +kernel
theorem dX0_mostFlattering_39 : decode cX0_mostFlattering 39 = .ok (.iand, 1) := by decide +kernel
theorem dX0_mostFlattering_40 : decode cX0_mostFlattering 40 = .ok (.ifCond .eq 22, 3) := by decide +kernel
theorem dX0_mostFlattering_43 : decode cX0_mostFlattering 43 = .ok (.aload_n 0, 1) := by decide +kernel
theorem dX0_mostFlattering_44 : decode cX0_mostFlattering 44 = .ok (.iload 6, 2) := by decide +kernel
theorem dX0_mostFlattering_46 : decode cX0_mostFlattering 46 = .ok (.iload_n 2, 1) := by decide +kernel
theorem dX0_mostFlattering_47 : decode cX0_mostFlattering 47 = .ok (.iload_n 3, 1) := by decide +kernel
theorem dX0_mostFlattering_48 : decode cX0_mostFlattering 48 = .ok (.invokevirtual 50, 3) := by decide +kernel
theorem dX0_mostFlattering_51 : decode cX0_mostFlattering 51 = .ok (.ifCond .ne 11, 3) := by decide +kernel
theorem dX0_mostFlattering_54 : decode cX0_mostFlattering 54 = .ok (.aload_n 0, 1) := by decide +kernel
theorem dX0_mostFlattering_55 : decode cX0_mostFlattering 55 = .ok (.iload 6, 2) := by decide +kernel
theorem dX0_mostFlattering_57 : decode cX0_mostFlattering 57 = .ok (.iload_n 2, 1) := by decide +kernel
theorem dX0_mostFlattering_58 : decode cX0_mostFlattering 58 = .ok (.iload_n 3, 1) := by decide +kernel
theorem dX0_mostFlattering_59 : decode cX0_mostFlattering 59 = .ok (.invokevirtual 46, 3) := by decide +kernel
theorem dX0_mostFlattering_62 : decode cX0_mostFlattering 62 = .ok (.iinc 6 1, 3) := by decide +kernel
theorem dX0_mostFlattering_65 : decode cX0_mostFlattering 65 = .ok (.goto (-44), 3) := by decide +kernel
theorem dX0_mostFlattering_68 : decode cX0_mostFlattering 68 = .ok (.aload_n 0, 1) := by decide +kernel
theorem dX0_mostFlattering_69 : decode cX0_mostFlattering 69 = .ok (.iload 4, 2) := by decide +kernel
theorem dX0_mostFlattering_71 : decode cX0_mostFlattering 71 = .ok (.invokevirtual 88, 3) := by decide +kernel
theorem dX0_mostFlattering_74 : decode cX0_mostFlattering 74 = .ok (.ireturn, 1) := by decide +kernel
set_option maxRecDepth 20000 in
theorem ggX0_bestOrder_X6_aheadInOrder : GoodIn wsX0_bestOrder wsX6_aheadInOrder := goodIn_r _ [3, 4, 5, 2, 6, 7] (by decide +kernel) (by decide +kernel)
set_option maxRecDepth 20000 in
theorem gX0_bestOrder_X6_aheadInOrder_n60 : GoodIn wsX0_bestOrder (wsX6_aheadInOrder) := ggX0_bestOrder_X6_aheadInOrder
set_option maxRecDepth 20000 in
theorem ggX0_bestOrder_X0_stepEffect : GoodIn wsX0_bestOrder wsX0_stepEffect := goodIn_r _ [12, 13, 14, 15, 16] (by decide +kernel) (by decide +kernel)
set_option maxRecDepth 20000 in
theorem gX0_bestOrder_X0_stepEffect : GoodIn wsX0_bestOrder (wsV RX0 64 RX0 yX0_stepEffect wsX0_stepEffect) := goodIn_app (goodIn_of _ (by decide +kernel)) ggX0_bestOrder_X0_stepEffect
theorem dX0_bestOrder_0 : decode cX0_bestOrder 0 = .ok (.iconst 0, 1) := by decide +kernel
theorem dX0_bestOrder_1 : decode cX0_bestOrder 1 = .ok (.istore_n 2, 1) := by decide +kernel
theorem dX0_bestOrder_2 : decode cX0_bestOrder 2 = .ok (.aload_n 0, 1) := by decide +kernel
theorem dX0_bestOrder_3 : decode cX0_bestOrder 3 = .ok (.iconst 0, 1) := by decide +kernel
theorem dX0_bestOrder_4 : decode cX0_bestOrder 4 = .ok (.iload_n 1, 1) := by decide +kernel
theorem dX0_bestOrder_5 : decode cX0_bestOrder 5 = .ok (.invokestatic 60, 3) := by decide +kernel
theorem dX0_bestOrder_8 : decode cX0_bestOrder 8 = .ok (.iload_n 1, 1) := by decide +kernel
theorem dX0_bestOrder_9 : decode cX0_bestOrder 9 = .ok (.invokevirtual 64, 3) := by decide +kernel
theorem dX0_bestOrder_12 : decode cX0_bestOrder 12 = .ok (.istore_n 3, 1) := by decide +kernel
theorem dX0_bestOrder_13 : decode cX0_bestOrder 13 = .ok (.iconst 1, 1) := by decide +kernel
theorem dX0_bestOrder_14 : decode cX0_bestOrder 14 = .ok (.istore 4, 2) := by decide +kernel
theorem dX0_bestOrder_16 : decode cX0_bestOrder 16 = .ok (.iload 4, 2) := by decide +kernel
theorem dX0_bestOrder_18 : decode cX0_bestOrder 18 = .ok (.bipush 120, 2) := by decide +kernel
theorem dX0_bestOrder_20 : decode cX0_bestOrder 20 = .ok (.if_icmp .ge 34, 3) := by decide +kernel
theorem dX0_bestOrder_23 : decode cX0_bestOrder 23 = .ok (.aload_n 0, 1) := by decide +kernel
theorem dX0_bestOrder_24 : decode cX0_bestOrder 24 = .ok (.iload 4, 2) := by decide +kernel
theorem dX0_bestOrder_26 : decode cX0_bestOrder 26 = .ok (.iload_n 1, 1) := by decide +kernel
theorem dX0_bestOrder_27 : decode cX0_bestOrder 27 = .ok (.invokestatic 60, 3) := by decide +kernel
theorem dX0_bestOrder_30 : decode cX0_bestOrder 30 = .ok (.iload_n 1, 1) := by decide +kernel
theorem dX0_bestOrder_31 : decode cX0_bestOrder 31 = .ok (.invokevirtual 64, 3) := by decide +kernel
theorem dX0_bestOrder_34 : decode cX0_bestOrder 34 = .ok (.istore 5, 2) := by decide +kernel
theorem dX0_bestOrder_36 : decode cX0_bestOrder 36 = .ok (.iload 5, 2) := by decide +kernel
theorem dX0_bestOrder_38 : decode cX0_bestOrder 38 = .ok (.iload_n 3, 1) := by decide +kernel
theorem dX0_bestOrder_39 : decode cX0_bestOrder 39 = .ok (.if_icmp .le 9, 3) := by decide +kernel
theorem dX0_bestOrder_42 : decode cX0_bestOrder 42 = .ok (.iload 5, 2) := by decide +kernel
theorem dX0_bestOrder_44 : decode cX0_bestOrder 44 = .ok (.istore_n 3, 1) := by decide +kernel
theorem dX0_bestOrder_45 : decode cX0_bestOrder 45 = .ok (.iload 4, 2) := by decide +kernel
theorem dX0_bestOrder_47 : decode cX0_bestOrder 47 = .ok (.istore_n 2, 1) := by decide +kernel
theorem dX0_bestOrder_48 : decode cX0_bestOrder 48 = .ok (.iinc 4 1, 3) := by decide +kernel
theorem dX0_bestOrder_51 : decode cX0_bestOrder 51 = .ok (.goto (-35), 3) := by decide +kernel
theorem dX0_bestOrder_54 : decode cX0_bestOrder 54 = .ok (.iload_n 2, 1) := by decide +kernel
theorem dX0_bestOrder_55 : decode cX0_bestOrder 55 = .ok (.ireturn, 1) := by decide +kernel
set_option maxRecDepth 20000 in
theorem ggX0_moverAt_X2_isLeaf : GoodIn wsX0_moverAt wsX2_isLeaf := goodIn_r _ [10, 11, 12, 13, 14, 8, 15, 16, 40, 41, 42, 43, 44] (by decide +kernel) (by decide +kernel)
set_option maxRecDepth 20000 in
theorem gX0_moverAt_X2_isLeaf_n91 : GoodIn wsX0_moverAt (wsX2_isLeaf) := ggX0_moverAt_X2_isLeaf
set_option maxRecDepth 20000 in
theorem ggX0_moverAt_X2_leafValue : GoodIn wsX0_moverAt wsX2_leafValue := goodIn_r _ [19, 20, 21, 22, 8, 23, 24, 25, 26, 27, 28, 29, 30, 31, 40, 41, 42, 43, 44] (by decide +kernel) (by decide +kernel)
set_option maxRecDepth 20000 in
theorem gX0_moverAt_X2_leafValue_n95 : GoodIn wsX0_moverAt (wsX2_leafValue) := ggX0_moverAt_X2_leafValue
set_option maxRecDepth 20000 in
theorem ggX0_moverAt_X0_moversAheadOf : GoodIn wsX0_moverAt wsX0_moversAheadOf := goodIn_r _ [36, 1, 2, 7, 8, 9, 10, 11, 12, 13, 14, 15, 16, 37, 38, 39, 40, 41, 42, 43, 44] (by decide +kernel) (by decide +kernel)
set_option maxRecDepth 20000 in
theorem gX0_moverAt_X0_moversAheadOf : GoodIn wsX0_moverAt (wsV RX0 103 RX0 yX0_moversAheadOf wsX0_moversAheadOf) := goodIn_app (goodIn_of _ (by decide +kernel)) ggX0_moverAt_X0_moversAheadOf
theorem dX0_moverAt_0 : decode cX0_moverAt 0 = .ok (.iconst 1, 1) := by decide +kernel
theorem dX0_moverAt_1 : decode cX0_moverAt 1 = .ok (.istore 4, 2) := by decide +kernel
theorem dX0_moverAt_3 : decode cX0_moverAt 3 = .ok (.iload 4, 2) := by decide +kernel
theorem dX0_moverAt_5 : decode cX0_moverAt 5 = .ok (.aload_n 0, 1) := by decide +kernel
theorem dX0_moverAt_6 : decode cX0_moverAt 6 = .ok (.getfield 18, 3) := by decide +kernel
theorem dX0_moverAt_9 : decode cX0_moverAt 9 = .ok (.getfield 32, 3) := by decide +kernel
theorem dX0_moverAt_12 : decode cX0_moverAt 12 = .ok (.if_icmp .ge 52, 3) := by decide +kernel
theorem dX0_moverAt_15 : decode cX0_moverAt 15 = .ok (.aload_n 0, 1) := by decide +kernel
theorem dX0_moverAt_16 : decode cX0_moverAt 16 = .ok (.getfield 18, 3) := by decide +kernel
theorem dX0_moverAt_19 : decode cX0_moverAt 19 = .ok (.iload 4, 2) := by decide +kernel
theorem dX0_moverAt_21 : decode cX0_moverAt 21 = .ok (.invokevirtual 91, 3) := by decide +kernel
theorem dX0_moverAt_24 : decode cX0_moverAt 24 = .ok (.ifCond .eq 34, 3) := by decide +kernel
theorem dX0_moverAt_27 : decode cX0_moverAt 27 = .ok (.aload_n 0, 1) := by decide +kernel
theorem dX0_moverAt_28 : decode cX0_moverAt 28 = .ok (.getfield 15, 3) := by decide +kernel
theorem dX0_moverAt_31 : decode cX0_moverAt 31 = .ok (.iload 4, 2) := by decide +kernel
theorem dX0_moverAt_33 : decode cX0_moverAt 33 = .ok (.aload_n 0, 1) := by decide +kernel
theorem dX0_moverAt_34 : decode cX0_moverAt 34 = .ok (.getfield 18, 3) := by decide +kernel
theorem dX0_moverAt_37 : decode cX0_moverAt 37 = .ok (.iload 4, 2) := by decide +kernel
theorem dX0_moverAt_39 : decode cX0_moverAt 39 = .ok (.iload_n 2, 1) := by decide +kernel
theorem dX0_moverAt_40 : decode cX0_moverAt 40 = .ok (.invokevirtual 95, 3) := by decide +kernel
theorem dX0_moverAt_43 : decode cX0_moverAt 43 = .ok (.aload_n 0, 1) := by decide +kernel
theorem dX0_moverAt_44 : decode cX0_moverAt 44 = .ok (.getfield 18, 3) := by decide +kernel
theorem dX0_moverAt_47 : decode cX0_moverAt 47 = .ok (.iload 4, 2) := by decide +kernel
theorem dX0_moverAt_49 : decode cX0_moverAt 49 = .ok (.iload_n 1, 1) := by decide +kernel
theorem dX0_moverAt_50 : decode cX0_moverAt 50 = .ok (.invokevirtual 95, 3) := by decide +kernel
theorem dX0_moverAt_53 : decode cX0_moverAt 53 = .ok (.isub, 1) := by decide +kernel
theorem dX0_moverAt_54 : decode cX0_moverAt 54 = .ok (.invokestatic 98, 3) := by decide +kernel
theorem dX0_moverAt_57 : decode cX0_moverAt 57 = .ok (.iastore, 1) := by decide +kernel
theorem dX0_moverAt_58 : decode cX0_moverAt 58 = .ok (.iinc 4 1, 3) := by decide +kernel
theorem dX0_moverAt_61 : decode cX0_moverAt 61 = .ok (.goto (-58), 3) := by decide +kernel
theorem dX0_moverAt_64 : decode cX0_moverAt 64 = .ok (.iconst 1, 1) := by decide +kernel
theorem dX0_moverAt_65 : decode cX0_moverAt 65 = .ok (.istore 4, 2) := by decide +kernel
theorem dX0_moverAt_67 : decode cX0_moverAt 67 = .ok (.iload 4, 2) := by decide +kernel
theorem dX0_moverAt_69 : decode cX0_moverAt 69 = .ok (.aload_n 0, 1) := by decide +kernel
theorem dX0_moverAt_70 : decode cX0_moverAt 70 = .ok (.getfield 18, 3) := by decide +kernel
theorem dX0_moverAt_73 : decode cX0_moverAt 73 = .ok (.getfield 32, 3) := by decide +kernel
theorem dX0_moverAt_76 : decode cX0_moverAt 76 = .ok (.if_icmp .ge 34, 3) := by decide +kernel
theorem dX0_moverAt_79 : decode cX0_moverAt 79 = .ok (.aload_n 0, 1) := by decide +kernel
theorem dX0_moverAt_80 : decode cX0_moverAt 80 = .ok (.getfield 18, 3) := by decide +kernel
theorem dX0_moverAt_83 : decode cX0_moverAt 83 = .ok (.iload 4, 2) := by decide +kernel
theorem dX0_moverAt_85 : decode cX0_moverAt 85 = .ok (.invokevirtual 91, 3) := by decide +kernel
theorem dX0_moverAt_88 : decode cX0_moverAt 88 = .ok (.ifCond .eq 16, 3) := by decide +kernel
theorem dX0_moverAt_91 : decode cX0_moverAt 91 = .ok (.aload_n 0, 1) := by decide +kernel
theorem dX0_moverAt_92 : decode cX0_moverAt 92 = .ok (.iload 4, 2) := by decide +kernel
theorem dX0_moverAt_94 : decode cX0_moverAt 94 = .ok (.invokevirtual 103, 3) := by decide +kernel
theorem dX0_moverAt_97 : decode cX0_moverAt 97 = .ok (.iload_n 3, 1) := by decide +kernel
theorem dX0_moverAt_98 : decode cX0_moverAt 98 = .ok (.if_icmp .ne 6, 3) := by decide +kernel
theorem dX0_moverAt_101 : decode cX0_moverAt 101 = .ok (.iload 4, 2) := by decide +kernel
theorem dX0_moverAt_103 : decode cX0_moverAt 103 = .ok (.ireturn, 1) := by decide +kernel
theorem dX0_moverAt_104 : decode cX0_moverAt 104 = .ok (.iinc 4 1, 3) := by decide +kernel
theorem dX0_moverAt_107 : decode cX0_moverAt 107 = .ok (.goto (-40), 3) := by decide +kernel
theorem dX0_moverAt_110 : decode cX0_moverAt 110 = .ok (.iconst (-1), 1) := by decide +kernel
theorem dX0_moverAt_111 : decode cX0_moverAt 111 = .ok (.ireturn, 1) := by decide +kernel
set_option maxRecDepth 20000 in
theorem ggX0_moversAheadOf_X2_isLeaf : GoodIn wsX0_moversAheadOf wsX2_isLeaf := goodIn_r _ [6, 7, 8, 9, 10, 4, 11, 12, 16, 17, 18, 19, 20] (by decide +kernel) (by decide +kernel)
set_option maxRecDepth 20000 in
theorem gX0_moversAheadOf_X2_isLeaf_n91 : GoodIn wsX0_moversAheadOf (wsX2_isLeaf) := ggX0_moversAheadOf_X2_isLeaf
theorem dX0_moversAheadOf_0 : decode cX0_moversAheadOf 0 = .ok (.iconst 0, 1) := by decide +kernel
theorem dX0_moversAheadOf_1 : decode cX0_moversAheadOf 1 = .ok (.istore_n 2, 1) := by decide +kernel
theorem dX0_moversAheadOf_2 : decode cX0_moversAheadOf 2 = .ok (.iconst 1, 1) := by decide +kernel
theorem dX0_moversAheadOf_3 : decode cX0_moversAheadOf 3 = .ok (.istore_n 3, 1) := by decide +kernel
theorem dX0_moversAheadOf_4 : decode cX0_moversAheadOf 4 = .ok (.iload_n 3, 1) := by decide +kernel
theorem dX0_moversAheadOf_5 : decode cX0_moversAheadOf 5 = .ok (.aload_n 0, 1) := by decide +kernel
theorem dX0_moversAheadOf_6 : decode cX0_moversAheadOf 6 = .ok (.getfield 18, 3) := by decide +kernel
theorem dX0_moversAheadOf_9 : decode cX0_moversAheadOf 9 = .ok (.getfield 32, 3) := by decide +kernel
theorem dX0_moversAheadOf_12 : decode cX0_moversAheadOf 12 = .ok (.if_icmp .ge 82, 3) := by decide +kernel
theorem dX0_moversAheadOf_15 : decode cX0_moversAheadOf 15 = .ok (.aload_n 0, 1) := by decide +kernel
theorem dX0_moversAheadOf_16 : decode cX0_moversAheadOf 16 = .ok (.getfield 15, 3) := by decide +kernel
theorem dX0_moversAheadOf_19 : decode cX0_moversAheadOf 19 = .ok (.iload_n 3, 1) := by decide +kernel
theorem dX0_moversAheadOf_20 : decode cX0_moversAheadOf 20 = .ok (.iaload, 1) := by decide +kernel
theorem dX0_moversAheadOf_21 : decode cX0_moversAheadOf 21 = .ok (.aload_n 0, 1) := by decide +kernel
theorem dX0_moversAheadOf_22 : decode cX0_moversAheadOf 22 = .ok (.getfield 15, 3) := by decide +kernel
theorem dX0_moversAheadOf_25 : decode cX0_moversAheadOf 25 = .ok (.iload_n 1, 1) := by decide +kernel
theorem dX0_moversAheadOf_26 : decode cX0_moversAheadOf 26 = .ok (.iaload, 1) := by decide +kernel
theorem dX0_moversAheadOf_27 : decode cX0_moversAheadOf 27 = .ok (.if_icmp .le 7, 3) := by decide +kernel
theorem dX0_moversAheadOf_30 : decode cX0_moversAheadOf 30 = .ok (.iconst 1, 1) := by decide +kernel
theorem dX0_moversAheadOf_31 : decode cX0_moversAheadOf 31 = .ok (.goto 4, 3) := by decide +kernel
theorem dX0_moversAheadOf_34 : decode cX0_moversAheadOf 34 = .ok (.iconst 0, 1) := by decide +kernel
theorem dX0_moversAheadOf_35 : decode cX0_moversAheadOf 35 = .ok (.istore 4, 2) := by decide +kernel
theorem dX0_moversAheadOf_37 : decode cX0_moversAheadOf 37 = .ok (.aload_n 0, 1) := by decide +kernel
theorem dX0_moversAheadOf_38 : decode cX0_moversAheadOf 38 = .ok (.getfield 15, 3) := by decide +kernel
theorem dX0_moversAheadOf_41 : decode cX0_moversAheadOf 41 = .ok (.iload_n 3, 1) := by decide +kernel
theorem dX0_moversAheadOf_42 : decode cX0_moversAheadOf 42 = .ok (.iaload, 1) := by decide +kernel
theorem dX0_moversAheadOf_43 : decode cX0_moversAheadOf 43 = .ok (.aload_n 0, 1) := by decide +kernel
theorem dX0_moversAheadOf_44 : decode cX0_moversAheadOf 44 = .ok (.getfield 15, 3) := by decide +kernel
theorem dX0_moversAheadOf_47 : decode cX0_moversAheadOf 47 = .ok (.iload_n 1, 1) := by decide +kernel
theorem dX0_moversAheadOf_48 : decode cX0_moversAheadOf 48 = .ok (.iaload, 1) := by decide +kernel
theorem dX0_moversAheadOf_49 : decode cX0_moversAheadOf 49 = .ok (.if_icmp .ne 12, 3) := by decide +kernel
theorem dX0_moversAheadOf_52 : decode cX0_moversAheadOf 52 = .ok (.iload_n 3, 1) := by decide +kernel
theorem dX0_moversAheadOf_53 : decode cX0_moversAheadOf 53 = .ok (.iload_n 1, 1) := by decide +kernel
theorem dX0_moversAheadOf_54 : decode cX0_moversAheadOf 54 = .ok (.if_icmp .ge 7, 3) := by decide +kernel
theorem dX0_moversAheadOf_57 : decode cX0_moversAheadOf 57 = .ok (.iconst 1, 1) := by decide +kernel
theorem dX0_moversAheadOf_58 : decode cX0_moversAheadOf 58 = .ok (.goto 4, 3) := by decide +kernel
theorem dX0_moversAheadOf_61 : decode cX0_moversAheadOf 61 = .ok (.iconst 0, 1) := by decide +kernel
theorem dX0_moversAheadOf_62 : decode cX0_moversAheadOf 62 = .ok (.istore 5, 2) := by decide +kernel
theorem dX0_moversAheadOf_64 : decode cX0_moversAheadOf 64 = .ok (.aload_n 0, 1) := by decide +kernel
theorem dX0_moversAheadOf_65 : decode cX0_moversAheadOf 65 = .ok (.getfield 18, 3) := by decide +kernel
theorem dX0_moversAheadOf_68 : decode cX0_moversAheadOf 68 = .ok (.iload_n 3, 1) := by decide +kernel
theorem dX0_moversAheadOf_69 : decode cX0_moversAheadOf 69 = .ok (.invokevirtual 91, 3) := by decide +kernel
theorem dX0_moversAheadOf_72 : decode cX0_moversAheadOf 72 = .ok (.ifCond .eq 16, 3) := by decide +kernel
theorem dX0_moversAheadOf_75 : decode cX0_moversAheadOf 75 = .ok (.iload 4, 2) := by decide +kernel
theorem dX0_moversAheadOf_77 : decode cX0_moversAheadOf 77 = .ok (.ifCond .ne 8, 3) := by decide +kernel
theorem dX0_moversAheadOf_80 : decode cX0_moversAheadOf 80 = .ok (.iload 5, 2) := by decide +kernel
theorem dX0_moversAheadOf_82 : decode cX0_moversAheadOf 82 = .ok (.ifCond .eq 6, 3) := by decide +kernel
theorem dX0_moversAheadOf_85 : decode cX0_moversAheadOf 85 = .ok (.iinc 2 1, 3) := by decide +kernel
theorem dX0_moversAheadOf_88 : decode cX0_moversAheadOf 88 = .ok (.iinc 3 1, 3) := by decide +kernel
theorem dX0_moversAheadOf_91 : decode cX0_moversAheadOf 91 = .ok (.goto (-87), 3) := by decide +kernel
theorem dX0_moversAheadOf_94 : decode cX0_moversAheadOf 94 = .ok (.iload_n 2, 1) := by decide +kernel
theorem dX0_moversAheadOf_95 : decode cX0_moversAheadOf 95 = .ok (.ireturn, 1) := by decide +kernel
set_option maxRecDepth 20000 in
theorem ggX0_greatestGroup_X2_isGroup : GoodIn wsX0_greatestGroup wsX2_isGroup := goodIn_r _ [9, 10, 11, 12, 13, 7, 14, 15, 51, 52, 53, 54, 55] (by decide +kernel) (by decide +kernel)
set_option maxRecDepth 20000 in
theorem gX0_greatestGroup_X2_isGroup_n106 : GoodIn wsX0_greatestGroup (wsX2_isGroup) := ggX0_greatestGroup_X2_isGroup
set_option maxRecDepth 20000 in
theorem ggX0_greatestGroup_X2_nodeValue : GoodIn wsX0_greatestGroup wsX2_nodeValue := goodIn_r _ [18, 15, 19, 20, 21, 7, 22, 23, 24, 25, 26, 10, 11, 12, 13, 14, 27, 28, 29, 30, 31, 32, 33, 34, 35, 36, 37, 38, 39, 40, 41, 42, 43, 44, 45, 46, 47, 51, 52, 53, 54, 55] (by decide +kernel) (by decide +kernel)
set_option maxRecDepth 20000 in
theorem gX0_greatestGroup_X2_nodeValue_n109 : GoodIn wsX0_greatestGroup (wsX2_nodeValue) := ggX0_greatestGroup_X2_nodeValue
theorem dX0_greatestGroup_0 : decode cX0_greatestGroup 0 = .ok (.bipush (-2), 2) := by decide +kernel
theorem dX0_greatestGroup_2 : decode cX0_greatestGroup 2 = .ok (.istore_n 3, 1) := by decide +kernel
theorem dX0_greatestGroup_3 : decode cX0_greatestGroup 3 = .ok (.iconst (-1), 1) := by decide +kernel
theorem dX0_greatestGroup_4 : decode cX0_greatestGroup 4 = .ok (.istore 4, 2) := by decide +kernel
theorem dX0_greatestGroup_6 : decode cX0_greatestGroup 6 = .ok (.iconst 1, 1) := by decide +kernel
theorem dX0_greatestGroup_7 : decode cX0_greatestGroup 7 = .ok (.istore 5, 2) := by decide +kernel
theorem dX0_greatestGroup_9 : decode cX0_greatestGroup 9 = .ok (.iload 5, 2) := by decide +kernel
theorem dX0_greatestGroup_11 : decode cX0_greatestGroup 11 = .ok (.aload_n 0, 1) := by decide +kernel
theorem dX0_greatestGroup_12 : decode cX0_greatestGroup 12 = .ok (.getfield 18, 3) := by decide +kernel
theorem dX0_greatestGroup_15 : decode cX0_greatestGroup 15 = .ok (.getfield 32, 3) := by decide +kernel
theorem dX0_greatestGroup_18 : decode cX0_greatestGroup 18 = .ok (.if_icmp .ge 61, 3) := by decide +kernel
theorem dX0_greatestGroup_21 : decode cX0_greatestGroup 21 = .ok (.aload_n 0, 1) := by decide +kernel
theorem dX0_greatestGroup_22 : decode cX0_greatestGroup 22 = .ok (.getfield 18, 3) := by decide +kernel
theorem dX0_greatestGroup_25 : decode cX0_greatestGroup 25 = .ok (.iload 5, 2) := by decide +kernel
theorem dX0_greatestGroup_27 : decode cX0_greatestGroup 27 = .ok (.invokevirtual 106, 3) := by decide +kernel
theorem dX0_greatestGroup_30 : decode cX0_greatestGroup 30 = .ok (.ifCond .eq 43, 3) := by decide +kernel
theorem dX0_greatestGroup_33 : decode cX0_greatestGroup 33 = .ok (.aload_n 0, 1) := by decide +kernel
theorem dX0_greatestGroup_34 : decode cX0_greatestGroup 34 = .ok (.getfield 18, 3) := by decide +kernel
theorem dX0_greatestGroup_37 : decode cX0_greatestGroup 37 = .ok (.iload 5, 2) := by decide +kernel
theorem dX0_greatestGroup_39 : decode cX0_greatestGroup 39 = .ok (.iload_n 2, 1) := by decide +kernel
theorem dX0_greatestGroup_40 : decode cX0_greatestGroup 40 = .ok (.invokevirtual 109, 3) := by decide +kernel
theorem dX0_greatestGroup_43 : decode cX0_greatestGroup 43 = .ok (.aload_n 0, 1) := by decide +kernel
theorem dX0_greatestGroup_44 : decode cX0_greatestGroup 44 = .ok (.getfield 18, 3) := by decide +kernel
theorem dX0_greatestGroup_47 : decode cX0_greatestGroup 47 = .ok (.iload 5, 2) := by decide +kernel
theorem dX0_greatestGroup_49 : decode cX0_greatestGroup 49 = .ok (.iload_n 1, 1) := by decide +kernel
theorem dX0_greatestGroup_50 : decode cX0_greatestGroup 50 = .ok (.invokevirtual 109, 3) := by decide +kernel
theorem dX0_greatestGroup_53 : decode cX0_greatestGroup 53 = .ok (.isub, 1) := by decide +kernel
theorem dX0_greatestGroup_54 : decode cX0_greatestGroup 54 = .ok (.invokestatic 98, 3) := by decide +kernel
theorem dX0_greatestGroup_57 : decode cX0_greatestGroup 57 = .ok (.istore 6, 2) := by decide +kernel
theorem dX0_greatestGroup_59 : decode cX0_greatestGroup 59 = .ok (.iload 6, 2) := by decide +kernel
theorem dX0_greatestGroup_61 : decode cX0_greatestGroup 61 = .ok (.iload 4, 2) := by decide +kernel
theorem dX0_greatestGroup_63 : decode cX0_greatestGroup 63 = .ok (.if_icmp .le 10, 3) := by decide +kernel
theorem dX0_greatestGroup_66 : decode cX0_greatestGroup 66 = .ok (.iload 6, 2) := by decide +kernel
theorem dX0_greatestGroup_68 : decode cX0_greatestGroup 68 = .ok (.istore 4, 2) := by decide +kernel
theorem dX0_greatestGroup_70 : decode cX0_greatestGroup 70 = .ok (.iload 5, 2) := by decide +kernel
theorem dX0_greatestGroup_72 : decode cX0_greatestGroup 72 = .ok (.istore_n 3, 1) := by decide +kernel
theorem dX0_greatestGroup_73 : decode cX0_greatestGroup 73 = .ok (.iinc 5 1, 3) := by decide +kernel
theorem dX0_greatestGroup_76 : decode cX0_greatestGroup 76 = .ok (.goto (-67), 3) := by decide +kernel
theorem dX0_greatestGroup_79 : decode cX0_greatestGroup 79 = .ok (.iload_n 3, 1) := by decide +kernel
theorem dX0_greatestGroup_80 : decode cX0_greatestGroup 80 = .ok (.ireturn, 1) := by decide +kernel
theorem dX1_init_0 : decode cX1_init 0 = .ok (.aload_n 0, 1) := by decide +kernel
theorem dX1_init_1 : decode cX1_init 1 = .ok (.invokespecial 3, 3) := by decide +kernel
theorem dX1_init_4 : decode cX1_init 4 = .ok (.aload_n 0, 1) := by decide +kernel
theorem dX1_init_5 : decode cX1_init 5 = .ok (.bipush 10, 2) := by decide +kernel
theorem dX1_init_7 : decode cX1_init 7 = .ok (.newarray .int, 2) := by decide +kernel
theorem dX1_init_9 : decode cX1_init 9 = .ok (.putfield 9, 3) := by decide +kernel
theorem dX1_init_12 : decode cX1_init 12 = .ok (.aload_n 0, 1) := by decide +kernel
theorem dX1_init_13 : decode cX1_init 13 = .ok (.bipush 10, 2) := by decide +kernel
theorem dX1_init_15 : decode cX1_init 15 = .ok (.newarray .int, 2) := by decide +kernel
theorem dX1_init_17 : decode cX1_init 17 = .ok (.putfield 15, 3) := by decide +kernel
theorem dX1_init_20 : decode cX1_init 20 = .ok (.aload_n 0, 1) := by decide +kernel
theorem dX1_init_21 : decode cX1_init 21 = .ok (.bipush 10, 2) := by decide +kernel
theorem dX1_init_23 : decode cX1_init 23 = .ok (.newarray .int, 2) := by decide +kernel
theorem dX1_init_25 : decode cX1_init 25 = .ok (.putfield 18, 3) := by decide +kernel
theorem dX1_init_28 : decode cX1_init 28 = .ok (.aload_n 0, 1) := by decide +kernel
theorem dX1_init_29 : decode cX1_init 29 = .ok (.sipush 1000, 3) := by decide +kernel
theorem dX1_init_32 : decode cX1_init 32 = .ok (.newarray .int, 2) := by decide +kernel
theorem dX1_init_34 : decode cX1_init 34 = .ok (.putfield 23, 3) := by decide +kernel
theorem dX1_init_37 : decode cX1_init 37 = .ok (.aload_n 0, 1) := by decide +kernel
theorem dX1_init_38 : decode cX1_init 38 = .ok (.iconst 0, 1) := by decide +kernel
theorem dX1_init_39 : decode cX1_init 39 = .ok (.putfield 26, 3) := by decide +kernel
theorem dX1_init_42 : decode cX1_init 42 = .ok (.aload_n 0, 1) := by decide +kernel
theorem dX1_init_43 : decode cX1_init 43 = .ok (.iconst 0, 1) := by decide +kernel
theorem dX1_init_44 : decode cX1_init 44 = .ok (.putfield 30, 3) := by decide +kernel
theorem dX1_init_47 : decode cX1_init 47 = .ok (.aload_n 0, 1) := by decide +kernel
theorem dX1_init_48 : decode cX1_init 48 = .ok (.aload_n 1, 1) := by decide +kernel
theorem dX1_init_49 : decode cX1_init 49 = .ok (.putfield 33, 3) := by decide +kernel
theorem dX1_init_52 : decode cX1_init 52 = .ok (.return_, 1) := by decide +kernel
theorem dX1_forget_0 : decode cX1_forget 0 = .ok (.aload_n 0, 1) := by decide +kernel
theorem dX1_forget_1 : decode cX1_forget 1 = .ok (.iconst 0, 1) := by decide +kernel
theorem dX1_forget_2 : decode cX1_forget 2 = .ok (.putfield 30, 3) := by decide +kernel
theorem dX1_forget_5 : decode cX1_forget 5 = .ok (.return_, 1) := by decide +kernel
set_option maxRecDepth 20000 in
theorem ggX1_keepScene_X1_keepAct : GoodIn wsX1_keepScene wsX1_keepAct := goodIn_r _ [12, 3, 13, 14, 15, 16, 17, 18, 19, 20, 21, 22, 23, 24, 25, 26] (by decide +kernel) (by decide +kernel)
set_option maxRecDepth 20000 in
theorem gX1_keepScene_X1_keepAct : GoodIn wsX1_keepScene (wsV RX1 37 RX1 yX1_keepAct wsX1_keepAct) := goodIn_app (goodIn_of _ (by decide +kernel)) ggX1_keepScene_X1_keepAct
theorem dX1_keepScene_0 : decode cX1_keepScene 0 = .ok (.aload_n 0, 1) := by decide +kernel
theorem dX1_keepScene_1 : decode cX1_keepScene 1 = .ok (.iconst 0, 1) := by decide +kernel
theorem dX1_keepScene_2 : decode cX1_keepScene 2 = .ok (.iload_n 1, 1) := by decide +kernel
theorem dX1_keepScene_3 : decode cX1_keepScene 3 = .ok (.invokevirtual 37, 3) := by decide +kernel
theorem dX1_keepScene_6 : decode cX1_keepScene 6 = .ok (.aload_n 0, 1) := by decide +kernel
theorem dX1_keepScene_7 : decode cX1_keepScene 7 = .ok (.getfield 33, 3) := by decide +kernel
theorem dX1_keepScene_10 : decode cX1_keepScene 10 = .ok (.getfield 41, 3) := by decide +kernel
theorem dX1_keepScene_13 : decode cX1_keepScene 13 = .ok (.iload_n 1, 1) := by decide +kernel
theorem dX1_keepScene_14 : decode cX1_keepScene 14 = .ok (.bipush 100, 2) := by decide +kernel
theorem dX1_keepScene_16 : decode cX1_keepScene 16 = .ok (.imul, 1) := by decide +kernel
theorem dX1_keepScene_17 : decode cX1_keepScene 17 = .ok (.aload_n 0, 1) := by decide +kernel
theorem dX1_keepScene_18 : decode cX1_keepScene 18 = .ok (.getfield 23, 3) := by decide +kernel
theorem dX1_keepScene_21 : decode cX1_keepScene 21 = .ok (.aload_n 0, 1) := by decide +kernel
theorem dX1_keepScene_22 : decode cX1_keepScene 22 = .ok (.getfield 26, 3) := by decide +kernel
theorem dX1_keepScene_25 : decode cX1_keepScene 25 = .ok (.bipush 100, 2) := by decide +kernel
theorem dX1_keepScene_27 : decode cX1_keepScene 27 = .ok (.imul, 1) := by decide +kernel
theorem dX1_keepScene_28 : decode cX1_keepScene 28 = .ok (.bipush 100, 2) := by decide +kernel
theorem dX1_keepScene_30 : decode cX1_keepScene 30 = .ok (.invokestatic 44, 3) := by decide +kernel
theorem dX1_keepScene_33 : decode cX1_keepScene 33 = .ok (.return_, 1) := by decide +kernel
set_option maxRecDepth 20000 in
theorem ggX1_keepParent_X1_keepAct : GoodIn wsX1_keepParent wsX1_keepAct := goodIn_r _ [8, 2, 9, 10, 11, 12, 13, 14, 15, 16, 17, 18, 19, 20, 21, 22] (by decide +kernel) (by decide +kernel)
set_option maxRecDepth 20000 in
theorem gX1_keepParent_X1_keepAct : GoodIn wsX1_keepParent (wsV RX1 37 RX1 yX1_keepAct wsX1_keepAct) := goodIn_app (goodIn_of _ (by decide +kernel)) ggX1_keepParent_X1_keepAct
theorem dX1_keepParent_0 : decode cX1_keepParent 0 = .ok (.aload_n 0, 1) := by decide +kernel
theorem dX1_keepParent_1 : decode cX1_keepParent 1 = .ok (.iconst 1, 1) := by decide +kernel
theorem dX1_keepParent_2 : decode cX1_keepParent 2 = .ok (.iload_n 1, 1) := by decide +kernel
theorem dX1_keepParent_3 : decode cX1_keepParent 3 = .ok (.invokevirtual 37, 3) := by decide +kernel
theorem dX1_keepParent_6 : decode cX1_keepParent 6 = .ok (.aload_n 0, 1) := by decide +kernel
theorem dX1_keepParent_7 : decode cX1_keepParent 7 = .ok (.getfield 18, 3) := by decide +kernel
theorem dX1_keepParent_10 : decode cX1_keepParent 10 = .ok (.aload_n 0, 1) := by decide +kernel
theorem dX1_keepParent_11 : decode cX1_keepParent 11 = .ok (.getfield 26, 3) := by decide +kernel
theorem dX1_keepParent_14 : decode cX1_keepParent 14 = .ok (.aload_n 0, 1) := by decide +kernel
theorem dX1_keepParent_15 : decode cX1_keepParent 15 = .ok (.getfield 33, 3) := by decide +kernel
theorem dX1_keepParent_18 : decode cX1_keepParent 18 = .ok (.getfield 50, 3) := by decide +kernel
theorem dX1_keepParent_21 : decode cX1_keepParent 21 = .ok (.iload_n 1, 1) := by decide +kernel
theorem dX1_keepParent_22 : decode cX1_keepParent 22 = .ok (.iaload, 1) := by decide +kernel
theorem dX1_keepParent_23 : decode cX1_keepParent 23 = .ok (.iastore, 1) := by decide +kernel
theorem dX1_keepParent_24 : decode cX1_keepParent 24 = .ok (.return_, 1) := by decide +kernel
set_option maxRecDepth 20000 in
theorem ggX1_keepGrowth_X1_keepAct : GoodIn wsX1_keepGrowth wsX1_keepAct := goodIn_r _ [5, 6, 7, 8, 9, 10, 11, 12, 13, 14, 15, 16, 17, 18, 19, 20] (by decide +kernel) (by decide +kernel)
set_option maxRecDepth 20000 in
theorem gX1_keepGrowth_X1_keepAct : GoodIn wsX1_keepGrowth (wsV RX1 37 RX1 yX1_keepAct wsX1_keepAct) := goodIn_app (goodIn_of _ (by decide +kernel)) ggX1_keepGrowth_X1_keepAct
theorem dX1_keepGrowth_0 : decode cX1_keepGrowth 0 = .ok (.aload_n 0, 1) := by decide +kernel
theorem dX1_keepGrowth_1 : decode cX1_keepGrowth 1 = .ok (.iconst 2, 1) := by decide +kernel
theorem dX1_keepGrowth_2 : decode cX1_keepGrowth 2 = .ok (.iconst (-1), 1) := by decide +kernel
theorem dX1_keepGrowth_3 : decode cX1_keepGrowth 3 = .ok (.invokevirtual 37, 3) := by decide +kernel
theorem dX1_keepGrowth_6 : decode cX1_keepGrowth 6 = .ok (.return_, 1) := by decide +kernel
theorem dX1_keepAct_0 : decode cX1_keepAct 0 = .ok (.aload_n 0, 1) := by decide +kernel
theorem dX1_keepAct_1 : decode cX1_keepAct 1 = .ok (.aload_n 0, 1) := by decide +kernel
theorem dX1_keepAct_2 : decode cX1_keepAct 2 = .ok (.getfield 26, 3) := by decide +kernel
theorem dX1_keepAct_5 : decode cX1_keepAct 5 = .ok (.iconst 1, 1) := by decide +kernel
theorem dX1_keepAct_6 : decode cX1_keepAct 6 = .ok (.iadd, 1) := by decide +kernel
theorem dX1_keepAct_7 : decode cX1_keepAct 7 = .ok (.bipush 10, 2) := by decide +kernel
theorem dX1_keepAct_9 : decode cX1_keepAct 9 = .ok (.irem, 1) := by decide +kernel
theorem dX1_keepAct_10 : decode cX1_keepAct 10 = .ok (.putfield 26, 3) := by decide +kernel
theorem dX1_keepAct_13 : decode cX1_keepAct 13 = .ok (.aload_n 0, 1) := by decide +kernel
theorem dX1_keepAct_14 : decode cX1_keepAct 14 = .ok (.aload_n 0, 1) := by decide +kernel
theorem dX1_keepAct_15 : decode cX1_keepAct 15 = .ok (.getfield 30, 3) := by decide +kernel
theorem dX1_keepAct_18 : decode cX1_keepAct 18 = .ok (.iconst 1, 1) := by decide +kernel
theorem dX1_keepAct_19 : decode cX1_keepAct 19 = .ok (.iadd, 1) := by decide +kernel
theorem dX1_keepAct_20 : decode cX1_keepAct 20 = .ok (.bipush 10, 2) := by decide +kernel
theorem dX1_keepAct_22 : decode cX1_keepAct 22 = .ok (.invokestatic 53, 3) := by decide +kernel
theorem dX1_keepAct_25 : decode cX1_keepAct 25 = .ok (.putfield 30, 3) := by decide +kernel
theorem dX1_keepAct_28 : decode cX1_keepAct 28 = .ok (.aload_n 0, 1) := by decide +kernel
theorem dX1_keepAct_29 : decode cX1_keepAct 29 = .ok (.getfield 9, 3) := by decide +kernel
theorem dX1_keepAct_32 : decode cX1_keepAct 32 = .ok (.aload_n 0, 1) := by decide +kernel
theorem dX1_keepAct_33 : decode cX1_keepAct 33 = .ok (.getfield 26, 3) := by decide +kernel
theorem dX1_keepAct_36 : decode cX1_keepAct 36 = .ok (.iload_n 1, 1) := by decide +kernel
theorem dX1_keepAct_37 : decode cX1_keepAct 37 = .ok (.iastore, 1) := by decide +kernel
theorem dX1_keepAct_38 : decode cX1_keepAct 38 = .ok (.aload_n 0, 1) := by decide +kernel
theorem dX1_keepAct_39 : decode cX1_keepAct 39 = .ok (.getfield 15, 3) := by decide +kernel
theorem dX1_keepAct_42 : decode cX1_keepAct 42 = .ok (.aload_n 0, 1) := by decide +kernel
theorem dX1_keepAct_43 : decode cX1_keepAct 43 = .ok (.getfield 26, 3) := by decide +kernel
theorem dX1_keepAct_46 : decode cX1_keepAct 46 = .ok (.iload_n 2, 1) := by decide +kernel
theorem dX1_keepAct_47 : decode cX1_keepAct 47 = .ok (.iastore, 1) := by decide +kernel
theorem dX1_keepAct_48 : decode cX1_keepAct 48 = .ok (.return_, 1) := by decide +kernel
set_option maxRecDepth 20000 in
theorem ggX1_takeBack_X2_dropLastLeaf : GoodIn wsX1_takeBack wsX2_dropLastLeaf := goodIn_r _ [15, 16, 24, 25, 26, 27, 28] (by decide +kernel) (by decide +kernel)
set_option maxRecDepth 20000 in
theorem gX1_takeBack_X2_dropLastLeaf_n59 : GoodIn wsX1_takeBack (wsX2_dropLastLeaf) := ggX1_takeBack_X2_dropLastLeaf
theorem dX1_takeBack_0 : decode cX1_takeBack 0 = .ok (.aload_n 0, 1) := by decide +kernel
theorem dX1_takeBack_1 : decode cX1_takeBack 1 = .ok (.getfield 15, 3) := by decide +kernel
theorem dX1_takeBack_4 : decode cX1_takeBack 4 = .ok (.aload_n 0, 1) := by decide +kernel
theorem dX1_takeBack_5 : decode cX1_takeBack 5 = .ok (.getfield 26, 3) := by decide +kernel
theorem dX1_takeBack_8 : decode cX1_takeBack 8 = .ok (.iaload, 1) := by decide +kernel
theorem dX1_takeBack_9 : decode cX1_takeBack 9 = .ok (.istore_n 1, 1) := by decide +kernel
theorem dX1_takeBack_10 : decode cX1_takeBack 10 = .ok (.aload_n 0, 1) := by decide +kernel
theorem dX1_takeBack_11 : decode cX1_takeBack 11 = .ok (.getfield 9, 3) := by decide +kernel
theorem dX1_takeBack_14 : decode cX1_takeBack 14 = .ok (.aload_n 0, 1) := by decide +kernel
theorem dX1_takeBack_15 : decode cX1_takeBack 15 = .ok (.getfield 26, 3) := by decide +kernel
theorem dX1_takeBack_18 : decode cX1_takeBack 18 = .ok (.iaload, 1) := by decide +kernel
theorem dX1_takeBack_19 : decode cX1_takeBack 19 = .ok (.ifCond .ne 33, 3) := by decide +kernel
theorem dX1_takeBack_22 : decode cX1_takeBack 22 = .ok (.aload_n 0, 1) := by decide +kernel
theorem dX1_takeBack_23 : decode cX1_takeBack 23 = .ok (.getfield 23, 3) := by decide +kernel
theorem dX1_takeBack_26 : decode cX1_takeBack 26 = .ok (.aload_n 0, 1) := by decide +kernel
theorem dX1_takeBack_27 : decode cX1_takeBack 27 = .ok (.getfield 26, 3) := by decide +kernel
theorem dX1_takeBack_30 : decode cX1_takeBack 30 = .ok (.bipush 100, 2) := by decide +kernel
theorem dX1_takeBack_32 : decode cX1_takeBack 32 = .ok (.imul, 1) := by decide +kernel
theorem dX1_takeBack_33 : decode cX1_takeBack 33 = .ok (.aload_n 0, 1) := by decide +kernel
theorem dX1_takeBack_34 : decode cX1_takeBack 34 = .ok (.getfield 33, 3) := by decide +kernel
theorem dX1_takeBack_37 : decode cX1_takeBack 37 = .ok (.getfield 41, 3) := by decide +kernel
theorem dX1_takeBack_40 : decode cX1_takeBack 40 = .ok (.iload_n 1, 1) := by decide +kernel
theorem dX1_takeBack_41 : decode cX1_takeBack 41 = .ok (.bipush 100, 2) := by decide +kernel
theorem dX1_takeBack_43 : decode cX1_takeBack 43 = .ok (.imul, 1) := by decide +kernel
theorem dX1_takeBack_44 : decode cX1_takeBack 44 = .ok (.bipush 100, 2) := by decide +kernel
theorem dX1_takeBack_46 : decode cX1_takeBack 46 = .ok (.invokestatic 44, 3) := by decide +kernel
theorem dX1_takeBack_49 : decode cX1_takeBack 49 = .ok (.goto 44, 3) := by decide +kernel
theorem dX1_takeBack_52 : decode cX1_takeBack 52 = .ok (.aload_n 0, 1) := by decide +kernel
theorem dX1_takeBack_53 : decode cX1_takeBack 53 = .ok (.getfield 9, 3) := by decide +kernel
theorem dX1_takeBack_56 : decode cX1_takeBack 56 = .ok (.aload_n 0, 1) := by decide +kernel
theorem dX1_takeBack_57 : decode cX1_takeBack 57 = .ok (.getfield 26, 3) := by decide +kernel
theorem dX1_takeBack_60 : decode cX1_takeBack 60 = .ok (.iaload, 1) := by decide +kernel
theorem dX1_takeBack_61 : decode cX1_takeBack 61 = .ok (.iconst 1, 1) := by decide +kernel
theorem dX1_takeBack_62 : decode cX1_takeBack 62 = .ok (.if_icmp .ne 24, 3) := by decide +kernel
theorem dX1_takeBack_65 : decode cX1_takeBack 65 = .ok (.aload_n 0, 1) := by decide +kernel
theorem dX1_takeBack_66 : decode cX1_takeBack 66 = .ok (.getfield 33, 3) := by decide +kernel
theorem dX1_takeBack_69 : decode cX1_takeBack 69 = .ok (.getfield 50, 3) := by decide +kernel
theorem dX1_takeBack_72 : decode cX1_takeBack 72 = .ok (.iload_n 1, 1) := by decide +kernel
theorem dX1_takeBack_73 : decode cX1_takeBack 73 = .ok (.aload_n 0, 1) := by decide +kernel
theorem dX1_takeBack_74 : decode cX1_takeBack 74 = .ok (.getfield 18, 3) := by decide +kernel
theorem dX1_takeBack_77 : decode cX1_takeBack 77 = .ok (.aload_n 0, 1) := by decide +kernel
theorem dX1_takeBack_78 : decode cX1_takeBack 78 = .ok (.getfield 26, 3) := by decide +kernel
theorem dX1_takeBack_81 : decode cX1_takeBack 81 = .ok (.iaload, 1) := by decide +kernel
theorem dX1_takeBack_82 : decode cX1_takeBack 82 = .ok (.iastore, 1) := by decide +kernel
theorem dX1_takeBack_83 : decode cX1_takeBack 83 = .ok (.goto 10, 3) := by decide +kernel
theorem dX1_takeBack_86 : decode cX1_takeBack 86 = .ok (.aload_n 0, 1) := by decide +kernel
theorem dX1_takeBack_87 : decode cX1_takeBack 87 = .ok (.getfield 33, 3) := by decide +kernel
theorem dX1_takeBack_90 : decode cX1_takeBack 90 = .ok (.invokevirtual 59, 3) := by decide +kernel
theorem dX1_takeBack_93 : decode cX1_takeBack 93 = .ok (.aload_n 0, 1) := by decide +kernel
theorem dX1_takeBack_94 : decode cX1_takeBack 94 = .ok (.aload_n 0, 1) := by decide +kernel
theorem dX1_takeBack_95 : decode cX1_takeBack 95 = .ok (.getfield 26, 3) := by decide +kernel
theorem dX1_takeBack_98 : decode cX1_takeBack 98 = .ok (.bipush 10, 2) := by decide +kernel
theorem dX1_takeBack_100 : decode cX1_takeBack 100 = .ok (.iadd, 1) := by decide +kernel
theorem dX1_takeBack_101 : decode cX1_takeBack 101 = .ok (.iconst 1, 1) := by decide +kernel
theorem dX1_takeBack_102 : decode cX1_takeBack 102 = .ok (.isub, 1) := by decide +kernel
theorem dX1_takeBack_103 : decode cX1_takeBack 103 = .ok (.bipush 10, 2) := by decide +kernel
theorem dX1_takeBack_105 : decode cX1_takeBack 105 = .ok (.irem, 1) := by decide +kernel
theorem dX1_takeBack_106 : decode cX1_takeBack 106 = .ok (.putfield 26, 3) := by decide +kernel
theorem dX1_takeBack_109 : decode cX1_takeBack 109 = .ok (.aload_n 0, 1) := by decide +kernel
theorem dX1_takeBack_110 : decode cX1_takeBack 110 = .ok (.dup, 1) := by decide +kernel
theorem dX1_takeBack_111 : decode cX1_takeBack 111 = .ok (.getfield 30, 3) := by decide +kernel
theorem dX1_takeBack_114 : decode cX1_takeBack 114 = .ok (.iconst 1, 1) := by decide +kernel
theorem dX1_takeBack_115 : decode cX1_takeBack 115 = .ok (.isub, 1) := by decide +kernel
theorem dX1_takeBack_116 : decode cX1_takeBack 116 = .ok (.putfield 30, 3) := by decide +kernel
theorem dX1_takeBack_119 : decode cX1_takeBack 119 = .ok (.return_, 1) := by decide +kernel
set_option maxRecDepth 20000 in
theorem ggX2_init_X2_clear : GoodIn wsX2_init wsX2_clear := goodIn_r _ [11, 12, 13, 14, 5, 15, 16, 17, 18, 19] (by decide +kernel) (by decide +kernel)
set_option maxRecDepth 20000 in
theorem gX2_init_X2_clear : GoodIn wsX2_init (wsV RX2 18 RX2 yX2_clear wsX2_clear) := goodIn_app (goodIn_of _ (by decide +kernel)) ggX2_init_X2_clear
theorem dX2_init_0 : decode cX2_init 0 = .ok (.aload_n 0, 1) := by decide +kernel
theorem dX2_init_1 : decode cX2_init 1 = .ok (.invokespecial 3, 3) := by decide +kernel
theorem dX2_init_4 : decode cX2_init 4 = .ok (.aload_n 0, 1) := by decide +kernel
theorem dX2_init_5 : decode cX2_init 5 = .ok (.bipush 20, 2) := by decide +kernel
theorem dX2_init_7 : decode cX2_init 7 = .ok (.newarray .int, 2) := by decide +kernel
theorem dX2_init_9 : decode cX2_init 9 = .ok (.putfield 9, 3) := by decide +kernel
theorem dX2_init_12 : decode cX2_init 12 = .ok (.aload_n 0, 1) := by decide +kernel
theorem dX2_init_13 : decode cX2_init 13 = .ok (.sipush 400, 3) := by decide +kernel
theorem dX2_init_16 : decode cX2_init 16 = .ok (.newarray .int, 2) := by decide +kernel
theorem dX2_init_18 : decode cX2_init 18 = .ok (.putfield 15, 3) := by decide +kernel
theorem dX2_init_21 : decode cX2_init 21 = .ok (.aload_n 0, 1) := by decide +kernel
theorem dX2_init_22 : decode cX2_init 22 = .ok (.iconst 1, 1) := by decide +kernel
theorem dX2_init_23 : decode cX2_init 23 = .ok (.invokevirtual 18, 3) := by decide +kernel
theorem dX2_init_26 : decode cX2_init 26 = .ok (.return_, 1) := by decide +kernel
theorem dX2_clear_0 : decode cX2_clear 0 = .ok (.aload_n 0, 1) := by decide +kernel
theorem dX2_clear_1 : decode cX2_clear 1 = .ok (.iload_n 1, 1) := by decide +kernel
theorem dX2_clear_2 : decode cX2_clear 2 = .ok (.putfield 22, 3) := by decide +kernel
theorem dX2_clear_5 : decode cX2_clear 5 = .ok (.aload_n 0, 1) := by decide +kernel
theorem dX2_clear_6 : decode cX2_clear 6 = .ok (.iconst 1, 1) := by decide +kernel
theorem dX2_clear_7 : decode cX2_clear 7 = .ok (.putfield 26, 3) := by decide +kernel
theorem dX2_clear_10 : decode cX2_clear 10 = .ok (.aload_n 0, 1) := by decide +kernel
theorem dX2_clear_11 : decode cX2_clear 11 = .ok (.iconst 1, 1) := by decide +kernel
theorem dX2_clear_12 : decode cX2_clear 12 = .ok (.putfield 29, 3) := by decide +kernel
theorem dX2_clear_15 : decode cX2_clear 15 = .ok (.aload_n 0, 1) := by decide +kernel
theorem dX2_clear_16 : decode cX2_clear 16 = .ok (.getfield 9, 3) := by decide +kernel
theorem dX2_clear_19 : decode cX2_clear 19 = .ok (.iconst 0, 1) := by decide +kernel
theorem dX2_clear_20 : decode cX2_clear 20 = .ok (.iconst (-1), 1) := by decide +kernel
theorem dX2_clear_21 : decode cX2_clear 21 = .ok (.iastore, 1) := by decide +kernel
theorem dX2_clear_22 : decode cX2_clear 22 = .ok (.return_, 1) := by decide +kernel
theorem dX2_takeFrom_0 : decode cX2_takeFrom 0 = .ok (.aload_n 1, 1) := by decide +kernel
theorem dX2_takeFrom_1 : decode cX2_takeFrom 1 = .ok (.getfield 9, 3) := by decide +kernel
theorem dX2_takeFrom_4 : decode cX2_takeFrom 4 = .ok (.iconst 0, 1) := by decide +kernel
theorem dX2_takeFrom_5 : decode cX2_takeFrom 5 = .ok (.aload_n 0, 1) := by decide +kernel
theorem dX2_takeFrom_6 : decode cX2_takeFrom 6 = .ok (.getfield 9, 3) := by decide +kernel
theorem dX2_takeFrom_9 : decode cX2_takeFrom 9 = .ok (.iconst 0, 1) := by decide +kernel
theorem dX2_takeFrom_10 : decode cX2_takeFrom 10 = .ok (.bipush 20, 2) := by decide +kernel
theorem dX2_takeFrom_12 : decode cX2_takeFrom 12 = .ok (.invokestatic 32, 3) := by decide +kernel
theorem dX2_takeFrom_15 : decode cX2_takeFrom 15 = .ok (.aload_n 1, 1) := by decide +kernel
theorem dX2_takeFrom_16 : decode cX2_takeFrom 16 = .ok (.getfield 15, 3) := by decide +kernel
theorem dX2_takeFrom_19 : decode cX2_takeFrom 19 = .ok (.iconst 0, 1) := by decide +kernel
theorem dX2_takeFrom_20 : decode cX2_takeFrom 20 = .ok (.aload_n 0, 1) := by decide +kernel
theorem dX2_takeFrom_21 : decode cX2_takeFrom 21 = .ok (.getfield 15, 3) := by decide +kernel
theorem dX2_takeFrom_24 : decode cX2_takeFrom 24 = .ok (.iconst 0, 1) := by decide +kernel
theorem dX2_takeFrom_25 : decode cX2_takeFrom 25 = .ok (.sipush 400, 3) := by decide +kernel
theorem dX2_takeFrom_28 : decode cX2_takeFrom 28 = .ok (.invokestatic 32, 3) := by decide +kernel
theorem dX2_takeFrom_31 : decode cX2_takeFrom 31 = .ok (.aload_n 0, 1) := by decide +kernel
theorem dX2_takeFrom_32 : decode cX2_takeFrom 32 = .ok (.aload_n 1, 1) := by decide +kernel
theorem dX2_takeFrom_33 : decode cX2_takeFrom 33 = .ok (.getfield 29, 3) := by decide +kernel
theorem dX2_takeFrom_36 : decode cX2_takeFrom 36 = .ok (.putfield 29, 3) := by decide +kernel
theorem dX2_takeFrom_39 : decode cX2_takeFrom 39 = .ok (.aload_n 0, 1) := by decide +kernel
theorem dX2_takeFrom_40 : decode cX2_takeFrom 40 = .ok (.aload_n 1, 1) := by decide +kernel
theorem dX2_takeFrom_41 : decode cX2_takeFrom 41 = .ok (.getfield 22, 3) := by decide +kernel
theorem dX2_takeFrom_44 : decode cX2_takeFrom 44 = .ok (.putfield 22, 3) := by decide +kernel
theorem dX2_takeFrom_47 : decode cX2_takeFrom 47 = .ok (.aload_n 0, 1) := by decide +kernel
theorem dX2_takeFrom_48 : decode cX2_takeFrom 48 = .ok (.aload_n 1, 1) := by decide +kernel
theorem dX2_takeFrom_49 : decode cX2_takeFrom 49 = .ok (.getfield 26, 3) := by decide +kernel
theorem dX2_takeFrom_52 : decode cX2_takeFrom 52 = .ok (.putfield 26, 3) := by decide +kernel
theorem dX2_takeFrom_55 : decode cX2_takeFrom 55 = .ok (.return_, 1) := by decide +kernel
theorem dX2_isScene_0 : decode cX2_isScene 0 = .ok (.iload_n 1, 1) := by decide +kernel
theorem dX2_isScene_1 : decode cX2_isScene 1 = .ok (.ifCond .lt 15, 3) := by decide +kernel
theorem dX2_isScene_4 : decode cX2_isScene 4 = .ok (.iload_n 1, 1) := by decide +kernel
theorem dX2_isScene_5 : decode cX2_isScene 5 = .ok (.aload_n 0, 1) := by decide +kernel
theorem dX2_isScene_6 : decode cX2_isScene 6 = .ok (.getfield 22, 3) := by decide +kernel
theorem dX2_isScene_9 : decode cX2_isScene 9 = .ok (.if_icmp .ge 7, 3) := by decide +kernel
theorem dX2_isScene_12 : decode cX2_isScene 12 = .ok (.iconst 1, 1) := by decide +kernel
theorem dX2_isScene_13 : decode cX2_isScene 13 = .ok (.goto 4, 3) := by decide +kernel
theorem dX2_isScene_16 : decode cX2_isScene 16 = .ok (.iconst 0, 1) := by decide +kernel
theorem dX2_isScene_17 : decode cX2_isScene 17 = .ok (.ireturn, 1) := by decide +kernel
theorem dX2_isNode_0 : decode cX2_isNode 0 = .ok (.iload_n 1, 1) := by decide +kernel
theorem dX2_isNode_1 : decode cX2_isNode 1 = .ok (.ifCond .lt 15, 3) := by decide +kernel
theorem dX2_isNode_4 : decode cX2_isNode 4 = .ok (.iload_n 1, 1) := by decide +kernel
theorem dX2_isNode_5 : decode cX2_isNode 5 = .ok (.aload_n 0, 1) := by decide +kernel
theorem dX2_isNode_6 : decode cX2_isNode 6 = .ok (.getfield 26, 3) := by decide +kernel
theorem dX2_isNode_9 : decode cX2_isNode 9 = .ok (.if_icmp .ge 7, 3) := by decide +kernel
theorem dX2_isNode_12 : decode cX2_isNode 12 = .ok (.iconst 1, 1) := by decide +kernel
theorem dX2_isNode_13 : decode cX2_isNode 13 = .ok (.goto 4, 3) := by decide +kernel
theorem dX2_isNode_16 : decode cX2_isNode 16 = .ok (.iconst 0, 1) := by decide +kernel
theorem dX2_isNode_17 : decode cX2_isNode 17 = .ok (.ireturn, 1) := by decide +kernel
set_option maxRecDepth 20000 in
theorem ggX2_isGroup_X2_isNode : GoodIn wsX2_isGroup wsX2_isNode := goodIn_r _ [6, 7, 8, 9, 10, 11, 12] (by decide +kernel) (by decide +kernel)
set_option maxRecDepth 20000 in
theorem gX2_isGroup_X2_isNode : GoodIn wsX2_isGroup (wsV RX2 38 RX2 yX2_isNode wsX2_isNode) := goodIn_app (goodIn_of _ (by decide +kernel)) ggX2_isGroup_X2_isNode
theorem dX2_isGroup_0 : decode cX2_isGroup 0 = .ok (.aload_n 0, 1) := by decide +kernel
theorem dX2_isGroup_1 : decode cX2_isGroup 1 = .ok (.iload_n 1, 1) := by decide +kernel
theorem dX2_isGroup_2 : decode cX2_isGroup 2 = .ok (.invokevirtual 38, 3) := by decide +kernel
theorem dX2_isGroup_5 : decode cX2_isGroup 5 = .ok (.ifCond .eq 18, 3) := by decide +kernel
theorem dX2_isGroup_8 : decode cX2_isGroup 8 = .ok (.aload_n 0, 1) := by decide +kernel
theorem dX2_isGroup_9 : decode cX2_isGroup 9 = .ok (.getfield 29, 3) := by decide +kernel
theorem dX2_isGroup_12 : decode cX2_isGroup 12 = .ok (.iload_n 1, 1) := by decide +kernel
theorem dX2_isGroup_13 : decode cX2_isGroup 13 = .ok (.ishr, 1) := by decide +kernel
theorem dX2_isGroup_14 : decode cX2_isGroup 14 = .ok (.iconst 1, 1) := by decide +kernel
theorem dX2_isGroup_15 : decode cX2_isGroup 15 = .ok (.iand, 1) := by decide +kernel
theorem dX2_isGroup_16 : decode cX2_isGroup 16 = .ok (.ifCond .eq 7, 3) := by decide +kernel
theorem dX2_isGroup_19 : decode cX2_isGroup 19 = .ok (.iconst 1, 1) := by decide +kernel
theorem dX2_isGroup_20 : decode cX2_isGroup 20 = .ok (.goto 4, 3) := by decide +kernel
theorem dX2_isGroup_23 : decode cX2_isGroup 23 = .ok (.iconst 0, 1) := by decide +kernel
theorem dX2_isGroup_24 : decode cX2_isGroup 24 = .ok (.ireturn, 1) := by decide +kernel
set_option maxRecDepth 20000 in
theorem ggX2_isLeaf_X2_isNode : GoodIn wsX2_isLeaf wsX2_isNode := goodIn_r _ [6, 7, 8, 9, 10, 11, 12] (by decide +kernel) (by decide +kernel)
set_option maxRecDepth 20000 in
theorem gX2_isLeaf_X2_isNode : GoodIn wsX2_isLeaf (wsV RX2 38 RX2 yX2_isNode wsX2_isNode) := goodIn_app (goodIn_of _ (by decide +kernel)) ggX2_isLeaf_X2_isNode
theorem dX2_isLeaf_0 : decode cX2_isLeaf 0 = .ok (.aload_n 0, 1) := by decide +kernel
theorem dX2_isLeaf_1 : decode cX2_isLeaf 1 = .ok (.iload_n 1, 1) := by decide +kernel
theorem dX2_isLeaf_2 : decode cX2_isLeaf 2 = .ok (.invokevirtual 38, 3) := by decide +kernel
theorem dX2_isLeaf_5 : decode cX2_isLeaf 5 = .ok (.ifCond .eq 18, 3) := by decide +kernel
theorem dX2_isLeaf_8 : decode cX2_isLeaf 8 = .ok (.aload_n 0, 1) := by decide +kernel
theorem dX2_isLeaf_9 : decode cX2_isLeaf 9 = .ok (.getfield 29, 3) := by decide +kernel
theorem dX2_isLeaf_12 : decode cX2_isLeaf 12 = .ok (.iload_n 1, 1) := by decide +kernel
theorem dX2_isLeaf_13 : decode cX2_isLeaf 13 = .ok (.ishr, 1) := by decide +kernel
theorem dX2_isLeaf_14 : decode cX2_isLeaf 14 = .ok (.iconst 1, 1) := by decide +kernel
theorem dX2_isLeaf_15 : decode cX2_isLeaf 15 = .ok (.iand, 1) := by decide +kernel
theorem dX2_isLeaf_16 : decode cX2_isLeaf 16 = .ok (.ifCond .ne 7, 3) := by decide +kernel
theorem dX2_isLeaf_19 : decode cX2_isLeaf 19 = .ok (.iconst 1, 1) := by decide +kernel
theorem dX2_isLeaf_20 : decode cX2_isLeaf 20 = .ok (.goto 4, 3) := by decide +kernel
theorem dX2_isLeaf_23 : decode cX2_isLeaf 23 = .ok (.iconst 0, 1) := by decide +kernel
theorem dX2_isLeaf_24 : decode cX2_isLeaf 24 = .ok (.ireturn, 1) := by decide +kernel
theorem dX2_addGroup_0 : decode cX2_addGroup 0 = .ok (.aload_n 0, 1) := by decide +kernel
theorem dX2_addGroup_1 : decode cX2_addGroup 1 = .ok (.getfield 26, 3) := by decide +kernel
theorem dX2_addGroup_4 : decode cX2_addGroup 4 = .ok (.bipush 20, 2) := by decide +kernel
theorem dX2_addGroup_6 : decode cX2_addGroup 6 = .ok (.if_icmp .ge 38, 3) := by decide +kernel
theorem dX2_addGroup_9 : decode cX2_addGroup 9 = .ok (.aload_n 0, 1) := by decide +kernel
theorem dX2_addGroup_10 : decode cX2_addGroup 10 = .ok (.getfield 9, 3) := by decide +kernel
theorem dX2_addGroup_13 : decode cX2_addGroup 13 = .ok (.aload_n 0, 1) := by decide +kernel
theorem dX2_addGroup_14 : decode cX2_addGroup 14 = .ok (.getfield 26, 3) := by decide +kernel
theorem dX2_addGroup_17 : decode cX2_addGroup 17 = .ok (.iload_n 1, 1) := by decide +kernel
theorem dX2_addGroup_18 : decode cX2_addGroup 18 = .ok (.iastore, 1) := by decide +kernel
theorem dX2_addGroup_19 : decode cX2_addGroup 19 = .ok (.aload_n 0, 1) := by decide +kernel
theorem dX2_addGroup_20 : decode cX2_addGroup 20 = .ok (.dup, 1) := by decide +kernel
theorem dX2_addGroup_21 : decode cX2_addGroup 21 = .ok (.getfield 29, 3) := by decide +kernel
theorem dX2_addGroup_24 : decode cX2_addGroup 24 = .ok (.iconst 1, 1) := by decide +kernel
theorem dX2_addGroup_25 : decode cX2_addGroup 25 = .ok (.aload_n 0, 1) := by decide +kernel
theorem dX2_addGroup_26 : decode cX2_addGroup 26 = .ok (.getfield 26, 3) := by decide +kernel
theorem dX2_addGroup_29 : decode cX2_addGroup 29 = .ok (.ishl, 1) := by decide +kernel
theorem dX2_addGroup_30 : decode cX2_addGroup 30 = .ok (.ior, 1) := by decide +kernel
theorem dX2_addGroup_31 : decode cX2_addGroup 31 = .ok (.putfield 29, 3) := by decide +kernel
theorem dX2_addGroup_34 : decode cX2_addGroup 34 = .ok (.aload_n 0, 1) := by decide +kernel
theorem dX2_addGroup_35 : decode cX2_addGroup 35 = .ok (.dup, 1) := by decide +kernel
theorem dX2_addGroup_36 : decode cX2_addGroup 36 = .ok (.getfield 26, 3) := by decide +kernel
theorem dX2_addGroup_39 : decode cX2_addGroup 39 = .ok (.iconst 1, 1) := by decide +kernel
theorem dX2_addGroup_40 : decode cX2_addGroup 40 = .ok (.iadd, 1) := by decide +kernel
theorem dX2_addGroup_41 : decode cX2_addGroup 41 = .ok (.putfield 26, 3) := by decide +kernel
theorem dX2_addGroup_44 : decode cX2_addGroup 44 = .ok (.return_, 1) := by decide +kernel
set_option maxRecDepth 20000 in
theorem ggX2_addLeaf_X2_putFactor : GoodIn wsX2_addLeaf wsX2_putFactor := goodIn_r _ [7, 8, 9, 10, 11, 12, 13] (by decide +kernel) (by decide +kernel)
set_option maxRecDepth 20000 in
theorem gX2_addLeaf_X2_putFactor : GoodIn wsX2_addLeaf (wsV RX2 45 RX2 yX2_putFactor wsX2_putFactor) := goodIn_app (goodIn_of _ (by decide +kernel)) ggX2_addLeaf_X2_putFactor
theorem dX2_addLeaf_0 : decode cX2_addLeaf 0 = .ok (.aload_n 0, 1) := by decide +kernel
theorem dX2_addLeaf_1 : decode cX2_addLeaf 1 = .ok (.getfield 26, 3) := by decide +kernel
theorem dX2_addLeaf_4 : decode cX2_addLeaf 4 = .ok (.bipush 20, 2) := by decide +kernel
theorem dX2_addLeaf_6 : decode cX2_addLeaf 6 = .ok (.if_icmp .lt 5, 3) := by decide +kernel
theorem dX2_addLeaf_9 : decode cX2_addLeaf 9 = .ok (.iconst (-1), 1) := by decide +kernel
theorem dX2_addLeaf_10 : decode cX2_addLeaf 10 = .ok (.ireturn, 1) := by decide +kernel
theorem dX2_addLeaf_11 : decode cX2_addLeaf 11 = .ok (.aload_n 0, 1) := by decide +kernel
theorem dX2_addLeaf_12 : decode cX2_addLeaf 12 = .ok (.getfield 26, 3) := by decide +kernel
theorem dX2_addLeaf_15 : decode cX2_addLeaf 15 = .ok (.istore_n 2, 1) := by decide +kernel
theorem dX2_addLeaf_16 : decode cX2_addLeaf 16 = .ok (.aload_n 0, 1) := by decide +kernel
theorem dX2_addLeaf_17 : decode cX2_addLeaf 17 = .ok (.dup, 1) := by decide +kernel
theorem dX2_addLeaf_18 : decode cX2_addLeaf 18 = .ok (.getfield 26, 3) := by decide +kernel
theorem dX2_addLeaf_21 : decode cX2_addLeaf 21 = .ok (.iconst 1, 1) := by decide +kernel
theorem dX2_addLeaf_22 : decode cX2_addLeaf 22 = .ok (.iadd, 1) := by decide +kernel
theorem dX2_addLeaf_23 : decode cX2_addLeaf 23 = .ok (.putfield 26, 3) := by decide +kernel
theorem dX2_addLeaf_26 : decode cX2_addLeaf 26 = .ok (.aload_n 0, 1) := by decide +kernel
theorem dX2_addLeaf_27 : decode cX2_addLeaf 27 = .ok (.getfield 9, 3) := by decide +kernel
theorem dX2_addLeaf_30 : decode cX2_addLeaf 30 = .ok (.iload_n 2, 1) := by decide +kernel
theorem dX2_addLeaf_31 : decode cX2_addLeaf 31 = .ok (.iload_n 1, 1) := by decide +kernel
theorem dX2_addLeaf_32 : decode cX2_addLeaf 32 = .ok (.iastore, 1) := by decide +kernel
theorem dX2_addLeaf_33 : decode cX2_addLeaf 33 = .ok (.iconst 0, 1) := by decide +kernel
theorem dX2_addLeaf_34 : decode cX2_addLeaf 34 = .ok (.istore_n 3, 1) := by decide +kernel
theorem dX2_addLeaf_35 : decode cX2_addLeaf 35 = .ok (.iload_n 3, 1) := by decide +kernel
theorem dX2_addLeaf_36 : decode cX2_addLeaf 36 = .ok (.iconst 4, 1) := by decide +kernel
theorem dX2_addLeaf_37 : decode cX2_addLeaf 37 = .ok (.if_icmp .ge 38, 3) := by decide +kernel
theorem dX2_addLeaf_40 : decode cX2_addLeaf 40 = .ok (.iconst 0, 1) := by decide +kernel
theorem dX2_addLeaf_41 : decode cX2_addLeaf 41 = .ok (.istore 4, 2) := by decide +kernel
theorem dX2_addLeaf_43 : decode cX2_addLeaf 43 = .ok (.iload 4, 2) := by decide +kernel
theorem dX2_addLeaf_45 : decode cX2_addLeaf 45 = .ok (.iconst 5, 1) := by decide +kernel
theorem dX2_addLeaf_46 : decode cX2_addLeaf 46 = .ok (.if_icmp .ge 23, 3) := by decide +kernel
theorem dX2_addLeaf_49 : decode cX2_addLeaf 49 = .ok (.aload_n 0, 1) := by decide +kernel
theorem dX2_addLeaf_50 : decode cX2_addLeaf 50 = .ok (.iload_n 2, 1) := by decide +kernel
theorem dX2_addLeaf_51 : decode cX2_addLeaf 51 = .ok (.iload_n 3, 1) := by decide +kernel
theorem dX2_addLeaf_52 : decode cX2_addLeaf 52 = .ok (.iload 4, 2) := by decide +kernel
theorem dX2_addLeaf_54 : decode cX2_addLeaf 54 = .ok (.getstatic 42, 3) := by decide +kernel
theorem dX2_addLeaf_57 : decode cX2_addLeaf 57 = .ok (.iload 4, 2) := by decide +kernel
theorem dX2_addLeaf_59 : decode cX2_addLeaf 59 = .ok (.iaload, 1) := by decide +kernel
theorem dX2_addLeaf_60 : decode cX2_addLeaf 60 = .ok (.invokevirtual 45, 3) := by decide +kernel
theorem dX2_addLeaf_63 : decode cX2_addLeaf 63 = .ok (.iinc 4 1, 3) := by decide +kernel
theorem dX2_addLeaf_66 : decode cX2_addLeaf 66 = .ok (.goto (-23), 3) := by decide +kernel
theorem dX2_addLeaf_69 : decode cX2_addLeaf 69 = .ok (.iinc 3 1, 3) := by decide +kernel
theorem dX2_addLeaf_72 : decode cX2_addLeaf 72 = .ok (.goto (-37), 3) := by decide +kernel
theorem dX2_addLeaf_75 : decode cX2_addLeaf 75 = .ok (.iload_n 2, 1) := by decide +kernel
theorem dX2_addLeaf_76 : decode cX2_addLeaf 76 = .ok (.ireturn, 1) := by decide +kernel
theorem dX2_dropLastLeaf_0 : decode cX2_dropLastLeaf 0 = .ok (.aload_n 0, 1) := by decide +kernel
theorem dX2_dropLastLeaf_1 : decode cX2_dropLastLeaf 1 = .ok (.getfield 26, 3) := by decide +kernel
theorem dX2_dropLastLeaf_4 : decode cX2_dropLastLeaf 4 = .ok (.iconst 1, 1) := by decide +kernel
theorem dX2_dropLastLeaf_5 : decode cX2_dropLastLeaf 5 = .ok (.if_icmp .le 13, 3) := by decide +kernel
theorem dX2_dropLastLeaf_8 : decode cX2_dropLastLeaf 8 = .ok (.aload_n 0, 1) := by decide +kernel
theorem dX2_dropLastLeaf_9 : decode cX2_dropLastLeaf 9 = .ok (.dup, 1) := by decide +kernel
theorem dX2_dropLastLeaf_10 : decode cX2_dropLastLeaf 10 = .ok (.getfield 26, 3) := by decide +kernel
theorem dX2_dropLastLeaf_13 : decode cX2_dropLastLeaf 13 = .ok (.iconst 1, 1) := by decide +kernel
theorem dX2_dropLastLeaf_14 : decode cX2_dropLastLeaf 14 = .ok (.isub, 1) := by decide +kernel
theorem dX2_dropLastLeaf_15 : decode cX2_dropLastLeaf 15 = .ok (.putfield 26, 3) := by decide +kernel
theorem dX2_dropLastLeaf_18 : decode cX2_dropLastLeaf 18 = .ok (.return_, 1) := by decide +kernel
set_option maxRecDepth 20000 in
theorem ggX2_isWithin_X2_isNode : GoodIn wsX2_isWithin wsX2_isNode := goodIn_r _ [6, 7, 8, 9, 10, 11, 12] (by decide +kernel) (by decide +kernel)
set_option maxRecDepth 20000 in
theorem gX2_isWithin_X2_isNode : GoodIn wsX2_isWithin (wsV RX2 38 RX2 yX2_isNode wsX2_isNode) := goodIn_app (goodIn_of _ (by decide +kernel)) ggX2_isWithin_X2_isNode
theorem dX2_isWithin_0 : decode cX2_isWithin 0 = .ok (.iload_n 1, 1) := by decide +kernel
theorem dX2_isWithin_1 : decode cX2_isWithin 1 = .ok (.istore_n 3, 1) := by decide +kernel
theorem dX2_isWithin_2 : decode cX2_isWithin 2 = .ok (.iconst 0, 1) := by decide +kernel
theorem dX2_isWithin_3 : decode cX2_isWithin 3 = .ok (.istore 4, 2) := by decide +kernel
theorem dX2_isWithin_5 : decode cX2_isWithin 5 = .ok (.iload 4, 2) := by decide +kernel
theorem dX2_isWithin_7 : decode cX2_isWithin 7 = .ok (.bipush 20, 2) := by decide +kernel
theorem dX2_isWithin_9 : decode cX2_isWithin 9 = .ok (.if_icmp .ge 31, 3) := by decide +kernel
theorem dX2_isWithin_12 : decode cX2_isWithin 12 = .ok (.aload_n 0, 1) := by decide +kernel
theorem dX2_isWithin_13 : decode cX2_isWithin 13 = .ok (.iload_n 3, 1) := by decide +kernel
theorem dX2_isWithin_14 : decode cX2_isWithin 14 = .ok (.invokevirtual 38, 3) := by decide +kernel
theorem dX2_isWithin_17 : decode cX2_isWithin 17 = .ok (.ifCond .eq 23, 3) := by decide +kernel
theorem dX2_isWithin_20 : decode cX2_isWithin 20 = .ok (.iload_n 3, 1) := by decide +kernel
theorem dX2_isWithin_21 : decode cX2_isWithin 21 = .ok (.iload_n 2, 1) := by decide +kernel
theorem dX2_isWithin_22 : decode cX2_isWithin 22 = .ok (.if_icmp .ne 5, 3) := by decide +kernel
theorem dX2_isWithin_25 : decode cX2_isWithin 25 = .ok (.iconst 1, 1) := by decide +kernel
theorem dX2_isWithin_26 : decode cX2_isWithin 26 = .ok (.ireturn, 1) := by decide +kernel
theorem dX2_isWithin_27 : decode cX2_isWithin 27 = .ok (.aload_n 0, 1) := by decide +kernel
theorem dX2_isWithin_28 : decode cX2_isWithin 28 = .ok (.getfield 9, 3) := by decide +kernel
theorem dX2_isWithin_31 : decode cX2_isWithin 31 = .ok (.iload_n 3, 1) := by decide +kernel
theorem dX2_isWithin_32 : decode cX2_isWithin 32 = .ok (.iaload, 1) := by decide +kernel
theorem dX2_isWithin_33 : decode cX2_isWithin 33 = .ok (.istore_n 3, 1) := by decide +kernel
theorem dX2_isWithin_34 : decode cX2_isWithin 34 = .ok (.iinc 4 1, 3) := by decide +kernel
theorem dX2_isWithin_37 : decode cX2_isWithin 37 = .ok (.goto (-32), 3) := by decide +kernel
theorem dX2_isWithin_40 : decode cX2_isWithin 40 = .ok (.iconst 0, 1) := by decide +kernel
theorem dX2_isWithin_41 : decode cX2_isWithin 41 = .ok (.ireturn, 1) := by decide +kernel
theorem dX2_nodesRightBelow_0 : decode cX2_nodesRightBelow 0 = .ok (.iconst 0, 1) := by decide +kernel
theorem dX2_nodesRightBelow_1 : decode cX2_nodesRightBelow 1 = .ok (.istore_n 2, 1) := by decide +kernel
theorem dX2_nodesRightBelow_2 : decode cX2_nodesRightBelow 2 = .ok (.iconst 1, 1) := by decide +kernel
theorem dX2_nodesRightBelow_3 : decode cX2_nodesRightBelow 3 = .ok (.istore_n 3, 1) := by decide +kernel
theorem dX2_nodesRightBelow_4 : decode cX2_nodesRightBelow 4 = .ok (.iload_n 3, 1) := by decide +kernel
theorem dX2_nodesRightBelow_5 : decode cX2_nodesRightBelow 5 = .ok (.aload_n 0, 1) := by decide +kernel
theorem dX2_nodesRightBelow_6 : decode cX2_nodesRightBelow 6 = .ok (.getfield 26, 3) := by decide +kernel
theorem dX2_nodesRightBelow_9 : decode cX2_nodesRightBelow 9 = .ok (.if_icmp .ge 25, 3) := by decide +kernel
theorem dX2_nodesRightBelow_12 : decode cX2_nodesRightBelow 12 = .ok (.aload_n 0, 1) := by decide +kernel
theorem dX2_nodesRightBelow_13 : decode cX2_nodesRightBelow 13 = .ok (.getfield 9, 3) := by decide +kernel
theorem dX2_nodesRightBelow_16 : decode cX2_nodesRightBelow 16 = .ok (.iload_n 3, 1) := by decide +kernel
theorem dX2_nodesRightBelow_17 : decode cX2_nodesRightBelow 17 = .ok (.iaload, 1) := by decide +kernel
theorem dX2_nodesRightBelow_18 : decode cX2_nodesRightBelow 18 = .ok (.iload_n 1, 1) := by decide +kernel
theorem dX2_nodesRightBelow_19 : decode cX2_nodesRightBelow 19 = .ok (.if_icmp .ne 9, 3) := by decide +kernel
theorem dX2_nodesRightBelow_22 : decode cX2_nodesRightBelow 22 = .ok (.iload_n 2, 1) := by decide +kernel
theorem dX2_nodesRightBelow_23 : decode cX2_nodesRightBelow 23 = .ok (.iconst 1, 1) := by decide +kernel
theorem dX2_nodesRightBelow_24 : decode cX2_nodesRightBelow 24 = .ok (.iload_n 3, 1) := by decide +kernel
theorem dX2_nodesRightBelow_25 : decode cX2_nodesRightBelow 25 = .ok (.ishl, 1) := by decide +kernel
theorem dX2_nodesRightBelow_26 : decode cX2_nodesRightBelow 26 = .ok (.ior, 1) := by decide +kernel
theorem dX2_nodesRightBelow_27 : decode cX2_nodesRightBelow 27 = .ok (.istore_n 2, 1) := by decide +kernel
theorem dX2_nodesRightBelow_28 : decode cX2_nodesRightBelow 28 = .ok (.iinc 3 1, 3) := by decide +kernel
theorem dX2_nodesRightBelow_31 : decode cX2_nodesRightBelow 31 = .ok (.goto (-27), 3) := by decide +kernel
theorem dX2_nodesRightBelow_34 : decode cX2_nodesRightBelow 34 = .ok (.iload_n 2, 1) := by decide +kernel
theorem dX2_nodesRightBelow_35 : decode cX2_nodesRightBelow 35 = .ok (.ireturn, 1) := by decide +kernel
set_option maxRecDepth 20000 in
theorem ggX2_leavesBelow_X2_isLeaf : GoodIn wsX2_leavesBelow wsX2_isLeaf := goodIn_r _ [6, 7, 8, 9, 10, 5, 11, 1, 17, 18, 19, 20, 21] (by decide +kernel) (by decide +kernel)
set_option maxRecDepth 20000 in
theorem gX2_leavesBelow_X2_isLeaf : GoodIn wsX2_leavesBelow (wsV RX2 49 RX2 yX2_isLeaf wsX2_isLeaf) := goodIn_app (goodIn_of _ (by decide +kernel)) ggX2_leavesBelow_X2_isLeaf
set_option maxRecDepth 20000 in
theorem ggX2_leavesBelow_X2_isWithin : GoodIn wsX2_leavesBelow wsX2_isWithin := goodIn_r _ [15, 16, 8, 9, 10, 5, 11, 1, 17, 18, 19, 20, 21] (by decide +kernel) (by decide +kernel)
set_option maxRecDepth 20000 in
theorem gX2_leavesBelow_X2_isWithin : GoodIn wsX2_leavesBelow (wsV RX2 52 RX2 yX2_isWithin wsX2_isWithin) := goodIn_app (goodIn_of _ (by decide +kernel)) ggX2_leavesBelow_X2_isWithin
theorem dX2_leavesBelow_0 : decode cX2_leavesBelow 0 = .ok (.iconst 0, 1) := by decide +kernel
theorem dX2_leavesBelow_1 : decode cX2_leavesBelow 1 = .ok (.istore_n 2, 1) := by decide +kernel
theorem dX2_leavesBelow_2 : decode cX2_leavesBelow 2 = .ok (.iconst 1, 1) := by decide +kernel
theorem dX2_leavesBelow_3 : decode cX2_leavesBelow 3 = .ok (.istore_n 3, 1) := by decide +kernel
theorem dX2_leavesBelow_4 : decode cX2_leavesBelow 4 = .ok (.iload_n 3, 1) := by decide +kernel
theorem dX2_leavesBelow_5 : decode cX2_leavesBelow 5 = .ok (.aload_n 0, 1) := by decide +kernel
theorem dX2_leavesBelow_6 : decode cX2_leavesBelow 6 = .ok (.getfield 26, 3) := by decide +kernel
theorem dX2_leavesBelow_9 : decode cX2_leavesBelow 9 = .ok (.if_icmp .ge 32, 3) := by decide +kernel
theorem dX2_leavesBelow_12 : decode cX2_leavesBelow 12 = .ok (.aload_n 0, 1) := by decide +kernel
theorem dX2_leavesBelow_13 : decode cX2_leavesBelow 13 = .ok (.iload_n 3, 1) := by decide +kernel
theorem dX2_leavesBelow_14 : decode cX2_leavesBelow 14 = .ok (.invokevirtual 49, 3) := by decide +kernel
theorem dX2_leavesBelow_17 : decode cX2_leavesBelow 17 = .ok (.ifCond .eq 18, 3) := by decide +kernel
theorem dX2_leavesBelow_20 : decode cX2_leavesBelow 20 = .ok (.aload_n 0, 1) := by decide +kernel
theorem dX2_leavesBelow_21 : decode cX2_leavesBelow 21 = .ok (.iload_n 3, 1) := by decide +kernel
theorem dX2_leavesBelow_22 : decode cX2_leavesBelow 22 = .ok (.iload_n 1, 1) := by decide +kernel
theorem dX2_leavesBelow_23 : decode cX2_leavesBelow 23 = .ok (.invokevirtual 52, 3) := by decide +kernel
theorem dX2_leavesBelow_26 : decode cX2_leavesBelow 26 = .ok (.ifCond .eq 9, 3) := by decide +kernel
theorem dX2_leavesBelow_29 : decode cX2_leavesBelow 29 = .ok (.iload_n 2, 1) := by decide +kernel
theorem dX2_leavesBelow_30 : decode cX2_leavesBelow 30 = .ok (.iconst 1, 1) := by decide +kernel
theorem dX2_leavesBelow_31 : decode cX2_leavesBelow 31 = .ok (.iload_n 3, 1) := by decide +kernel
theorem dX2_leavesBelow_32 : decode cX2_leavesBelow 32 = .ok (.ishl, 1) := by decide +kernel
theorem dX2_leavesBelow_33 : decode cX2_leavesBelow 33 = .ok (.ior, 1) := by decide +kernel
theorem dX2_leavesBelow_34 : decode cX2_leavesBelow 34 = .ok (.istore_n 2, 1) := by decide +kernel
theorem dX2_leavesBelow_35 : decode cX2_leavesBelow 35 = .ok (.iinc 3 1, 3) := by decide +kernel
theorem dX2_leavesBelow_38 : decode cX2_leavesBelow 38 = .ok (.goto (-34), 3) := by decide +kernel
theorem dX2_leavesBelow_41 : decode cX2_leavesBelow 41 = .ok (.iload_n 2, 1) := by decide +kernel
theorem dX2_leavesBelow_42 : decode cX2_leavesBelow 42 = .ok (.ireturn, 1) := by decide +kernel
theorem dX2_factorOf_0 : decode cX2_factorOf 0 = .ok (.aload_n 0, 1) := by decide +kernel
theorem dX2_factorOf_1 : decode cX2_factorOf 1 = .ok (.getfield 15, 3) := by decide +kernel
theorem dX2_factorOf_4 : decode cX2_factorOf 4 = .ok (.iload_n 2, 1) := by decide +kernel
theorem dX2_factorOf_5 : decode cX2_factorOf 5 = .ok (.bipush 100, 2) := by decide +kernel
theorem dX2_factorOf_7 : decode cX2_factorOf 7 = .ok (.imul, 1) := by decide +kernel
theorem dX2_factorOf_8 : decode cX2_factorOf 8 = .ok (.iload_n 1, 1) := by decide +kernel
theorem dX2_factorOf_9 : decode cX2_factorOf 9 = .ok (.iconst 5, 1) := by decide +kernel
theorem dX2_factorOf_10 : decode cX2_factorOf 10 = .ok (.imul, 1) := by decide +kernel
theorem dX2_factorOf_11 : decode cX2_factorOf 11 = .ok (.iadd, 1) := by decide +kernel
theorem dX2_factorOf_12 : decode cX2_factorOf 12 = .ok (.iload_n 3, 1) := by decide +kernel
theorem dX2_factorOf_13 : decode cX2_factorOf 13 = .ok (.iadd, 1) := by decide +kernel
theorem dX2_factorOf_14 : decode cX2_factorOf 14 = .ok (.iaload, 1) := by decide +kernel
theorem dX2_factorOf_15 : decode cX2_factorOf 15 = .ok (.ireturn, 1) := by decide +kernel
theorem dX2_putFactor_0 : decode cX2_putFactor 0 = .ok (.aload_n 0, 1) := by decide +kernel
theorem dX2_putFactor_1 : decode cX2_putFactor 1 = .ok (.getfield 15, 3) := by decide +kernel
theorem dX2_putFactor_4 : decode cX2_putFactor 4 = .ok (.iload_n 2, 1) := by decide +kernel
theorem dX2_putFactor_5 : decode cX2_putFactor 5 = .ok (.bipush 100, 2) := by decide +kernel
theorem dX2_putFactor_7 : decode cX2_putFactor 7 = .ok (.imul, 1) := by decide +kernel
theorem dX2_putFactor_8 : decode cX2_putFactor 8 = .ok (.iload_n 1, 1) := by decide +kernel
theorem dX2_putFactor_9 : decode cX2_putFactor 9 = .ok (.iconst 5, 1) := by decide +kernel
theorem dX2_putFactor_10 : decode cX2_putFactor 10 = .ok (.imul, 1) := by decide +kernel
theorem dX2_putFactor_11 : decode cX2_putFactor 11 = .ok (.iadd, 1) := by decide +kernel
theorem dX2_putFactor_12 : decode cX2_putFactor 12 = .ok (.iload_n 3, 1) := by decide +kernel
theorem dX2_putFactor_13 : decode cX2_putFactor 13 = .ok (.iadd, 1) := by decide +kernel
theorem dX2_putFactor_14 : decode cX2_putFactor 14 = .ok (.iload 4, 2) := by decide +kernel
theorem dX2_putFactor_16 : decode cX2_putFactor 16 = .ok (.iastore, 1) := by decide +kernel
theorem dX2_putFactor_17 : decode cX2_putFactor 17 = .ok (.return_, 1) := by decide +kernel
set_option maxRecDepth 20000 in
theorem ggX2_leafValue_X2_blendedValue : GoodIn wsX2_leafValue wsX2_blendedValue := goodIn_r _ [5, 6, 7, 8, 4, 9, 10, 11, 12, 13, 14, 15, 16, 17, 18] (by decide +kernel) (by decide +kernel)
set_option maxRecDepth 20000 in
theorem gX2_leafValue_X2_blendedValue : GoodIn wsX2_leafValue (wsV RX2 56 RX2 yX2_blendedValue wsX2_blendedValue) := goodIn_app (goodIn_of _ (by decide +kernel)) ggX2_leafValue_X2_blendedValue
theorem dX2_leafValue_0 : decode cX2_leafValue 0 = .ok (.aload_n 0, 1) := by decide +kernel
theorem dX2_leafValue_1 : decode cX2_leafValue 1 = .ok (.iload_n 1, 1) := by decide +kernel
theorem dX2_leafValue_2 : decode cX2_leafValue 2 = .ok (.iload_n 2, 1) := by decide +kernel
theorem dX2_leafValue_3 : decode cX2_leafValue 3 = .ok (.iload_n 2, 1) := by decide +kernel
theorem dX2_leafValue_4 : decode cX2_leafValue 4 = .ok (.iconst 0, 1) := by decide +kernel
theorem dX2_leafValue_5 : decode cX2_leafValue 5 = .ok (.invokevirtual 56, 3) := by decide +kernel
theorem dX2_leafValue_8 : decode cX2_leafValue 8 = .ok (.ireturn, 1) := by decide +kernel
set_option maxRecDepth 20000 in
theorem ggX2_blendedValue_X2_factorOf : GoodIn wsX2_blendedValue wsX2_factorOf := goodIn_r _ [5, 6, 10, 11, 12, 13, 14] (by decide +kernel) (by decide +kernel)
set_option maxRecDepth 20000 in
theorem gX2_blendedValue_X2_factorOf : GoodIn wsX2_blendedValue (wsV RX2 60 RX2 yX2_factorOf wsX2_factorOf) := goodIn_app (goodIn_of _ (by decide +kernel)) ggX2_blendedValue_X2_factorOf
set_option maxRecDepth 20000 in
theorem ggX2_blendedValue_X6_marginOf : GoodIn wsX2_blendedValue wsX6_marginOf := goodIn_r _ [9] (by decide +kernel) (by decide +kernel)
set_option maxRecDepth 20000 in
theorem gX2_blendedValue_X6_marginOf_n64 : GoodIn wsX2_blendedValue (wsX6_marginOf) := ggX2_blendedValue_X6_marginOf
theorem dX2_blendedValue_0 : decode cX2_blendedValue 0 = .ok (.aload_n 0, 1) := by decide +kernel
theorem dX2_blendedValue_1 : decode cX2_blendedValue 1 = .ok (.iload_n 1, 1) := by decide +kernel
theorem dX2_blendedValue_2 : decode cX2_blendedValue 2 = .ok (.iload 4, 2) := by decide +kernel
theorem dX2_blendedValue_4 : decode cX2_blendedValue 4 = .ok (.iconst 1, 1) := by decide +kernel
theorem dX2_blendedValue_5 : decode cX2_blendedValue 5 = .ok (.ishr, 1) := by decide +kernel
theorem dX2_blendedValue_6 : decode cX2_blendedValue 6 = .ok (.iconst 1, 1) := by decide +kernel
theorem dX2_blendedValue_7 : decode cX2_blendedValue 7 = .ok (.iand, 1) := by decide +kernel
theorem dX2_blendedValue_8 : decode cX2_blendedValue 8 = .ok (.ifCond .eq 7, 3) := by decide +kernel
theorem dX2_blendedValue_11 : decode cX2_blendedValue 11 = .ok (.iload_n 3, 1) := by decide +kernel
theorem dX2_blendedValue_12 : decode cX2_blendedValue 12 = .ok (.goto 4, 3) := by decide +kernel
theorem dX2_blendedValue_15 : decode cX2_blendedValue 15 = .ok (.iload_n 2, 1) := by decide +kernel
theorem dX2_blendedValue_16 : decode cX2_blendedValue 16 = .ok (.iconst 1, 1) := by decide +kernel
theorem dX2_blendedValue_17 : decode cX2_blendedValue 17 = .ok (.invokevirtual 60, 3) := by decide +kernel
theorem dX2_blendedValue_20 : decode cX2_blendedValue 20 = .ok (.istore 5, 2) := by decide +kernel
theorem dX2_blendedValue_22 : decode cX2_blendedValue 22 = .ok (.aload_n 0, 1) := by decide +kernel
theorem dX2_blendedValue_23 : decode cX2_blendedValue 23 = .ok (.iload_n 1, 1) := by decide +kernel
theorem dX2_blendedValue_24 : decode cX2_blendedValue 24 = .ok (.iload 4, 2) := by decide +kernel
theorem dX2_blendedValue_26 : decode cX2_blendedValue 26 = .ok (.iconst 2, 1) := by decide +kernel
theorem dX2_blendedValue_27 : decode cX2_blendedValue 27 = .ok (.ishr, 1) := by decide +kernel
theorem dX2_blendedValue_28 : decode cX2_blendedValue 28 = .ok (.iconst 1, 1) := by decide +kernel
theorem dX2_blendedValue_29 : decode cX2_blendedValue 29 = .ok (.iand, 1) := by decide +kernel
theorem dX2_blendedValue_30 : decode cX2_blendedValue 30 = .ok (.ifCond .eq 7, 3) := by decide +kernel
theorem dX2_blendedValue_33 : decode cX2_blendedValue 33 = .ok (.iload_n 3, 1) := by decide +kernel
theorem dX2_blendedValue_34 : decode cX2_blendedValue 34 = .ok (.goto 4, 3) := by decide +kernel
theorem dX2_blendedValue_37 : decode cX2_blendedValue 37 = .ok (.iload_n 2, 1) := by decide +kernel
theorem dX2_blendedValue_38 : decode cX2_blendedValue 38 = .ok (.iconst 2, 1) := by decide +kernel
theorem dX2_blendedValue_39 : decode cX2_blendedValue 39 = .ok (.invokevirtual 60, 3) := by decide +kernel
theorem dX2_blendedValue_42 : decode cX2_blendedValue 42 = .ok (.istore 6, 2) := by decide +kernel
theorem dX2_blendedValue_44 : decode cX2_blendedValue 44 = .ok (.aload_n 0, 1) := by decide +kernel
theorem dX2_blendedValue_45 : decode cX2_blendedValue 45 = .ok (.iload_n 1, 1) := by decide +kernel
theorem dX2_blendedValue_46 : decode cX2_blendedValue 46 = .ok (.iload 4, 2) := by decide +kernel
theorem dX2_blendedValue_48 : decode cX2_blendedValue 48 = .ok (.iconst 3, 1) := by decide +kernel
theorem dX2_blendedValue_49 : decode cX2_blendedValue 49 = .ok (.ishr, 1) := by decide +kernel
theorem dX2_blendedValue_50 : decode cX2_blendedValue 50 = .ok (.iconst 1, 1) := by decide +kernel
theorem dX2_blendedValue_51 : decode cX2_blendedValue 51 = .ok (.iand, 1) := by decide +kernel
theorem dX2_blendedValue_52 : decode cX2_blendedValue 52 = .ok (.ifCond .eq 7, 3) := by decide +kernel
theorem dX2_blendedValue_55 : decode cX2_blendedValue 55 = .ok (.iload_n 3, 1) := by decide +kernel
theorem dX2_blendedValue_56 : decode cX2_blendedValue 56 = .ok (.goto 4, 3) := by decide +kernel
theorem dX2_blendedValue_59 : decode cX2_blendedValue 59 = .ok (.iload_n 2, 1) := by decide +kernel
theorem dX2_blendedValue_60 : decode cX2_blendedValue 60 = .ok (.iconst 3, 1) := by decide +kernel
theorem dX2_blendedValue_61 : decode cX2_blendedValue 61 = .ok (.invokevirtual 60, 3) := by decide +kernel
theorem dX2_blendedValue_64 : decode cX2_blendedValue 64 = .ok (.istore 7, 2) := by decide +kernel
theorem dX2_blendedValue_66 : decode cX2_blendedValue 66 = .ok (.aload_n 0, 1) := by decide +kernel
theorem dX2_blendedValue_67 : decode cX2_blendedValue 67 = .ok (.iload_n 1, 1) := by decide +kernel
theorem dX2_blendedValue_68 : decode cX2_blendedValue 68 = .ok (.iload 4, 2) := by decide +kernel
theorem dX2_blendedValue_70 : decode cX2_blendedValue 70 = .ok (.iconst 4, 1) := by decide +kernel
theorem dX2_blendedValue_71 : decode cX2_blendedValue 71 = .ok (.ishr, 1) := by decide +kernel
theorem dX2_blendedValue_72 : decode cX2_blendedValue 72 = .ok (.iconst 1, 1) := by decide +kernel
theorem dX2_blendedValue_73 : decode cX2_blendedValue 73 = .ok (.iand, 1) := by decide +kernel
theorem dX2_blendedValue_74 : decode cX2_blendedValue 74 = .ok (.ifCond .eq 7, 3) := by decide +kernel
theorem dX2_blendedValue_77 : decode cX2_blendedValue 77 = .ok (.iload_n 3, 1) := by decide +kernel
theorem dX2_blendedValue_78 : decode cX2_blendedValue 78 = .ok (.goto 4, 3) := by decide +kernel
theorem dX2_blendedValue_81 : decode cX2_blendedValue 81 = .ok (.iload_n 2, 1) := by decide +kernel
theorem dX2_blendedValue_82 : decode cX2_blendedValue 82 = .ok (.iconst 4, 1) := by decide +kernel
theorem dX2_blendedValue_83 : decode cX2_blendedValue 83 = .ok (.invokevirtual 60, 3) := by decide +kernel
theorem dX2_blendedValue_86 : decode cX2_blendedValue 86 = .ok (.istore 8, 2) := by decide +kernel
theorem dX2_blendedValue_88 : decode cX2_blendedValue 88 = .ok (.aload_n 0, 1) := by decide +kernel
theorem dX2_blendedValue_89 : decode cX2_blendedValue 89 = .ok (.iload_n 1, 1) := by decide +kernel
theorem dX2_blendedValue_90 : decode cX2_blendedValue 90 = .ok (.iload 4, 2) := by decide +kernel
theorem dX2_blendedValue_92 : decode cX2_blendedValue 92 = .ok (.iconst 0, 1) := by decide +kernel
theorem dX2_blendedValue_93 : decode cX2_blendedValue 93 = .ok (.ishr, 1) := by decide +kernel
theorem dX2_blendedValue_94 : decode cX2_blendedValue 94 = .ok (.iconst 1, 1) := by decide +kernel
theorem dX2_blendedValue_95 : decode cX2_blendedValue 95 = .ok (.iand, 1) := by decide +kernel
theorem dX2_blendedValue_96 : decode cX2_blendedValue 96 = .ok (.ifCond .eq 7, 3) := by decide +kernel
theorem dX2_blendedValue_99 : decode cX2_blendedValue 99 = .ok (.iload_n 3, 1) := by decide +kernel
theorem dX2_blendedValue_100 : decode cX2_blendedValue 100 = .ok (.goto 4, 3) := by decide +kernel
theorem dX2_blendedValue_103 : decode cX2_blendedValue 103 = .ok (.iload_n 2, 1) := by decide +kernel
theorem dX2_blendedValue_104 : decode cX2_blendedValue 104 = .ok (.iconst 0, 1) := by decide +kernel
theorem dX2_blendedValue_105 : decode cX2_blendedValue 105 = .ok (.invokevirtual 60, 3) := by decide +kernel
theorem dX2_blendedValue_108 : decode cX2_blendedValue 108 = .ok (.istore 9, 2) := by decide +kernel
theorem dX2_blendedValue_110 : decode cX2_blendedValue 110 = .ok (.iload 9, 2) := by decide +kernel
theorem dX2_blendedValue_112 : decode cX2_blendedValue 112 = .ok (.iload 5, 2) := by decide +kernel
theorem dX2_blendedValue_114 : decode cX2_blendedValue 114 = .ok (.iload 6, 2) := by decide +kernel
theorem dX2_blendedValue_116 : decode cX2_blendedValue 116 = .ok (.iload 7, 2) := by decide +kernel
theorem dX2_blendedValue_118 : decode cX2_blendedValue 118 = .ok (.iload 8, 2) := by decide +kernel
theorem dX2_blendedValue_120 : decode cX2_blendedValue 120 = .ok (.invokestatic 64, 3) := by decide +kernel
theorem dX2_blendedValue_123 : decode cX2_blendedValue 123 = .ok (.imul, 1) := by decide +kernel
theorem dX2_blendedValue_124 : decode cX2_blendedValue 124 = .ok (.ireturn, 1) := by decide +kernel
set_option maxRecDepth 20000 in
theorem ggX2_nodeValue_X2_leavesBelow : GoodIn wsX2_nodeValue wsX2_leavesBelow := goodIn_r _ [6, 1, 7, 8, 9, 5, 10, 11, 12, 13, 14, 15, 16, 17, 18, 19, 20, 37, 38, 39, 40, 41] (by decide +kernel) (by decide +kernel)
set_option maxRecDepth 20000 in
theorem gX2_nodeValue_X2_leavesBelow : GoodIn wsX2_nodeValue (wsV RX2 67 RX2 yX2_leavesBelow wsX2_leavesBelow) := goodIn_app (goodIn_of _ (by decide +kernel)) ggX2_nodeValue_X2_leavesBelow
set_option maxRecDepth 20000 in
theorem ggX2_nodeValue_X2_leafValue : GoodIn wsX2_nodeValue wsX2_leafValue := goodIn_r _ [24, 25, 26, 27, 5, 28, 29, 30, 31, 32, 33, 34, 35, 36, 37, 38, 39, 40, 41] (by decide +kernel) (by decide +kernel)
set_option maxRecDepth 20000 in
theorem gX2_nodeValue_X2_leafValue : GoodIn wsX2_nodeValue (wsV RX2 71 RX2 yX2_leafValue wsX2_leafValue) := goodIn_app (goodIn_of _ (by decide +kernel)) ggX2_nodeValue_X2_leafValue
theorem dX2_nodeValue_0 : decode cX2_nodeValue 0 = .ok (.aload_n 0, 1) := by decide +kernel
theorem dX2_nodeValue_1 : decode cX2_nodeValue 1 = .ok (.iload_n 1, 1) := by decide +kernel
theorem dX2_nodeValue_2 : decode cX2_nodeValue 2 = .ok (.invokevirtual 67, 3) := by decide +kernel
theorem dX2_nodeValue_5 : decode cX2_nodeValue 5 = .ok (.istore_n 3, 1) := by decide +kernel
theorem dX2_nodeValue_6 : decode cX2_nodeValue 6 = .ok (.iconst 0, 1) := by decide +kernel
theorem dX2_nodeValue_7 : decode cX2_nodeValue 7 = .ok (.istore 4, 2) := by decide +kernel
theorem dX2_nodeValue_9 : decode cX2_nodeValue 9 = .ok (.iconst 1, 1) := by decide +kernel
theorem dX2_nodeValue_10 : decode cX2_nodeValue 10 = .ok (.istore 5, 2) := by decide +kernel
theorem dX2_nodeValue_12 : decode cX2_nodeValue 12 = .ok (.iload 5, 2) := by decide +kernel
theorem dX2_nodeValue_14 : decode cX2_nodeValue 14 = .ok (.aload_n 0, 1) := by decide +kernel
theorem dX2_nodeValue_15 : decode cX2_nodeValue 15 = .ok (.getfield 26, 3) := by decide +kernel
theorem dX2_nodeValue_18 : decode cX2_nodeValue 18 = .ok (.if_icmp .ge 30, 3) := by decide +kernel
theorem dX2_nodeValue_21 : decode cX2_nodeValue 21 = .ok (.iload_n 3, 1) := by decide +kernel
theorem dX2_nodeValue_22 : decode cX2_nodeValue 22 = .ok (.iload 5, 2) := by decide +kernel
theorem dX2_nodeValue_24 : decode cX2_nodeValue 24 = .ok (.ishr, 1) := by decide +kernel
theorem dX2_nodeValue_25 : decode cX2_nodeValue 25 = .ok (.iconst 1, 1) := by decide +kernel
theorem dX2_nodeValue_26 : decode cX2_nodeValue 26 = .ok (.iand, 1) := by decide +kernel
theorem dX2_nodeValue_27 : decode cX2_nodeValue 27 = .ok (.ifCond .eq 15, 3) := by decide +kernel
theorem dX2_nodeValue_30 : decode cX2_nodeValue 30 = .ok (.iload 4, 2) := by decide +kernel
theorem dX2_nodeValue_32 : decode cX2_nodeValue 32 = .ok (.aload_n 0, 1) := by decide +kernel
theorem dX2_nodeValue_33 : decode cX2_nodeValue 33 = .ok (.iload 5, 2) := by decide +kernel
theorem dX2_nodeValue_35 : decode cX2_nodeValue 35 = .ok (.iload_n 2, 1) := by decide +kernel
theorem dX2_nodeValue_36 : decode cX2_nodeValue 36 = .ok (.invokevirtual 71, 3) := by decide +kernel
theorem dX2_nodeValue_39 : decode cX2_nodeValue 39 = .ok (.iadd, 1) := by decide +kernel
theorem dX2_nodeValue_40 : decode cX2_nodeValue 40 = .ok (.istore 4, 2) := by decide +kernel
theorem dX2_nodeValue_42 : decode cX2_nodeValue 42 = .ok (.iinc 5 1, 3) := by decide +kernel
theorem dX2_nodeValue_45 : decode cX2_nodeValue 45 = .ok (.goto (-33), 3) := by decide +kernel
theorem dX2_nodeValue_48 : decode cX2_nodeValue 48 = .ok (.iload 4, 2) := by decide +kernel
theorem dX2_nodeValue_50 : decode cX2_nodeValue 50 = .ok (.ireturn, 1) := by decide +kernel
set_option maxRecDepth 20000 in
theorem ggX2_marginOfLeaf_X2_factorOf : GoodIn wsX2_marginOfLeaf wsX2_factorOf := goodIn_r _ [5, 6, 10, 11, 12, 13, 14] (by decide +kernel) (by decide +kernel)
set_option maxRecDepth 20000 in
theorem gX2_marginOfLeaf_X2_factorOf : GoodIn wsX2_marginOfLeaf (wsV RX2 60 RX2 yX2_factorOf wsX2_factorOf) := goodIn_app (goodIn_of _ (by decide +kernel)) ggX2_marginOfLeaf_X2_factorOf
set_option maxRecDepth 20000 in
theorem ggX2_marginOfLeaf_X6_marginOf : GoodIn wsX2_marginOfLeaf wsX6_marginOf := goodIn_r _ [9] (by decide +kernel) (by decide +kernel)
set_option maxRecDepth 20000 in
theorem gX2_marginOfLeaf_X6_marginOf_n64 : GoodIn wsX2_marginOfLeaf (wsX6_marginOf) := ggX2_marginOfLeaf_X6_marginOf
theorem dX2_marginOfLeaf_0 : decode cX2_marginOfLeaf 0 = .ok (.aload_n 0, 1) := by decide +kernel
theorem dX2_marginOfLeaf_1 : decode cX2_marginOfLeaf 1 = .ok (.iload_n 1, 1) := by decide +kernel
theorem dX2_marginOfLeaf_2 : decode cX2_marginOfLeaf 2 = .ok (.iload_n 2, 1) := by decide +kernel
theorem dX2_marginOfLeaf_3 : decode cX2_marginOfLeaf 3 = .ok (.iconst 1, 1) := by decide +kernel
theorem dX2_marginOfLeaf_4 : decode cX2_marginOfLeaf 4 = .ok (.invokevirtual 60, 3) := by decide +kernel
theorem dX2_marginOfLeaf_7 : decode cX2_marginOfLeaf 7 = .ok (.aload_n 0, 1) := by decide +kernel
theorem dX2_marginOfLeaf_8 : decode cX2_marginOfLeaf 8 = .ok (.iload_n 1, 1) := by decide +kernel
theorem dX2_marginOfLeaf_9 : decode cX2_marginOfLeaf 9 = .ok (.iload_n 2, 1) := by decide +kernel
theorem dX2_marginOfLeaf_10 : decode cX2_marginOfLeaf 10 = .ok (.iconst 2, 1) := by decide +kernel
theorem dX2_marginOfLeaf_11 : decode cX2_marginOfLeaf 11 = .ok (.invokevirtual 60, 3) := by decide +kernel
theorem dX2_marginOfLeaf_14 : decode cX2_marginOfLeaf 14 = .ok (.aload_n 0, 1) := by decide +kernel
theorem dX2_marginOfLeaf_15 : decode cX2_marginOfLeaf 15 = .ok (.iload_n 1, 1) := by decide +kernel
theorem dX2_marginOfLeaf_16 : decode cX2_marginOfLeaf 16 = .ok (.iload_n 2, 1) := by decide +kernel
theorem dX2_marginOfLeaf_17 : decode cX2_marginOfLeaf 17 = .ok (.iconst 3, 1) := by decide +kernel
theorem dX2_marginOfLeaf_18 : decode cX2_marginOfLeaf 18 = .ok (.invokevirtual 60, 3) := by decide +kernel
theorem dX2_marginOfLeaf_21 : decode cX2_marginOfLeaf 21 = .ok (.aload_n 0, 1) := by decide +kernel
theorem dX2_marginOfLeaf_22 : decode cX2_marginOfLeaf 22 = .ok (.iload_n 1, 1) := by decide +kernel
theorem dX2_marginOfLeaf_23 : decode cX2_marginOfLeaf 23 = .ok (.iload_n 2, 1) := by decide +kernel
theorem dX2_marginOfLeaf_24 : decode cX2_marginOfLeaf 24 = .ok (.iconst 4, 1) := by decide +kernel
theorem dX2_marginOfLeaf_25 : decode cX2_marginOfLeaf 25 = .ok (.invokevirtual 60, 3) := by decide +kernel
theorem dX2_marginOfLeaf_28 : decode cX2_marginOfLeaf 28 = .ok (.invokestatic 64, 3) := by decide +kernel
theorem dX2_marginOfLeaf_31 : decode cX2_marginOfLeaf 31 = .ok (.ireturn, 1) := by decide +kernel
set_option maxRecDepth 20000 in
theorem ggX2_gainIfSet_X2_factorOf : GoodIn wsX2_gainIfSet wsX2_factorOf := goodIn_r _ [5, 6, 22, 23, 24, 25, 26] (by decide +kernel) (by decide +kernel)
set_option maxRecDepth 20000 in
theorem gX2_gainIfSet_X2_factorOf : GoodIn wsX2_gainIfSet (wsV RX2 60 RX2 yX2_factorOf wsX2_factorOf) := goodIn_app (goodIn_of _ (by decide +kernel)) ggX2_gainIfSet_X2_factorOf
set_option maxRecDepth 20000 in
theorem ggX2_gainIfSet_X2_leafValue : GoodIn wsX2_gainIfSet wsX2_leafValue := goodIn_r _ [10, 11, 12, 13, 4, 14, 1, 2, 3, 5, 6, 15, 16, 17, 22, 23, 24, 25, 26] (by decide +kernel) (by decide +kernel)
set_option maxRecDepth 20000 in
theorem gX2_gainIfSet_X2_leafValue : GoodIn wsX2_gainIfSet (wsV RX2 71 RX2 yX2_leafValue wsX2_leafValue) := goodIn_app (goodIn_of _ (by decide +kernel)) ggX2_gainIfSet_X2_leafValue
set_option maxRecDepth 20000 in
theorem ggX2_gainIfSet_X2_putFactor : GoodIn wsX2_gainIfSet wsX2_putFactor := goodIn_r _ [21, 6, 22, 23, 24, 25, 26] (by decide +kernel) (by decide +kernel)
set_option maxRecDepth 20000 in
theorem gX2_gainIfSet_X2_putFactor : GoodIn wsX2_gainIfSet (wsV RX2 45 RX2 yX2_putFactor wsX2_putFactor) := goodIn_app (goodIn_of _ (by decide +kernel)) ggX2_gainIfSet_X2_putFactor
theorem dX2_gainIfSet_0 : decode cX2_gainIfSet 0 = .ok (.aload_n 0, 1) := by decide +kernel
theorem dX2_gainIfSet_1 : decode cX2_gainIfSet 1 = .ok (.iload_n 1, 1) := by decide +kernel
theorem dX2_gainIfSet_2 : decode cX2_gainIfSet 2 = .ok (.iload_n 2, 1) := by decide +kernel
theorem dX2_gainIfSet_3 : decode cX2_gainIfSet 3 = .ok (.iload_n 3, 1) := by decide +kernel
theorem dX2_gainIfSet_4 : decode cX2_gainIfSet 4 = .ok (.invokevirtual 60, 3) := by decide +kernel
theorem dX2_gainIfSet_7 : decode cX2_gainIfSet 7 = .ok (.istore 5, 2) := by decide +kernel
theorem dX2_gainIfSet_9 : decode cX2_gainIfSet 9 = .ok (.aload_n 0, 1) := by decide +kernel
theorem dX2_gainIfSet_10 : decode cX2_gainIfSet 10 = .ok (.iload_n 1, 1) := by decide +kernel
theorem dX2_gainIfSet_11 : decode cX2_gainIfSet 11 = .ok (.iload_n 2, 1) := by decide +kernel
theorem dX2_gainIfSet_12 : decode cX2_gainIfSet 12 = .ok (.invokevirtual 71, 3) := by decide +kernel
theorem dX2_gainIfSet_15 : decode cX2_gainIfSet 15 = .ok (.istore 6, 2) := by decide +kernel
theorem dX2_gainIfSet_17 : decode cX2_gainIfSet 17 = .ok (.aload_n 0, 1) := by decide +kernel
theorem dX2_gainIfSet_18 : decode cX2_gainIfSet 18 = .ok (.iload_n 1, 1) := by decide +kernel
theorem dX2_gainIfSet_19 : decode cX2_gainIfSet 19 = .ok (.iload_n 2, 1) := by decide +kernel
theorem dX2_gainIfSet_20 : decode cX2_gainIfSet 20 = .ok (.iload_n 3, 1) := by decide +kernel
theorem dX2_gainIfSet_21 : decode cX2_gainIfSet 21 = .ok (.iload 4, 2) := by decide +kernel
theorem dX2_gainIfSet_23 : decode cX2_gainIfSet 23 = .ok (.invokevirtual 45, 3) := by decide +kernel
theorem dX2_gainIfSet_26 : decode cX2_gainIfSet 26 = .ok (.aload_n 0, 1) := by decide +kernel
theorem dX2_gainIfSet_27 : decode cX2_gainIfSet 27 = .ok (.iload_n 1, 1) := by decide +kernel
theorem dX2_gainIfSet_28 : decode cX2_gainIfSet 28 = .ok (.iload_n 2, 1) := by decide +kernel
theorem dX2_gainIfSet_29 : decode cX2_gainIfSet 29 = .ok (.invokevirtual 71, 3) := by decide +kernel
theorem dX2_gainIfSet_32 : decode cX2_gainIfSet 32 = .ok (.iload 6, 2) := by decide +kernel
theorem dX2_gainIfSet_34 : decode cX2_gainIfSet 34 = .ok (.isub, 1) := by decide +kernel
theorem dX2_gainIfSet_35 : decode cX2_gainIfSet 35 = .ok (.istore 7, 2) := by decide +kernel
theorem dX2_gainIfSet_37 : decode cX2_gainIfSet 37 = .ok (.aload_n 0, 1) := by decide +kernel
theorem dX2_gainIfSet_38 : decode cX2_gainIfSet 38 = .ok (.iload_n 1, 1) := by decide +kernel
theorem dX2_gainIfSet_39 : decode cX2_gainIfSet 39 = .ok (.iload_n 2, 1) := by decide +kernel
theorem dX2_gainIfSet_40 : decode cX2_gainIfSet 40 = .ok (.iload_n 3, 1) := by decide +kernel
theorem dX2_gainIfSet_41 : decode cX2_gainIfSet 41 = .ok (.iload 5, 2) := by decide +kernel
theorem dX2_gainIfSet_43 : decode cX2_gainIfSet 43 = .ok (.invokevirtual 45, 3) := by decide +kernel
theorem dX2_gainIfSet_46 : decode cX2_gainIfSet 46 = .ok (.iload 7, 2) := by decide +kernel
theorem dX2_gainIfSet_48 : decode cX2_gainIfSet 48 = .ok (.ireturn, 1) := by decide +kernel
set_option maxRecDepth 20000 in
theorem ggX2_unitsNeeded_X2_nodeValue : GoodIn wsX2_unitsNeeded wsX2_nodeValue := goodIn_r _ [5, 6, 7, 8, 9, 4, 10, 11, 12, 13, 14, 15, 16, 17, 18, 19, 20, 21, 22, 23, 24, 25, 26, 27, 28, 29, 30, 31, 32, 33, 34, 35, 36, 37, 38, 39, 40, 45, 46, 47, 48, 49] (by decide +kernel) (by decide +kernel)
set_option maxRecDepth 20000 in
theorem gX2_unitsNeeded_X2_nodeValue : GoodIn wsX2_unitsNeeded (wsV RX2 75 RX2 yX2_nodeValue wsX2_nodeValue) := goodIn_app (goodIn_of _ (by decide +kernel)) ggX2_unitsNeeded_X2_nodeValue
set_option maxRecDepth 20000 in
theorem ggX2_unitsNeeded_X2_leafValue : GoodIn wsX2_unitsNeeded wsX2_leafValue := goodIn_r _ [28, 29, 30, 31, 4, 32, 33, 34, 35, 36, 37, 38, 39, 40, 45, 46, 47, 48, 49] (by decide +kernel) (by decide +kernel)
set_option maxRecDepth 20000 in
theorem gX2_unitsNeeded_X2_leafValue : GoodIn wsX2_unitsNeeded (wsV RX2 71 RX2 yX2_leafValue wsX2_leafValue) := goodIn_app (goodIn_of _ (by decide +kernel)) ggX2_unitsNeeded_X2_leafValue
set_option maxRecDepth 20000 in
theorem ggX2_unitsNeeded_X2_marginOfLeaf : GoodIn wsX2_unitsNeeded wsX2_marginOfLeaf := goodIn_r _ [44, 33, 34, 35, 4, 36, 37, 38, 39, 40, 45, 46, 47, 48, 49] (by decide +kernel) (by decide +kernel)
set_option maxRecDepth 20000 in
theorem gX2_unitsNeeded_X2_marginOfLeaf : GoodIn wsX2_unitsNeeded (wsV RX2 78 RX2 yX2_marginOfLeaf wsX2_marginOfLeaf) := goodIn_app (goodIn_of _ (by decide +kernel)) ggX2_unitsNeeded_X2_marginOfLeaf
theorem dX2_unitsNeeded_0 : decode cX2_unitsNeeded 0 = .ok (.iload_n 3, 1) := by decide +kernel
theorem dX2_unitsNeeded_1 : decode cX2_unitsNeeded 1 = .ok (.aload_n 0, 1) := by decide +kernel
theorem dX2_unitsNeeded_2 : decode cX2_unitsNeeded 2 = .ok (.iconst 0, 1) := by decide +kernel
theorem dX2_unitsNeeded_3 : decode cX2_unitsNeeded 3 = .ok (.iload_n 2, 1) := by decide +kernel
theorem dX2_unitsNeeded_4 : decode cX2_unitsNeeded 4 = .ok (.invokevirtual 75, 3) := by decide +kernel
theorem dX2_unitsNeeded_7 : decode cX2_unitsNeeded 7 = .ok (.aload_n 0, 1) := by decide +kernel
theorem dX2_unitsNeeded_8 : decode cX2_unitsNeeded 8 = .ok (.iload_n 1, 1) := by decide +kernel
theorem dX2_unitsNeeded_9 : decode cX2_unitsNeeded 9 = .ok (.iload_n 2, 1) := by decide +kernel
theorem dX2_unitsNeeded_10 : decode cX2_unitsNeeded 10 = .ok (.invokevirtual 71, 3) := by decide +kernel
theorem dX2_unitsNeeded_13 : decode cX2_unitsNeeded 13 = .ok (.isub, 1) := by decide +kernel
theorem dX2_unitsNeeded_14 : decode cX2_unitsNeeded 14 = .ok (.isub, 1) := by decide +kernel
theorem dX2_unitsNeeded_15 : decode cX2_unitsNeeded 15 = .ok (.istore 4, 2) := by decide +kernel
theorem dX2_unitsNeeded_17 : decode cX2_unitsNeeded 17 = .ok (.aload_n 0, 1) := by decide +kernel
theorem dX2_unitsNeeded_18 : decode cX2_unitsNeeded 18 = .ok (.iload_n 1, 1) := by decide +kernel
theorem dX2_unitsNeeded_19 : decode cX2_unitsNeeded 19 = .ok (.iload_n 2, 1) := by decide +kernel
theorem dX2_unitsNeeded_20 : decode cX2_unitsNeeded 20 = .ok (.invokevirtual 78, 3) := by decide +kernel
theorem dX2_unitsNeeded_23 : decode cX2_unitsNeeded 23 = .ok (.istore 5, 2) := by decide +kernel
theorem dX2_unitsNeeded_25 : decode cX2_unitsNeeded 25 = .ok (.iload 4, 2) := by decide +kernel
theorem dX2_unitsNeeded_27 : decode cX2_unitsNeeded 27 = .ok (.ifCond .gt 5, 3) := by decide +kernel
theorem dX2_unitsNeeded_30 : decode cX2_unitsNeeded 30 = .ok (.iconst 0, 1) := by decide +kernel
theorem dX2_unitsNeeded_31 : decode cX2_unitsNeeded 31 = .ok (.ireturn, 1) := by decide +kernel
theorem dX2_unitsNeeded_32 : decode cX2_unitsNeeded 32 = .ok (.iload 5, 2) := by decide +kernel
theorem dX2_unitsNeeded_34 : decode cX2_unitsNeeded 34 = .ok (.ifCond .gt 6, 3) := by decide +kernel
theorem dX2_unitsNeeded_37 : decode cX2_unitsNeeded 37 = .ok (.bipush (-2), 2) := by decide +kernel
theorem dX2_unitsNeeded_39 : decode cX2_unitsNeeded 39 = .ok (.ireturn, 1) := by decide +kernel
theorem dX2_unitsNeeded_40 : decode cX2_unitsNeeded 40 = .ok (.iload 4, 2) := by decide +kernel
theorem dX2_unitsNeeded_42 : decode cX2_unitsNeeded 42 = .ok (.iconst 1, 1) := by decide +kernel
theorem dX2_unitsNeeded_43 : decode cX2_unitsNeeded 43 = .ok (.isub, 1) := by decide +kernel
theorem dX2_unitsNeeded_44 : decode cX2_unitsNeeded 44 = .ok (.iload 5, 2) := by decide +kernel
theorem dX2_unitsNeeded_46 : decode cX2_unitsNeeded 46 = .ok (.idiv, 1) := by decide +kernel
theorem dX2_unitsNeeded_47 : decode cX2_unitsNeeded 47 = .ok (.iconst 1, 1) := by decide +kernel
theorem dX2_unitsNeeded_48 : decode cX2_unitsNeeded 48 = .ok (.iadd, 1) := by decide +kernel
theorem dX2_unitsNeeded_49 : decode cX2_unitsNeeded 49 = .ok (.istore 6, 2) := by decide +kernel
theorem dX2_unitsNeeded_51 : decode cX2_unitsNeeded 51 = .ok (.iload 6, 2) := by decide +kernel
theorem dX2_unitsNeeded_53 : decode cX2_unitsNeeded 53 = .ok (.getstatic 81, 3) := by decide +kernel
theorem dX2_unitsNeeded_56 : decode cX2_unitsNeeded 56 = .ok (.iconst 0, 1) := by decide +kernel
theorem dX2_unitsNeeded_57 : decode cX2_unitsNeeded 57 = .ok (.iaload, 1) := by decide +kernel
theorem dX2_unitsNeeded_58 : decode cX2_unitsNeeded 58 = .ok (.if_icmp .gt 8, 3) := by decide +kernel
theorem dX2_unitsNeeded_61 : decode cX2_unitsNeeded 61 = .ok (.iload 6, 2) := by decide +kernel
theorem dX2_unitsNeeded_63 : decode cX2_unitsNeeded 63 = .ok (.goto 5, 3) := by decide +kernel
theorem dX2_unitsNeeded_66 : decode cX2_unitsNeeded 66 = .ok (.bipush (-2), 2) := by decide +kernel
theorem dX2_unitsNeeded_68 : decode cX2_unitsNeeded 68 = .ok (.ireturn, 1) := by decide +kernel
set_option maxRecDepth 20000 in
theorem ggX2_copyScene_X2_isLeaf : GoodIn wsX2_copyScene wsX2_isLeaf := goodIn_r _ [6, 7, 8, 9, 10, 5, 11, 1, 21, 22, 23, 24, 25] (by decide +kernel) (by decide +kernel)
set_option maxRecDepth 20000 in
theorem gX2_copyScene_X2_isLeaf : GoodIn wsX2_copyScene (wsV RX2 49 RX2 yX2_isLeaf wsX2_isLeaf) := goodIn_app (goodIn_of _ (by decide +kernel)) ggX2_copyScene_X2_isLeaf
set_option maxRecDepth 20000 in
theorem ggX2_copyScene_X2_factorOf : GoodIn wsX2_copyScene wsX2_factorOf := goodIn_r _ [15, 16, 21, 22, 23, 24, 25] (by decide +kernel) (by decide +kernel)
set_option maxRecDepth 20000 in
theorem gX2_copyScene_X2_factorOf : GoodIn wsX2_copyScene (wsV RX2 60 RX2 yX2_factorOf wsX2_factorOf) := goodIn_app (goodIn_of _ (by decide +kernel)) ggX2_copyScene_X2_factorOf
set_option maxRecDepth 20000 in
theorem ggX2_copyScene_X2_putFactor : GoodIn wsX2_copyScene wsX2_putFactor := goodIn_r _ [20, 16, 21, 22, 23, 24, 25] (by decide +kernel) (by decide +kernel)
set_option maxRecDepth 20000 in
theorem gX2_copyScene_X2_putFactor : GoodIn wsX2_copyScene (wsV RX2 45 RX2 yX2_putFactor wsX2_putFactor) := goodIn_app (goodIn_of _ (by decide +kernel)) ggX2_copyScene_X2_putFactor
theorem dX2_copyScene_0 : decode cX2_copyScene 0 = .ok (.iconst 0, 1) := by decide +kernel
theorem dX2_copyScene_1 : decode cX2_copyScene 1 = .ok (.istore_n 3, 1) := by decide +kernel
theorem dX2_copyScene_2 : decode cX2_copyScene 2 = .ok (.iconst 1, 1) := by decide +kernel
theorem dX2_copyScene_3 : decode cX2_copyScene 3 = .ok (.istore 4, 2) := by decide +kernel
theorem dX2_copyScene_5 : decode cX2_copyScene 5 = .ok (.iload 4, 2) := by decide +kernel
theorem dX2_copyScene_7 : decode cX2_copyScene 7 = .ok (.aload_n 0, 1) := by decide +kernel
theorem dX2_copyScene_8 : decode cX2_copyScene 8 = .ok (.getfield 26, 3) := by decide +kernel
theorem dX2_copyScene_11 : decode cX2_copyScene 11 = .ok (.if_icmp .ge 72, 3) := by decide +kernel
theorem dX2_copyScene_14 : decode cX2_copyScene 14 = .ok (.iconst 0, 1) := by decide +kernel
theorem dX2_copyScene_15 : decode cX2_copyScene 15 = .ok (.istore 5, 2) := by decide +kernel
theorem dX2_copyScene_17 : decode cX2_copyScene 17 = .ok (.aload_n 0, 1) := by decide +kernel
theorem dX2_copyScene_18 : decode cX2_copyScene 18 = .ok (.iload 4, 2) := by decide +kernel
theorem dX2_copyScene_20 : decode cX2_copyScene 20 = .ok (.invokevirtual 49, 3) := by decide +kernel
theorem dX2_copyScene_23 : decode cX2_copyScene 23 = .ok (.ifCond .eq 54, 3) := by decide +kernel
theorem dX2_copyScene_26 : decode cX2_copyScene 26 = .ok (.iload 5, 2) := by decide +kernel
theorem dX2_copyScene_28 : decode cX2_copyScene 28 = .ok (.iconst 5, 1) := by decide +kernel
theorem dX2_copyScene_29 : decode cX2_copyScene 29 = .ok (.if_icmp .ge 48, 3) := by decide +kernel
theorem dX2_copyScene_32 : decode cX2_copyScene 32 = .ok (.aload_n 0, 1) := by decide +kernel
theorem dX2_copyScene_33 : decode cX2_copyScene 33 = .ok (.iload 4, 2) := by decide +kernel
theorem dX2_copyScene_35 : decode cX2_copyScene 35 = .ok (.iload_n 1, 1) := by decide +kernel
theorem dX2_copyScene_36 : decode cX2_copyScene 36 = .ok (.iload 5, 2) := by decide +kernel
theorem dX2_copyScene_38 : decode cX2_copyScene 38 = .ok (.invokevirtual 60, 3) := by decide +kernel
theorem dX2_copyScene_41 : decode cX2_copyScene 41 = .ok (.istore 6, 2) := by decide +kernel
theorem dX2_copyScene_43 : decode cX2_copyScene 43 = .ok (.aload_n 0, 1) := by decide +kernel
theorem dX2_copyScene_44 : decode cX2_copyScene 44 = .ok (.iload 4, 2) := by decide +kernel
theorem dX2_copyScene_46 : decode cX2_copyScene 46 = .ok (.iload_n 2, 1) := by decide +kernel
theorem dX2_copyScene_47 : decode cX2_copyScene 47 = .ok (.iload 5, 2) := by decide +kernel
theorem dX2_copyScene_49 : decode cX2_copyScene 49 = .ok (.invokevirtual 60, 3) := by decide +kernel
theorem dX2_copyScene_52 : decode cX2_copyScene 52 = .ok (.iload 6, 2) := by decide +kernel
theorem dX2_copyScene_54 : decode cX2_copyScene 54 = .ok (.if_icmp .eq 17, 3) := by decide +kernel
theorem dX2_copyScene_57 : decode cX2_copyScene 57 = .ok (.iinc 3 1, 3) := by decide +kernel
theorem dX2_copyScene_60 : decode cX2_copyScene 60 = .ok (.aload_n 0, 1) := by decide +kernel
theorem dX2_copyScene_61 : decode cX2_copyScene 61 = .ok (.iload 4, 2) := by decide +kernel
theorem dX2_copyScene_63 : decode cX2_copyScene 63 = .ok (.iload_n 2, 1) := by decide +kernel
theorem dX2_copyScene_64 : decode cX2_copyScene 64 = .ok (.iload 5, 2) := by decide +kernel
theorem dX2_copyScene_66 : decode cX2_copyScene 66 = .ok (.iload 6, 2) := by decide +kernel
theorem dX2_copyScene_68 : decode cX2_copyScene 68 = .ok (.invokevirtual 45, 3) := by decide +kernel
theorem dX2_copyScene_71 : decode cX2_copyScene 71 = .ok (.iinc 5 1, 3) := by decide +kernel
theorem dX2_copyScene_74 : decode cX2_copyScene 74 = .ok (.goto (-57), 3) := by decide +kernel
theorem dX2_copyScene_77 : decode cX2_copyScene 77 = .ok (.iinc 4 1, 3) := by decide +kernel
theorem dX2_copyScene_80 : decode cX2_copyScene 80 = .ok (.goto (-75), 3) := by decide +kernel
theorem dX2_copyScene_83 : decode cX2_copyScene 83 = .ok (.iload_n 3, 1) := by decide +kernel
theorem dX2_copyScene_84 : decode cX2_copyScene 84 = .ok (.ireturn, 1) := by decide +kernel
set_option maxRecDepth 20000 in
theorem ggX3_init_X5_init : GoodIn wsX3_init wsX5_init := goodIn_r _ [15, 16, 2, 3, 17, 18, 19, 20, 21, 28, 29, 30, 31, 32] (by decide +kernel) (by decide +kernel)
set_option maxRecDepth 20000 in
theorem gX3_init_X5_init_n27 : GoodIn wsX3_init (wsX5_init) := ggX3_init_X5_init
theorem dX3_init_0 : decode cX3_init 0 = .ok (.aload_n 0, 1) := by decide +kernel
theorem dX3_init_1 : decode cX3_init 1 = .ok (.invokespecial 3, 3) := by decide +kernel
theorem dX3_init_4 : decode cX3_init 4 = .ok (.aload_n 0, 1) := by decide +kernel
theorem dX3_init_5 : decode cX3_init 5 = .ok (.bipush 20, 2) := by decide +kernel
theorem dX3_init_7 : decode cX3_init 7 = .ok (.newarray .int, 2) := by decide +kernel
theorem dX3_init_9 : decode cX3_init 9 = .ok (.putfield 9, 3) := by decide +kernel
theorem dX3_init_12 : decode cX3_init 12 = .ok (.aload_n 0, 1) := by decide +kernel
theorem dX3_init_13 : decode cX3_init 13 = .ok (.iconst 0, 1) := by decide +kernel
theorem dX3_init_14 : decode cX3_init 14 = .ok (.putfield 15, 3) := by decide +kernel
theorem dX3_init_17 : decode cX3_init 17 = .ok (.aload_n 0, 1) := by decide +kernel
theorem dX3_init_18 : decode cX3_init 18 = .ok (.iconst 0, 1) := by decide +kernel
theorem dX3_init_19 : decode cX3_init 19 = .ok (.putfield 19, 3) := by decide +kernel
theorem dX3_init_22 : decode cX3_init 22 = .ok (.aload_n 0, 1) := by decide +kernel
theorem dX3_init_23 : decode cX3_init 23 = .ok (.iconst 0, 1) := by decide +kernel
theorem dX3_init_24 : decode cX3_init 24 = .ok (.putfield 22, 3) := by decide +kernel
theorem dX3_init_27 : decode cX3_init 27 = .ok (.aload_n 0, 1) := by decide +kernel
theorem dX3_init_28 : decode cX3_init 28 = .ok (.new 25, 3) := by decide +kernel
theorem dX3_init_31 : decode cX3_init 31 = .ok (.dup, 1) := by decide +kernel
theorem dX3_init_32 : decode cX3_init 32 = .ok (.aload_n 1, 1) := by decide +kernel
theorem dX3_init_33 : decode cX3_init 33 = .ok (.invokespecial 27, 3) := by decide +kernel
theorem dX3_init_36 : decode cX3_init 36 = .ok (.putfield 30, 3) := by decide +kernel
theorem dX3_init_39 : decode cX3_init 39 = .ok (.aload_n 0, 1) := by decide +kernel
theorem dX3_init_40 : decode cX3_init 40 = .ok (.aload_n 2, 1) := by decide +kernel
theorem dX3_init_41 : decode cX3_init 41 = .ok (.putfield 34, 3) := by decide +kernel
theorem dX3_init_44 : decode cX3_init 44 = .ok (.return_, 1) := by decide +kernel
set_option maxRecDepth 20000 in
theorem ggX3_readText_X5_rewind : GoodIn wsX3_readText wsX5_rewind := goodIn_r _ [9, 10, 11, 12, 13, 147, 148, 149, 150, 151] (by decide +kernel) (by decide +kernel)
set_option maxRecDepth 20000 in
theorem gX3_readText_X5_rewind_n38 : GoodIn wsX3_readText (wsX5_rewind) := ggX3_readText_X5_rewind
set_option maxRecDepth 20000 in
theorem ggX3_readText_J7_fill_53178 : GoodIn wsX3_readText wsJ7_fill_53178 := goodIn_r _ [17] (by decide +kernel) (by decide +kernel)
set_option maxRecDepth 20000 in
theorem gX3_readText_J7_fill_53178 : GoodIn wsX3_readText (va_wsS RX3 41 yJ7_fill_53178 wsJ7_fill_53178) := goodIn_app (goodIn_of _ (by decide +kernel)) ggX3_readText_J7_fill_53178
set_option maxRecDepth 20000 in
theorem ggX3_readText_X5_advance : GoodIn wsX3_readText wsX5_advance := goodIn_r _ [20, 10, 11, 21, 12, 22, 23, 24, 7, 25, 26, 27, 28, 29, 13, 147, 148, 149, 150, 151, 152, 153] (by decide +kernel) (by decide +kernel)
set_option maxRecDepth 20000 in
theorem gX3_readText_X5_advance_n47 : GoodIn wsX3_readText (wsX5_advance) := ggX3_readText_X5_advance
set_option maxRecDepth 20000 in
theorem ggX3_readText_X3_readScenes : GoodIn wsX3_readText wsX3_readScenes := goodIn_r _ [34, 1, 35, 36, 7, 37, 38, 12, 10, 11, 21, 39, 40, 41, 42, 43, 44, 45, 46, 47, 48, 49, 50, 51, 52, 53, 54, 55, 56, 57, 58, 59, 60, 61, 62, 63, 64, 65, 66, 67, 68, 69, 70, 71, 72, 73, 74, 75, 76, 77, 78, 79, 80, 81, 82, 83, 84, 85, 86, 87, 88, 89, 90, 33, 91, 4, 5, 92, 93, 94, 95, 18, 19, 20, 22, 23, 24, 25, 26, 27, 28, 29, 13, 96, 97, 98, 99, 100, 101, 102, 103, 104, 105, 106, 107, 141, 142, 143, 144, 145, 146, 147, 148, 149, 150, 151, 152, 153, 154, 155, 156, 157, 158] (by decide +kernel) (by decide +kernel)
set_option maxRecDepth 20000 in
theorem gX3_readText_X3_readScenes : GoodIn wsX3_readText (wsV RX3 50 RX3 yX3_readScenes wsX3_readScenes) := goodIn_app (goodIn_of _ (by decide +kernel)) ggX3_readText_X3_readScenes
set_option maxRecDepth 20000 in
theorem ggX3_readText_X3_readLine : GoodIn wsX3_readText wsX3_readLine := goodIn_r _ [111, 1, 36, 7, 37, 38, 12, 10, 11, 21, 39, 40, 41, 42, 43, 44, 45, 46, 47, 48, 49, 50, 51, 52, 53, 54, 55, 56, 57, 58, 59, 60, 61, 62, 63, 64, 65, 66, 67, 68, 69, 70, 71, 72, 73, 74, 75, 76, 77, 78, 79, 80, 81, 82, 83, 84, 85, 86, 87, 112, 113, 114, 33, 115, 35, 88, 89, 90, 91, 4, 5, 92, 93, 94, 95, 18, 19, 20, 22, 23, 24, 25, 26, 27, 28, 29, 13, 116, 97, 117, 118, 102, 119, 120, 121, 122, 101, 123, 124, 125, 103, 126, 127, 128, 129, 130, 131, 132, 133, 104, 105, 106, 107, 134, 135, 136, 137, 2, 138, 139, 140, 141, 142, 143, 144, 145, 146, 147, 148, 149, 150, 151, 152, 153, 154, 155, 156, 157, 158] (by decide +kernel) (by decide +kernel)
set_option maxRecDepth 20000 in
theorem gX3_readText_X3_readLine : GoodIn wsX3_readText (wsV RX3 57 RX3 yX3_readLine wsX3_readLine) := goodIn_app (goodIn_of _ (by decide +kernel)) ggX3_readText_X3_readLine
set_option maxRecDepth 20000 in
theorem ggX3_readText_X3_refuse : GoodIn wsX3_readText wsX3_refuse := goodIn_r _ [91, 4, 1, 5, 141, 142, 143, 144, 145, 146, 147, 148, 149, 150, 151] (by decide +kernel) (by decide +kernel)
set_option maxRecDepth 20000 in
theorem gX3_readText_X3_refuse : GoodIn wsX3_readText (wsV RX3 60 RX3 yX3_refuse wsX3_refuse) := goodIn_app (goodIn_of _ (by decide +kernel)) ggX3_readText_X3_refuse
theorem dX3_readText_0 : decode cX3_readText 0 = .ok (.aload_n 0, 1) := by decide +kernel
theorem dX3_readText_1 : decode cX3_readText 1 = .ok (.getfield 30, 3) := by decide +kernel
theorem dX3_readText_4 : decode cX3_readText 4 = .ok (.invokevirtual 38, 3) := by decide +kernel
theorem dX3_readText_7 : decode cX3_readText 7 = .ok (.aload_n 0, 1) := by decide +kernel
theorem dX3_readText_8 : decode cX3_readText 8 = .ok (.getfield 9, 3) := by decide +kernel
theorem dX3_readText_11 : decode cX3_readText 11 = .ok (.iconst 0, 1) := by decide +kernel
theorem dX3_readText_12 : decode cX3_readText 12 = .ok (.invokestatic 41, 3) := by decide +kernel
theorem dX3_readText_15 : decode cX3_readText 15 = .ok (.aload_n 0, 1) := by decide +kernel
theorem dX3_readText_16 : decode cX3_readText 16 = .ok (.iconst 0, 1) := by decide +kernel
theorem dX3_readText_17 : decode cX3_readText 17 = .ok (.putfield 15, 3) := by decide +kernel
theorem dX3_readText_20 : decode cX3_readText 20 = .ok (.aload_n 0, 1) := by decide +kernel
theorem dX3_readText_21 : decode cX3_readText 21 = .ok (.iconst 0, 1) := by decide +kernel
theorem dX3_readText_22 : decode cX3_readText 22 = .ok (.putfield 19, 3) := by decide +kernel
theorem dX3_readText_25 : decode cX3_readText 25 = .ok (.aload_n 0, 1) := by decide +kernel
theorem dX3_readText_26 : decode cX3_readText 26 = .ok (.iconst 0, 1) := by decide +kernel
theorem dX3_readText_27 : decode cX3_readText 27 = .ok (.putfield 22, 3) := by decide +kernel
theorem dX3_readText_30 : decode cX3_readText 30 = .ok (.aload_n 0, 1) := by decide +kernel
theorem dX3_readText_31 : decode cX3_readText 31 = .ok (.getfield 30, 3) := by decide +kernel
theorem dX3_readText_34 : decode cX3_readText 34 = .ok (.invokevirtual 47, 3) := by decide +kernel
theorem dX3_readText_37 : decode cX3_readText 37 = .ok (.aload_n 0, 1) := by decide +kernel
theorem dX3_readText_38 : decode cX3_readText 38 = .ok (.invokevirtual 50, 3) := by decide +kernel
theorem dX3_readText_41 : decode cX3_readText 41 = .ok (.ifCond .ne 5, 3) := by decide +kernel
theorem dX3_readText_44 : decode cX3_readText 44 = .ok (.iconst 0, 1) := by decide +kernel
theorem dX3_readText_45 : decode cX3_readText 45 = .ok (.ireturn, 1) := by decide +kernel
theorem dX3_readText_46 : decode cX3_readText 46 = .ok (.aload_n 0, 1) := by decide +kernel
theorem dX3_readText_47 : decode cX3_readText 47 = .ok (.iconst 1, 1) := by decide +kernel
theorem dX3_readText_48 : decode cX3_readText 48 = .ok (.putfield 15, 3) := by decide +kernel
theorem dX3_readText_51 : decode cX3_readText 51 = .ok (.aload_n 0, 1) := by decide +kernel
theorem dX3_readText_52 : decode cX3_readText 52 = .ok (.getfield 15, 3) := by decide +kernel
theorem dX3_readText_55 : decode cX3_readText 55 = .ok (.sipush 640, 3) := by decide +kernel
theorem dX3_readText_58 : decode cX3_readText 58 = .ok (.if_icmp .gt 45, 3) := by decide +kernel
theorem dX3_readText_61 : decode cX3_readText 61 = .ok (.aload_n 0, 1) := by decide +kernel
theorem dX3_readText_62 : decode cX3_readText 62 = .ok (.getfield 30, 3) := by decide +kernel
theorem dX3_readText_65 : decode cX3_readText 65 = .ok (.invokevirtual 47, 3) := by decide +kernel
theorem dX3_readText_68 : decode cX3_readText 68 = .ok (.aload_n 0, 1) := by decide +kernel
theorem dX3_readText_69 : decode cX3_readText 69 = .ok (.getfield 30, 3) := by decide +kernel
theorem dX3_readText_72 : decode cX3_readText 72 = .ok (.getfield 54, 3) := by decide +kernel
theorem dX3_readText_75 : decode cX3_readText 75 = .ok (.iconst 4, 1) := by decide +kernel
theorem dX3_readText_76 : decode cX3_readText 76 = .ok (.if_icmp .ne 5, 3) := by decide +kernel
theorem dX3_readText_79 : decode cX3_readText 79 = .ok (.iconst 1, 1) := by decide +kernel
theorem dX3_readText_80 : decode cX3_readText 80 = .ok (.ireturn, 1) := by decide +kernel
theorem dX3_readText_81 : decode cX3_readText 81 = .ok (.aload_n 0, 1) := by decide +kernel
theorem dX3_readText_82 : decode cX3_readText 82 = .ok (.invokevirtual 57, 3) := by decide +kernel
theorem dX3_readText_85 : decode cX3_readText 85 = .ok (.ifCond .ne 5, 3) := by decide +kernel
theorem dX3_readText_88 : decode cX3_readText 88 = .ok (.iconst 0, 1) := by decide +kernel
theorem dX3_readText_89 : decode cX3_readText 89 = .ok (.ireturn, 1) := by decide +kernel
theorem dX3_readText_90 : decode cX3_readText 90 = .ok (.aload_n 0, 1) := by decide +kernel
theorem dX3_readText_91 : decode cX3_readText 91 = .ok (.dup, 1) := by decide +kernel
theorem dX3_readText_92 : decode cX3_readText 92 = .ok (.getfield 15, 3) := by decide +kernel
theorem dX3_readText_95 : decode cX3_readText 95 = .ok (.iconst 1, 1) := by decide +kernel
theorem dX3_readText_96 : decode cX3_readText 96 = .ok (.iadd, 1) := by decide +kernel
theorem dX3_readText_97 : decode cX3_readText 97 = .ok (.putfield 15, 3) := by decide +kernel
theorem dX3_readText_100 : decode cX3_readText 100 = .ok (.goto (-49), 3) := by decide +kernel
theorem dX3_readText_103 : decode cX3_readText 103 = .ok (.aload_n 0, 1) := by decide +kernel
theorem dX3_readText_104 : decode cX3_readText 104 = .ok (.iconst 1, 1) := by decide +kernel
theorem dX3_readText_105 : decode cX3_readText 105 = .ok (.invokevirtual 60, 3) := by decide +kernel
theorem dX3_readText_108 : decode cX3_readText 108 = .ok (.ireturn, 1) := by decide +kernel
set_option maxRecDepth 20000 in
theorem ggX3_readScenes_X5_isWord : GoodIn wsX3_readScenes wsX5_isWord := goodIn_r _ [6, 7, 8, 9, 10, 11, 12, 13, 14, 15, 16, 17, 18, 19, 20, 21, 22, 23, 24, 25, 26, 27, 28, 29, 30, 31, 32, 33, 34, 35, 36, 37, 38, 39, 40, 41, 42, 43, 44, 45, 46, 47, 48, 49, 50, 51, 52, 53, 54, 55, 56, 57, 58, 59, 101, 102, 103, 104, 105, 106, 107] (by decide +kernel) (by decide +kernel)
set_option maxRecDepth 20000 in
theorem gX3_readScenes_X5_isWord_n66 : GoodIn wsX3_readScenes (wsX5_isWord) := ggX3_readScenes_X5_isWord
set_option maxRecDepth 20000 in
theorem ggX3_readScenes_X3_refuse : GoodIn wsX3_readScenes wsX3_refuse := goodIn_r _ [64, 65, 1, 66, 95, 96, 97, 98, 99, 100, 101, 102, 103, 104, 105] (by decide +kernel) (by decide +kernel)
set_option maxRecDepth 20000 in
theorem gX3_readScenes_X3_refuse : GoodIn wsX3_readScenes (wsV RX3 60 RX3 yX3_refuse wsX3_refuse) := goodIn_app (goodIn_of _ (by decide +kernel)) ggX3_readScenes_X3_refuse
set_option maxRecDepth 20000 in
theorem ggX3_readScenes_X3_readNumber : GoodIn wsX3_readScenes wsX3_readNumber := goodIn_r _ [70, 1, 71, 4, 72, 73, 8, 9, 10, 7, 74, 75, 76, 77, 78, 79, 80, 81, 82, 60, 61, 62, 63, 64, 65, 66, 95, 96, 97, 98, 99, 100, 101, 102, 103, 104, 105, 106, 107] (by decide +kernel) (by decide +kernel)
set_option maxRecDepth 20000 in
theorem gX3_readScenes_X3_readNumber : GoodIn wsX3_readScenes (wsV RX3 70 RX3 yX3_readNumber wsX3_readNumber) := goodIn_app (goodIn_of _ (by decide +kernel)) ggX3_readScenes_X3_readNumber
set_option maxRecDepth 20000 in
theorem ggX3_readScenes_X2_clear : GoodIn wsX3_readScenes wsX2_clear := goodIn_r _ [86, 87, 88, 89, 90, 108, 109, 110, 111, 112] (by decide +kernel) (by decide +kernel)
set_option maxRecDepth 20000 in
theorem gX3_readScenes_X2_clear_n77 : GoodIn wsX3_readScenes (wsX2_clear) := ggX3_readScenes_X2_clear
set_option maxRecDepth 20000 in
theorem ggX3_readScenes_X3_readSemicolon : GoodIn wsX3_readScenes wsX3_readSemicolon := goodIn_r _ [94, 1, 71, 4, 72, 73, 8, 9, 10, 7, 74, 75, 76, 77, 78, 79, 80, 81, 82, 60, 61, 62, 63, 64, 65, 66, 95, 96, 97, 98, 99, 100, 101, 102, 103, 104, 105, 106, 107] (by decide +kernel) (by decide +kernel)
set_option maxRecDepth 20000 in
theorem gX3_readScenes_X3_readSemicolon : GoodIn wsX3_readScenes (wsV RX3 83 RX3 yX3_readSemicolon wsX3_readSemicolon) := goodIn_app (goodIn_of _ (by decide +kernel)) ggX3_readScenes_X3_readSemicolon
theorem dX3_readScenes_0 : decode cX3_readScenes 0 = .ok (.aload_n 0, 1) := by decide +kernel
theorem dX3_readScenes_1 : decode cX3_readScenes 1 = .ok (.getfield 30, 3) := by decide +kernel
theorem dX3_readScenes_4 : decode cX3_readScenes 4 = .ok (.ldc 64, 2) := by decide +kernel
theorem dX3_readScenes_6 : decode cX3_readScenes 6 = .ok (.invokevirtual 66, 3) := by decide +kernel
theorem dX3_readScenes_9 : decode cX3_readScenes 9 = .ok (.ifCond .ne 9, 3) := by decide +kernel
theorem dX3_readScenes_12 : decode cX3_readScenes 12 = .ok (.aload_n 0, 1) := by decide +kernel
theorem dX3_readScenes_13 : decode cX3_readScenes 13 = .ok (.iconst 1, 1) := by decide +kernel
theorem dX3_readScenes_14 : decode cX3_readScenes 14 = .ok (.invokevirtual 60, 3) := by decide +kernel
theorem dX3_readScenes_17 : decode cX3_readScenes 17 = .ok (.ireturn, 1) := by decide +kernel
theorem dX3_readScenes_18 : decode cX3_readScenes 18 = .ok (.aload_n 0, 1) := by decide +kernel
theorem dX3_readScenes_19 : decode cX3_readScenes 19 = .ok (.iconst 1, 1) := by decide +kernel
theorem dX3_readScenes_20 : decode cX3_readScenes 20 = .ok (.iconst 4, 1) := by decide +kernel
theorem dX3_readScenes_21 : decode cX3_readScenes 21 = .ok (.invokevirtual 70, 3) := by decide +kernel
theorem dX3_readScenes_24 : decode cX3_readScenes 24 = .ok (.ifCond .ne 5, 3) := by decide +kernel
theorem dX3_readScenes_27 : decode cX3_readScenes 27 = .ok (.iconst 0, 1) := by decide +kernel
theorem dX3_readScenes_28 : decode cX3_readScenes 28 = .ok (.ireturn, 1) := by decide +kernel
theorem dX3_readScenes_29 : decode cX3_readScenes 29 = .ok (.aload_n 0, 1) := by decide +kernel
theorem dX3_readScenes_30 : decode cX3_readScenes 30 = .ok (.getfield 34, 3) := by decide +kernel
theorem dX3_readScenes_33 : decode cX3_readScenes 33 = .ok (.aload_n 0, 1) := by decide +kernel
theorem dX3_readScenes_34 : decode cX3_readScenes 34 = .ok (.getfield 30, 3) := by decide +kernel
theorem dX3_readScenes_37 : decode cX3_readScenes 37 = .ok (.getfield 74, 3) := by decide +kernel
theorem dX3_readScenes_40 : decode cX3_readScenes 40 = .ok (.invokevirtual 77, 3) := by decide +kernel
theorem dX3_readScenes_43 : decode cX3_readScenes 43 = .ok (.aload_n 0, 1) := by decide +kernel
theorem dX3_readScenes_44 : decode cX3_readScenes 44 = .ok (.invokevirtual 83, 3) := by decide +kernel
theorem dX3_readScenes_47 : decode cX3_readScenes 47 = .ok (.ireturn, 1) := by decide +kernel
set_option maxRecDepth 20000 in
theorem ggX3_readLine_X5_isWord : GoodIn wsX3_readLine wsX5_isWord := goodIn_r _ [5, 6, 7, 8, 9, 10, 11, 12, 13, 14, 15, 16, 17, 18, 19, 20, 21, 22, 23, 24, 25, 26, 27, 28, 29, 30, 31, 32, 33, 34, 35, 36, 37, 38, 39, 40, 41, 42, 43, 44, 45, 46, 47, 48, 49, 50, 51, 52, 53, 54, 55, 56, 57, 58, 127, 128, 129, 130, 131, 132, 133] (by decide +kernel) (by decide +kernel)
set_option maxRecDepth 20000 in
theorem gX3_readLine_X5_isWord_n66 : GoodIn wsX3_readLine (wsX5_isWord) := ggX3_readLine_X5_isWord
set_option maxRecDepth 20000 in
theorem ggX3_readLine_X3_readNode : GoodIn wsX3_readLine wsX3_readNode := goodIn_r _ [63, 64, 1, 65, 66, 67, 62, 68, 69, 70, 71, 72, 73, 74, 75, 3, 76, 77, 7, 8, 9, 6, 78, 79, 80, 81, 82, 83, 84, 85, 86, 87, 88, 89, 90, 91, 92, 93, 94, 95, 96, 97, 98, 99, 100, 101, 102, 103, 104, 105, 106, 107, 108, 109, 110, 111, 112, 121, 122, 123, 124, 125, 126, 134, 135, 136, 137, 138, 127, 128, 129, 130, 131, 132, 133] (by decide +kernel) (by decide +kernel)
set_option maxRecDepth 20000 in
theorem gX3_readLine_X3_readNode : GoodIn wsX3_readLine (wsV RX3 88 RX3 yX3_readNode wsX3_readNode) := goodIn_app (goodIn_of _ (by decide +kernel)) ggX3_readLine_X3_readNode
set_option maxRecDepth 20000 in
theorem ggX3_readLine_X3_readSet : GoodIn wsX3_readLine wsX3_readSet := goodIn_r _ [116, 1, 64, 117, 71, 72, 73, 62, 74, 75, 3, 76, 77, 7, 8, 9, 6, 78, 79, 80, 81, 82, 83, 84, 85, 86, 65, 66, 67, 68, 69, 70, 118, 88, 119, 120, 91, 92, 93, 94, 95, 96, 105, 106, 107, 108, 109, 110, 111, 112, 121, 122, 123, 124, 125, 126, 127, 128, 129, 130, 131, 134, 135, 136, 137, 138, 132, 133] (by decide +kernel) (by decide +kernel)
set_option maxRecDepth 20000 in
theorem gX3_readLine_X3_readSet : GoodIn wsX3_readLine (wsV RX3 96 RX3 yX3_readSet wsX3_readSet) := goodIn_app (goodIn_of _ (by decide +kernel)) ggX3_readLine_X3_readSet
set_option maxRecDepth 20000 in
theorem ggX3_readLine_X3_refuse : GoodIn wsX3_readLine wsX3_refuse := goodIn_r _ [68, 69, 1, 70, 121, 122, 123, 124, 125, 126, 127, 128, 129, 130, 131] (by decide +kernel) (by decide +kernel)
set_option maxRecDepth 20000 in
theorem gX3_readLine_X3_refuse : GoodIn wsX3_readLine (wsV RX3 60 RX3 yX3_refuse wsX3_refuse) := goodIn_app (goodIn_of _ (by decide +kernel)) ggX3_readLine_X3_refuse
theorem dX3_readLine_0 : decode cX3_readLine 0 = .ok (.aload_n 0, 1) := by decide +kernel
theorem dX3_readLine_1 : decode cX3_readLine 1 = .ok (.getfield 30, 3) := by decide +kernel
theorem dX3_readLine_4 : decode cX3_readLine 4 = .ok (.ldc 86, 2) := by decide +kernel
theorem dX3_readLine_6 : decode cX3_readLine 6 = .ok (.invokevirtual 66, 3) := by decide +kernel
theorem dX3_readLine_9 : decode cX3_readLine 9 = .ok (.ifCond .eq 9, 3) := by decide +kernel
theorem dX3_readLine_12 : decode cX3_readLine 12 = .ok (.aload_n 0, 1) := by decide +kernel
theorem dX3_readLine_13 : decode cX3_readLine 13 = .ok (.iconst 1, 1) := by decide +kernel
theorem dX3_readLine_14 : decode cX3_readLine 14 = .ok (.invokevirtual 88, 3) := by decide +kernel
theorem dX3_readLine_17 : decode cX3_readLine 17 = .ok (.ireturn, 1) := by decide +kernel
theorem dX3_readLine_18 : decode cX3_readLine 18 = .ok (.aload_n 0, 1) := by decide +kernel
theorem dX3_readLine_19 : decode cX3_readLine 19 = .ok (.getfield 30, 3) := by decide +kernel
theorem dX3_readLine_22 : decode cX3_readLine 22 = .ok (.ldc 92, 2) := by decide +kernel
theorem dX3_readLine_24 : decode cX3_readLine 24 = .ok (.invokevirtual 66, 3) := by decide +kernel
theorem dX3_readLine_27 : decode cX3_readLine 27 = .ok (.ifCond .eq 9, 3) := by decide +kernel
theorem dX3_readLine_30 : decode cX3_readLine 30 = .ok (.aload_n 0, 1) := by decide +kernel
theorem dX3_readLine_31 : decode cX3_readLine 31 = .ok (.iconst 0, 1) := by decide +kernel
theorem dX3_readLine_32 : decode cX3_readLine 32 = .ok (.invokevirtual 88, 3) := by decide +kernel
theorem dX3_readLine_35 : decode cX3_readLine 35 = .ok (.ireturn, 1) := by decide +kernel
theorem dX3_readLine_36 : decode cX3_readLine 36 = .ok (.aload_n 0, 1) := by decide +kernel
theorem dX3_readLine_37 : decode cX3_readLine 37 = .ok (.getfield 30, 3) := by decide +kernel
theorem dX3_readLine_40 : decode cX3_readLine 40 = .ok (.ldc 94, 2) := by decide +kernel
theorem dX3_readLine_42 : decode cX3_readLine 42 = .ok (.invokevirtual 66, 3) := by decide +kernel
theorem dX3_readLine_45 : decode cX3_readLine 45 = .ok (.ifCond .eq 8, 3) := by decide +kernel
theorem dX3_readLine_48 : decode cX3_readLine 48 = .ok (.aload_n 0, 1) := by decide +kernel
theorem dX3_readLine_49 : decode cX3_readLine 49 = .ok (.invokevirtual 96, 3) := by decide +kernel
theorem dX3_readLine_52 : decode cX3_readLine 52 = .ok (.ireturn, 1) := by decide +kernel
theorem dX3_readLine_53 : decode cX3_readLine 53 = .ok (.aload_n 0, 1) := by decide +kernel
theorem dX3_readLine_54 : decode cX3_readLine 54 = .ok (.iconst 1, 1) := by decide +kernel
theorem dX3_readLine_55 : decode cX3_readLine 55 = .ok (.invokevirtual 60, 3) := by decide +kernel
theorem dX3_readLine_58 : decode cX3_readLine 58 = .ok (.ireturn, 1) := by decide +kernel
set_option maxRecDepth 20000 in
theorem ggX3_readNode_X3_refuse : GoodIn wsX3_readNode wsX3_refuse := goodIn_r _ [7, 8, 2, 9, 57, 58, 59, 60, 61, 62, 68, 69, 70, 71, 72] (by decide +kernel) (by decide +kernel)
set_option maxRecDepth 20000 in
theorem gX3_readNode_X3_refuse : GoodIn wsX3_readNode (wsV RX3 60 RX3 yX3_refuse wsX3_refuse) := goodIn_app (goodIn_of _ (by decide +kernel)) ggX3_readNode_X3_refuse
set_option maxRecDepth 20000 in
theorem ggX3_readNode_X3_readNumber : GoodIn wsX3_readNode wsX3_readNumber := goodIn_r _ [13, 2, 14, 15, 16, 17, 18, 19, 20, 21, 22, 23, 24, 25, 26, 27, 28, 29, 30, 3, 4, 5, 6, 7, 8, 9, 57, 58, 59, 60, 61, 62, 68, 69, 70, 71, 72, 73, 74] (by decide +kernel) (by decide +kernel)
set_option maxRecDepth 20000 in
theorem gX3_readNode_X3_readNumber : GoodIn wsX3_readNode (wsV RX3 70 RX3 yX3_readNumber wsX3_readNumber) := goodIn_app (goodIn_of _ (by decide +kernel)) ggX3_readNode_X3_readNumber
set_option maxRecDepth 20000 in
theorem ggX3_readNode_X2_isGroup : GoodIn wsX3_readNode wsX2_isGroup := goodIn_r _ [34, 35, 36, 37, 38, 32, 39, 40, 63, 64, 65, 66, 67] (by decide +kernel) (by decide +kernel)
set_option maxRecDepth 20000 in
theorem gX3_readNode_X2_isGroup_n102 : GoodIn wsX3_readNode (wsX2_isGroup) := ggX3_readNode_X2_isGroup
set_option maxRecDepth 20000 in
theorem ggX3_readNode_X2_addGroup : GoodIn wsX3_readNode wsX2_addGroup := goodIn_r _ [43, 40, 44, 35, 63, 64, 65, 66, 67] (by decide +kernel) (by decide +kernel)
set_option maxRecDepth 20000 in
theorem gX3_readNode_X2_addGroup_n105 : GoodIn wsX3_readNode (wsX2_addGroup) := ggX3_readNode_X2_addGroup
set_option maxRecDepth 20000 in
theorem ggX3_readNode_X2_addLeaf : GoodIn wsX3_readNode wsX2_addLeaf := goodIn_r _ [47, 40, 44, 48, 49, 50, 32, 51, 52, 63, 64, 65, 66, 67] (by decide +kernel) (by decide +kernel)
set_option maxRecDepth 20000 in
theorem gX3_readNode_X2_addLeaf_n108 : GoodIn wsX3_readNode (wsX2_addLeaf) := ggX3_readNode_X2_addLeaf
set_option maxRecDepth 20000 in
theorem ggX3_readNode_X3_readSemicolon : GoodIn wsX3_readNode wsX3_readSemicolon := goodIn_r _ [56, 2, 14, 15, 16, 17, 18, 19, 20, 21, 22, 23, 24, 25, 26, 27, 28, 29, 30, 3, 4, 5, 6, 7, 8, 9, 57, 58, 59, 60, 61, 62, 68, 69, 70, 71, 72, 73, 74] (by decide +kernel) (by decide +kernel)
set_option maxRecDepth 20000 in
theorem gX3_readNode_X3_readSemicolon : GoodIn wsX3_readNode (wsV RX3 83 RX3 yX3_readSemicolon wsX3_readSemicolon) := goodIn_app (goodIn_of _ (by decide +kernel)) ggX3_readNode_X3_readSemicolon
theorem dX3_readNode_0 : decode cX3_readNode 0 = .ok (.aload_n 0, 1) := by decide +kernel
theorem dX3_readNode_1 : decode cX3_readNode 1 = .ok (.getfield 34, 3) := by decide +kernel
theorem dX3_readNode_4 : decode cX3_readNode 4 = .ok (.getfield 99, 3) := by decide +kernel
theorem dX3_readNode_7 : decode cX3_readNode 7 = .ok (.bipush 16, 2) := by decide +kernel
theorem dX3_readNode_9 : decode cX3_readNode 9 = .ok (.if_icmp .lt 9, 3) := by decide +kernel
theorem dX3_readNode_12 : decode cX3_readNode 12 = .ok (.aload_n 0, 1) := by decide +kernel
theorem dX3_readNode_13 : decode cX3_readNode 13 = .ok (.iconst 3, 1) := by decide +kernel
theorem dX3_readNode_14 : decode cX3_readNode 14 = .ok (.invokevirtual 60, 3) := by decide +kernel
theorem dX3_readNode_17 : decode cX3_readNode 17 = .ok (.ireturn, 1) := by decide +kernel
theorem dX3_readNode_18 : decode cX3_readNode 18 = .ok (.aload_n 0, 1) := by decide +kernel
theorem dX3_readNode_19 : decode cX3_readNode 19 = .ok (.iconst 0, 1) := by decide +kernel
theorem dX3_readNode_20 : decode cX3_readNode 20 = .ok (.bipush 20, 2) := by decide +kernel
theorem dX3_readNode_22 : decode cX3_readNode 22 = .ok (.invokevirtual 70, 3) := by decide +kernel
theorem dX3_readNode_25 : decode cX3_readNode 25 = .ok (.ifCond .ne 5, 3) := by decide +kernel
theorem dX3_readNode_28 : decode cX3_readNode 28 = .ok (.iconst 0, 1) := by decide +kernel
theorem dX3_readNode_29 : decode cX3_readNode 29 = .ok (.ireturn, 1) := by decide +kernel
theorem dX3_readNode_30 : decode cX3_readNode 30 = .ok (.aload_n 0, 1) := by decide +kernel
theorem dX3_readNode_31 : decode cX3_readNode 31 = .ok (.getfield 34, 3) := by decide +kernel
theorem dX3_readNode_34 : decode cX3_readNode 34 = .ok (.aload_n 0, 1) := by decide +kernel
theorem dX3_readNode_35 : decode cX3_readNode 35 = .ok (.getfield 30, 3) := by decide +kernel
theorem dX3_readNode_38 : decode cX3_readNode 38 = .ok (.getfield 74, 3) := by decide +kernel
theorem dX3_readNode_41 : decode cX3_readNode 41 = .ok (.invokevirtual 102, 3) := by decide +kernel
theorem dX3_readNode_44 : decode cX3_readNode 44 = .ok (.ifCond .ne 9, 3) := by decide +kernel
theorem dX3_readNode_47 : decode cX3_readNode 47 = .ok (.aload_n 0, 1) := by decide +kernel
theorem dX3_readNode_48 : decode cX3_readNode 48 = .ok (.iconst 2, 1) := by decide +kernel
theorem dX3_readNode_49 : decode cX3_readNode 49 = .ok (.invokevirtual 60, 3) := by decide +kernel
theorem dX3_readNode_52 : decode cX3_readNode 52 = .ok (.ireturn, 1) := by decide +kernel
theorem dX3_readNode_53 : decode cX3_readNode 53 = .ok (.iload_n 1, 1) := by decide +kernel
theorem dX3_readNode_54 : decode cX3_readNode 54 = .ok (.ifCond .eq 20, 3) := by decide +kernel
theorem dX3_readNode_57 : decode cX3_readNode 57 = .ok (.aload_n 0, 1) := by decide +kernel
theorem dX3_readNode_58 : decode cX3_readNode 58 = .ok (.getfield 34, 3) := by decide +kernel
theorem dX3_readNode_61 : decode cX3_readNode 61 = .ok (.aload_n 0, 1) := by decide +kernel
theorem dX3_readNode_62 : decode cX3_readNode 62 = .ok (.getfield 30, 3) := by decide +kernel
theorem dX3_readNode_65 : decode cX3_readNode 65 = .ok (.getfield 74, 3) := by decide +kernel
theorem dX3_readNode_68 : decode cX3_readNode 68 = .ok (.invokevirtual 105, 3) := by decide +kernel
theorem dX3_readNode_71 : decode cX3_readNode 71 = .ok (.goto 18, 3) := by decide +kernel
theorem dX3_readNode_74 : decode cX3_readNode 74 = .ok (.aload_n 0, 1) := by decide +kernel
theorem dX3_readNode_75 : decode cX3_readNode 75 = .ok (.getfield 34, 3) := by decide +kernel
theorem dX3_readNode_78 : decode cX3_readNode 78 = .ok (.aload_n 0, 1) := by decide +kernel
theorem dX3_readNode_79 : decode cX3_readNode 79 = .ok (.getfield 30, 3) := by decide +kernel
theorem dX3_readNode_82 : decode cX3_readNode 82 = .ok (.getfield 74, 3) := by decide +kernel
theorem dX3_readNode_85 : decode cX3_readNode 85 = .ok (.invokevirtual 108, 3) := by decide +kernel
theorem dX3_readNode_88 : decode cX3_readNode 88 = .ok (.pop, 1) := by decide +kernel
theorem dX3_readNode_89 : decode cX3_readNode 89 = .ok (.aload_n 0, 1) := by decide +kernel
theorem dX3_readNode_90 : decode cX3_readNode 90 = .ok (.invokevirtual 83, 3) := by decide +kernel
theorem dX3_readNode_93 : decode cX3_readNode 93 = .ok (.ireturn, 1) := by decide +kernel
set_option maxRecDepth 20000 in
theorem ggX3_readSet_X3_readNumber : GoodIn wsX3_readSet wsX3_readNumber := goodIn_r _ [8, 1, 9, 10, 11, 12, 13, 14, 15, 16, 17, 18, 19, 20, 21, 22, 23, 24, 25, 26, 27, 28, 7, 29, 30, 31, 50, 51, 52, 53, 54, 55, 56, 57, 58, 59, 60, 66, 67] (by decide +kernel) (by decide +kernel)
set_option maxRecDepth 20000 in
theorem gX3_readSet_X3_readNumber : GoodIn wsX3_readSet (wsV RX3 70 RX3 yX3_readNumber wsX3_readNumber) := goodIn_app (goodIn_of _ (by decide +kernel)) ggX3_readSet_X3_readNumber
set_option maxRecDepth 20000 in
theorem ggX3_readSet_X2_isLeaf : GoodIn wsX3_readSet wsX2_isLeaf := goodIn_r _ [35, 36, 37, 38, 39, 33, 40, 41, 61, 62, 63, 64, 65] (by decide +kernel) (by decide +kernel)
set_option maxRecDepth 20000 in
theorem gX3_readSet_X2_isLeaf_n112 : GoodIn wsX3_readSet (wsX2_isLeaf) := ggX3_readSet_X2_isLeaf
set_option maxRecDepth 20000 in
theorem ggX3_readSet_X3_refuse : GoodIn wsX3_readSet wsX3_refuse := goodIn_r _ [29, 30, 1, 31, 50, 51, 52, 53, 54, 55, 56, 57, 58, 59, 60] (by decide +kernel) (by decide +kernel)
set_option maxRecDepth 20000 in
theorem gX3_readSet_X3_refuse : GoodIn wsX3_readSet (wsV RX3 60 RX3 yX3_refuse wsX3_refuse) := goodIn_app (goodIn_of _ (by decide +kernel)) ggX3_readSet_X3_refuse
set_option maxRecDepth 20000 in
theorem ggX3_readSet_X2_putFactor : GoodIn wsX3_readSet wsX2_putFactor := goodIn_r _ [44, 45, 61, 62, 63, 64, 65] (by decide +kernel) (by decide +kernel)
set_option maxRecDepth 20000 in
theorem gX3_readSet_X2_putFactor_n123 : GoodIn wsX3_readSet (wsX2_putFactor) := ggX3_readSet_X2_putFactor
set_option maxRecDepth 20000 in
theorem ggX3_readSet_X3_readSemicolon : GoodIn wsX3_readSet wsX3_readSemicolon := goodIn_r _ [49, 1, 9, 10, 11, 12, 13, 14, 15, 16, 17, 18, 19, 20, 21, 22, 23, 24, 25, 26, 27, 28, 7, 29, 30, 31, 50, 51, 52, 53, 54, 55, 56, 57, 58, 59, 60, 66, 67] (by decide +kernel) (by decide +kernel)
set_option maxRecDepth 20000 in
theorem gX3_readSet_X3_readSemicolon : GoodIn wsX3_readSet (wsV RX3 83 RX3 yX3_readSemicolon wsX3_readSemicolon) := goodIn_app (goodIn_of _ (by decide +kernel)) ggX3_readSet_X3_readSemicolon
theorem dX3_readSet_0 : decode cX3_readSet 0 = .ok (.aload_n 0, 1) := by decide +kernel
theorem dX3_readSet_1 : decode cX3_readSet 1 = .ok (.iconst 0, 1) := by decide +kernel
theorem dX3_readSet_2 : decode cX3_readSet 2 = .ok (.bipush 20, 2) := by decide +kernel
theorem dX3_readSet_4 : decode cX3_readSet 4 = .ok (.invokevirtual 70, 3) := by decide +kernel
theorem dX3_readSet_7 : decode cX3_readSet 7 = .ok (.ifCond .ne 5, 3) := by decide +kernel
theorem dX3_readSet_10 : decode cX3_readSet 10 = .ok (.iconst 0, 1) := by decide +kernel
theorem dX3_readSet_11 : decode cX3_readSet 11 = .ok (.ireturn, 1) := by decide +kernel
theorem dX3_readSet_12 : decode cX3_readSet 12 = .ok (.aload_n 0, 1) := by decide +kernel
theorem dX3_readSet_13 : decode cX3_readSet 13 = .ok (.getfield 30, 3) := by decide +kernel
theorem dX3_readSet_16 : decode cX3_readSet 16 = .ok (.getfield 74, 3) := by decide +kernel
theorem dX3_readSet_19 : decode cX3_readSet 19 = .ok (.istore_n 1, 1) := by decide +kernel
theorem dX3_readSet_20 : decode cX3_readSet 20 = .ok (.aload_n 0, 1) := by decide +kernel
theorem dX3_readSet_21 : decode cX3_readSet 21 = .ok (.getfield 34, 3) := by decide +kernel
theorem dX3_readSet_24 : decode cX3_readSet 24 = .ok (.iload_n 1, 1) := by decide +kernel
theorem dX3_readSet_25 : decode cX3_readSet 25 = .ok (.invokevirtual 112, 3) := by decide +kernel
theorem dX3_readSet_28 : decode cX3_readSet 28 = .ok (.ifCond .ne 9, 3) := by decide +kernel
theorem dX3_readSet_31 : decode cX3_readSet 31 = .ok (.aload_n 0, 1) := by decide +kernel
theorem dX3_readSet_32 : decode cX3_readSet 32 = .ok (.iconst 2, 1) := by decide +kernel
theorem dX3_readSet_33 : decode cX3_readSet 33 = .ok (.invokevirtual 60, 3) := by decide +kernel
theorem dX3_readSet_36 : decode cX3_readSet 36 = .ok (.ireturn, 1) := by decide +kernel
theorem dX3_readSet_37 : decode cX3_readSet 37 = .ok (.aload_n 0, 1) := by decide +kernel
theorem dX3_readSet_38 : decode cX3_readSet 38 = .ok (.iconst 0, 1) := by decide +kernel
theorem dX3_readSet_39 : decode cX3_readSet 39 = .ok (.aload_n 0, 1) := by decide +kernel
theorem dX3_readSet_40 : decode cX3_readSet 40 = .ok (.getfield 34, 3) := by decide +kernel
theorem dX3_readSet_43 : decode cX3_readSet 43 = .ok (.getfield 115, 3) := by decide +kernel
theorem dX3_readSet_46 : decode cX3_readSet 46 = .ok (.iconst 1, 1) := by decide +kernel
theorem dX3_readSet_47 : decode cX3_readSet 47 = .ok (.isub, 1) := by decide +kernel
theorem dX3_readSet_48 : decode cX3_readSet 48 = .ok (.invokevirtual 70, 3) := by decide +kernel
theorem dX3_readSet_51 : decode cX3_readSet 51 = .ok (.ifCond .ne 5, 3) := by decide +kernel
theorem dX3_readSet_54 : decode cX3_readSet 54 = .ok (.iconst 0, 1) := by decide +kernel
theorem dX3_readSet_55 : decode cX3_readSet 55 = .ok (.ireturn, 1) := by decide +kernel
theorem dX3_readSet_56 : decode cX3_readSet 56 = .ok (.aload_n 0, 1) := by decide +kernel
theorem dX3_readSet_57 : decode cX3_readSet 57 = .ok (.getfield 30, 3) := by decide +kernel
theorem dX3_readSet_60 : decode cX3_readSet 60 = .ok (.getfield 74, 3) := by decide +kernel
theorem dX3_readSet_63 : decode cX3_readSet 63 = .ok (.istore_n 2, 1) := by decide +kernel
theorem dX3_readSet_64 : decode cX3_readSet 64 = .ok (.aload_n 0, 1) := by decide +kernel
theorem dX3_readSet_65 : decode cX3_readSet 65 = .ok (.getfield 9, 3) := by decide +kernel
theorem dX3_readSet_68 : decode cX3_readSet 68 = .ok (.iload_n 1, 1) := by decide +kernel
theorem dX3_readSet_69 : decode cX3_readSet 69 = .ok (.iaload, 1) := by decide +kernel
theorem dX3_readSet_70 : decode cX3_readSet 70 = .ok (.iload_n 2, 1) := by decide +kernel
theorem dX3_readSet_71 : decode cX3_readSet 71 = .ok (.ishr, 1) := by decide +kernel
theorem dX3_readSet_72 : decode cX3_readSet 72 = .ok (.iconst 1, 1) := by decide +kernel
theorem dX3_readSet_73 : decode cX3_readSet 73 = .ok (.iand, 1) := by decide +kernel
theorem dX3_readSet_74 : decode cX3_readSet 74 = .ok (.ifCond .eq 9, 3) := by decide +kernel
theorem dX3_readSet_77 : decode cX3_readSet 77 = .ok (.aload_n 0, 1) := by decide +kernel
theorem dX3_readSet_78 : decode cX3_readSet 78 = .ok (.iconst 2, 1) := by decide +kernel
theorem dX3_readSet_79 : decode cX3_readSet 79 = .ok (.invokevirtual 60, 3) := by decide +kernel
theorem dX3_readSet_82 : decode cX3_readSet 82 = .ok (.ireturn, 1) := by decide +kernel
theorem dX3_readSet_83 : decode cX3_readSet 83 = .ok (.aload_n 0, 1) := by decide +kernel
theorem dX3_readSet_84 : decode cX3_readSet 84 = .ok (.getfield 9, 3) := by decide +kernel
theorem dX3_readSet_87 : decode cX3_readSet 87 = .ok (.iload_n 1, 1) := by decide +kernel
theorem dX3_readSet_88 : decode cX3_readSet 88 = .ok (.dup2, 1) := by decide +kernel
theorem dX3_readSet_89 : decode cX3_readSet 89 = .ok (.iaload, 1) := by decide +kernel
theorem dX3_readSet_90 : decode cX3_readSet 90 = .ok (.iconst 1, 1) := by decide +kernel
theorem dX3_readSet_91 : decode cX3_readSet 91 = .ok (.iload_n 2, 1) := by decide +kernel
theorem dX3_readSet_92 : decode cX3_readSet 92 = .ok (.ishl, 1) := by decide +kernel
theorem dX3_readSet_93 : decode cX3_readSet 93 = .ok (.ior, 1) := by decide +kernel
theorem dX3_readSet_94 : decode cX3_readSet 94 = .ok (.iastore, 1) := by decide +kernel
theorem dX3_readSet_95 : decode cX3_readSet 95 = .ok (.iconst 0, 1) := by decide +kernel
theorem dX3_readSet_96 : decode cX3_readSet 96 = .ok (.istore_n 3, 1) := by decide +kernel
theorem dX3_readSet_97 : decode cX3_readSet 97 = .ok (.iload_n 3, 1) := by decide +kernel
theorem dX3_readSet_98 : decode cX3_readSet 98 = .ok (.iconst 5, 1) := by decide +kernel
theorem dX3_readSet_99 : decode cX3_readSet 99 = .ok (.if_icmp .ge 45, 3) := by decide +kernel
theorem dX3_readSet_102 : decode cX3_readSet 102 = .ok (.aload_n 0, 1) := by decide +kernel
theorem dX3_readSet_103 : decode cX3_readSet 103 = .ok (.getstatic 117, 3) := by decide +kernel
theorem dX3_readSet_106 : decode cX3_readSet 106 = .ok (.iload_n 3, 1) := by decide +kernel
theorem dX3_readSet_107 : decode cX3_readSet 107 = .ok (.iaload, 1) := by decide +kernel
theorem dX3_readSet_108 : decode cX3_readSet 108 = .ok (.getstatic 120, 3) := by decide +kernel
theorem dX3_readSet_111 : decode cX3_readSet 111 = .ok (.iload_n 3, 1) := by decide +kernel
theorem dX3_readSet_112 : decode cX3_readSet 112 = .ok (.iaload, 1) := by decide +kernel
theorem dX3_readSet_113 : decode cX3_readSet 113 = .ok (.invokevirtual 70, 3) := by decide +kernel
theorem dX3_readSet_116 : decode cX3_readSet 116 = .ok (.ifCond .ne 5, 3) := by decide +kernel
theorem dX3_readSet_119 : decode cX3_readSet 119 = .ok (.iconst 0, 1) := by decide +kernel
theorem dX3_readSet_120 : decode cX3_readSet 120 = .ok (.ireturn, 1) := by decide +kernel
theorem dX3_readSet_121 : decode cX3_readSet 121 = .ok (.aload_n 0, 1) := by decide +kernel
theorem dX3_readSet_122 : decode cX3_readSet 122 = .ok (.getfield 34, 3) := by decide +kernel
theorem dX3_readSet_125 : decode cX3_readSet 125 = .ok (.iload_n 1, 1) := by decide +kernel
theorem dX3_readSet_126 : decode cX3_readSet 126 = .ok (.iload_n 2, 1) := by decide +kernel
theorem dX3_readSet_127 : decode cX3_readSet 127 = .ok (.iload_n 3, 1) := by decide +kernel
theorem dX3_readSet_128 : decode cX3_readSet 128 = .ok (.aload_n 0, 1) := by decide +kernel
theorem dX3_readSet_129 : decode cX3_readSet 129 = .ok (.getfield 30, 3) := by decide +kernel
theorem dX3_readSet_132 : decode cX3_readSet 132 = .ok (.getfield 74, 3) := by decide +kernel
theorem dX3_readSet_135 : decode cX3_readSet 135 = .ok (.invokevirtual 123, 3) := by decide +kernel
theorem dX3_readSet_138 : decode cX3_readSet 138 = .ok (.iinc 3 1, 3) := by decide +kernel
theorem dX3_readSet_141 : decode cX3_readSet 141 = .ok (.goto (-44), 3) := by decide +kernel
theorem dX3_readSet_144 : decode cX3_readSet 144 = .ok (.aload_n 0, 1) := by decide +kernel
theorem dX3_readSet_145 : decode cX3_readSet 145 = .ok (.invokevirtual 83, 3) := by decide +kernel
theorem dX3_readSet_148 : decode cX3_readSet 148 = .ok (.ireturn, 1) := by decide +kernel
set_option maxRecDepth 20000 in
theorem ggX3_readNumber_X5_advance : GoodIn wsX3_readNumber wsX5_advance := goodIn_r _ [5, 6, 7, 8, 9, 10, 11, 12, 3, 13, 14, 15, 16, 17, 18, 32, 33, 34, 35, 36, 37, 38] (by decide +kernel) (by decide +kernel)
set_option maxRecDepth 20000 in
theorem gX3_readNumber_X5_advance_n47 : GoodIn wsX3_readNumber (wsX5_advance) := ggX3_readNumber_X5_advance
set_option maxRecDepth 20000 in
theorem ggX3_readNumber_X3_refuse : GoodIn wsX3_readNumber wsX3_refuse := goodIn_r _ [23, 24, 1, 25, 26, 27, 28, 29, 30, 31, 32, 33, 34, 35, 36] (by decide +kernel) (by decide +kernel)
set_option maxRecDepth 20000 in
theorem gX3_readNumber_X3_refuse : GoodIn wsX3_readNumber (wsV RX3 60 RX3 yX3_refuse wsX3_refuse) := goodIn_app (goodIn_of _ (by decide +kernel)) ggX3_readNumber_X3_refuse
theorem dX3_readNumber_0 : decode cX3_readNumber 0 = .ok (.aload_n 0, 1) := by decide +kernel
theorem dX3_readNumber_1 : decode cX3_readNumber 1 = .ok (.getfield 30, 3) := by decide +kernel
theorem dX3_readNumber_4 : decode cX3_readNumber 4 = .ok (.invokevirtual 47, 3) := by decide +kernel
theorem dX3_readNumber_7 : decode cX3_readNumber 7 = .ok (.aload_n 0, 1) := by decide +kernel
theorem dX3_readNumber_8 : decode cX3_readNumber 8 = .ok (.getfield 30, 3) := by decide +kernel
theorem dX3_readNumber_11 : decode cX3_readNumber 11 = .ok (.getfield 54, 3) := by decide +kernel
theorem dX3_readNumber_14 : decode cX3_readNumber 14 = .ok (.iconst 2, 1) := by decide +kernel
theorem dX3_readNumber_15 : decode cX3_readNumber 15 = .ok (.if_icmp .eq 9, 3) := by decide +kernel
theorem dX3_readNumber_18 : decode cX3_readNumber 18 = .ok (.aload_n 0, 1) := by decide +kernel
theorem dX3_readNumber_19 : decode cX3_readNumber 19 = .ok (.iconst 1, 1) := by decide +kernel
theorem dX3_readNumber_20 : decode cX3_readNumber 20 = .ok (.invokevirtual 60, 3) := by decide +kernel
theorem dX3_readNumber_23 : decode cX3_readNumber 23 = .ok (.ireturn, 1) := by decide +kernel
theorem dX3_readNumber_24 : decode cX3_readNumber 24 = .ok (.aload_n 0, 1) := by decide +kernel
theorem dX3_readNumber_25 : decode cX3_readNumber 25 = .ok (.getfield 30, 3) := by decide +kernel
theorem dX3_readNumber_28 : decode cX3_readNumber 28 = .ok (.getfield 74, 3) := by decide +kernel
theorem dX3_readNumber_31 : decode cX3_readNumber 31 = .ok (.iload_n 1, 1) := by decide +kernel
theorem dX3_readNumber_32 : decode cX3_readNumber 32 = .ok (.if_icmp .lt 14, 3) := by decide +kernel
theorem dX3_readNumber_35 : decode cX3_readNumber 35 = .ok (.aload_n 0, 1) := by decide +kernel
theorem dX3_readNumber_36 : decode cX3_readNumber 36 = .ok (.getfield 30, 3) := by decide +kernel
theorem dX3_readNumber_39 : decode cX3_readNumber 39 = .ok (.getfield 74, 3) := by decide +kernel
theorem dX3_readNumber_42 : decode cX3_readNumber 42 = .ok (.iload_n 2, 1) := by decide +kernel
theorem dX3_readNumber_43 : decode cX3_readNumber 43 = .ok (.if_icmp .le 9, 3) := by decide +kernel
theorem dX3_readNumber_46 : decode cX3_readNumber 46 = .ok (.aload_n 0, 1) := by decide +kernel
theorem dX3_readNumber_47 : decode cX3_readNumber 47 = .ok (.iconst 2, 1) := by decide +kernel
theorem dX3_readNumber_48 : decode cX3_readNumber 48 = .ok (.invokevirtual 60, 3) := by decide +kernel
theorem dX3_readNumber_51 : decode cX3_readNumber 51 = .ok (.ireturn, 1) := by decide +kernel
theorem dX3_readNumber_52 : decode cX3_readNumber 52 = .ok (.iconst 1, 1) := by decide +kernel
theorem dX3_readNumber_53 : decode cX3_readNumber 53 = .ok (.ireturn, 1) := by decide +kernel
set_option maxRecDepth 20000 in
theorem ggX3_readSemicolon_X5_advance : GoodIn wsX3_readSemicolon wsX5_advance := goodIn_r _ [5, 6, 7, 8, 9, 10, 11, 12, 3, 13, 14, 15, 16, 17, 18, 32, 33, 34, 35, 36, 37, 38] (by decide +kernel) (by decide +kernel)
set_option maxRecDepth 20000 in
theorem gX3_readSemicolon_X5_advance_n47 : GoodIn wsX3_readSemicolon (wsX5_advance) := ggX3_readSemicolon_X5_advance
set_option maxRecDepth 20000 in
theorem ggX3_readSemicolon_X3_refuse : GoodIn wsX3_readSemicolon wsX3_refuse := goodIn_r _ [23, 24, 1, 25, 26, 27, 28, 29, 30, 31, 32, 33, 34, 35, 36] (by decide +kernel) (by decide +kernel)
set_option maxRecDepth 20000 in
theorem gX3_readSemicolon_X3_refuse : GoodIn wsX3_readSemicolon (wsV RX3 60 RX3 yX3_refuse wsX3_refuse) := goodIn_app (goodIn_of _ (by decide +kernel)) ggX3_readSemicolon_X3_refuse
theorem dX3_readSemicolon_0 : decode cX3_readSemicolon 0 = .ok (.aload_n 0, 1) := by decide +kernel
theorem dX3_readSemicolon_1 : decode cX3_readSemicolon 1 = .ok (.getfield 30, 3) := by decide +kernel
theorem dX3_readSemicolon_4 : decode cX3_readSemicolon 4 = .ok (.invokevirtual 47, 3) := by decide +kernel
theorem dX3_readSemicolon_7 : decode cX3_readSemicolon 7 = .ok (.aload_n 0, 1) := by decide +kernel
theorem dX3_readSemicolon_8 : decode cX3_readSemicolon 8 = .ok (.getfield 30, 3) := by decide +kernel
theorem dX3_readSemicolon_11 : decode cX3_readSemicolon 11 = .ok (.getfield 54, 3) := by decide +kernel
theorem dX3_readSemicolon_14 : decode cX3_readSemicolon 14 = .ok (.iconst 3, 1) := by decide +kernel
theorem dX3_readSemicolon_15 : decode cX3_readSemicolon 15 = .ok (.if_icmp .eq 11, 3) := by decide +kernel
theorem dX3_readSemicolon_18 : decode cX3_readSemicolon 18 = .ok (.aload_n 0, 1) := by decide +kernel
theorem dX3_readSemicolon_19 : decode cX3_readSemicolon 19 = .ok (.iconst 1, 1) := by decide +kernel
theorem dX3_readSemicolon_20 : decode cX3_readSemicolon 20 = .ok (.invokevirtual 60, 3) := by decide +kernel
theorem dX3_readSemicolon_23 : decode cX3_readSemicolon 23 = .ok (.ifCond .eq 7, 3) := by decide +kernel
theorem dX3_readSemicolon_26 : decode cX3_readSemicolon 26 = .ok (.iconst 1, 1) := by decide +kernel
theorem dX3_readSemicolon_27 : decode cX3_readSemicolon 27 = .ok (.goto 4, 3) := by decide +kernel
theorem dX3_readSemicolon_30 : decode cX3_readSemicolon 30 = .ok (.iconst 0, 1) := by decide +kernel
theorem dX3_readSemicolon_31 : decode cX3_readSemicolon 31 = .ok (.ireturn, 1) := by decide +kernel
theorem dX3_refuse_0 : decode cX3_refuse 0 = .ok (.aload_n 0, 1) := by decide +kernel
theorem dX3_refuse_1 : decode cX3_refuse 1 = .ok (.iload_n 1, 1) := by decide +kernel
theorem dX3_refuse_2 : decode cX3_refuse 2 = .ok (.putfield 19, 3) := by decide +kernel
theorem dX3_refuse_5 : decode cX3_refuse 5 = .ok (.aload_n 0, 1) := by decide +kernel
theorem dX3_refuse_6 : decode cX3_refuse 6 = .ok (.aload_n 0, 1) := by decide +kernel
theorem dX3_refuse_7 : decode cX3_refuse 7 = .ok (.getfield 30, 3) := by decide +kernel
theorem dX3_refuse_10 : decode cX3_refuse 10 = .ok (.getfield 127, 3) := by decide +kernel
theorem dX3_refuse_13 : decode cX3_refuse 13 = .ok (.putfield 22, 3) := by decide +kernel
theorem dX3_refuse_16 : decode cX3_refuse 16 = .ok (.iconst 0, 1) := by decide +kernel
theorem dX3_refuse_17 : decode cX3_refuse 17 = .ok (.ireturn, 1) := by decide +kernel
