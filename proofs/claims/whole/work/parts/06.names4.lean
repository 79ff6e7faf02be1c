theorem dX5_leaves_1 : decode cX5_leaves 1 = .ok (.getfield 45, 3) := by decide +kernel
theorem dX5_leaves_4 : decode cX5_leaves 4 = .ok (.iload_n 1, 1) := by decide +kernel
theorem dX5_leaves_5 : decode cX5_leaves 5 = .ok (.iaload, 1) := by decide +kernel
theorem dX5_leaves_6 : decode cX5_leaves 6 = .ok (.iconst 1, 1) := by decide +kernel
theorem dX5_leaves_7 : decode cX5_leaves 7 = .ok (.isub, 1) := by decide +kernel
theorem dX5_leaves_8 : decode cX5_leaves 8 = .ok (.istore_n 2, 1) := by decide +kernel
theorem dX5_leaves_9 : decode cX5_leaves 9 = .ok (.iload_n 2, 1) := by decide +kernel
theorem dX5_leaves_10 : decode cX5_leaves 10 = .ok (.ifCond .lt 25, 3) := by decide +kernel
theorem dX5_leaves_13 : decode cX5_leaves 13 = .ok (.aload_n 0, 1) := by decide +kernel
theorem dX5_leaves_14 : decode cX5_leaves 14 = .ok (.getfield 66, 3) := by decide +kernel
theorem dX5_leaves_17 : decode cX5_leaves 17 = .ok (.iload_n 2, 1) := by decide +kernel
theorem dX5_leaves_18 : decode cX5_leaves 18 = .ok (.iaload, 1) := by decide +kernel
theorem dX5_leaves_19 : decode cX5_leaves 19 = .ok (.iconst 2, 1) := by decide +kernel
theorem dX5_leaves_20 : decode cX5_leaves 20 = .ok (.aload_n 0, 1) := by decide +kernel
theorem dX5_leaves_21 : decode cX5_leaves 21 = .ok (.getfield 48, 3) := by decide +kernel
theorem dX5_leaves_24 : decode cX5_leaves 24 = .ok (.iload_n 2, 1) := by decide +kernel
theorem dX5_leaves_25 : decode cX5_leaves 25 = .ok (.iaload, 1) := by decide +kernel
theorem dX5_leaves_26 : decode cX5_leaves 26 = .ok (.imul, 1) := by decide +kernel
theorem dX5_leaves_27 : decode cX5_leaves 27 = .ok (.iadd, 1) := by decide +kernel
theorem dX5_leaves_28 : decode cX5_leaves 28 = .ok (.aload_n 0, 1) := by decide +kernel
theorem dX5_leaves_29 : decode cX5_leaves 29 = .ok (.getfield 87, 3) := by decide +kernel
theorem dX5_leaves_32 : decode cX5_leaves 32 = .ok (.if_icmp .eq 4, 3) := by decide +kernel
theorem dX5_leaves_35 : decode cX5_leaves 35 = .ok (.return_, 1) := by decide +kernel
theorem dX5_leaves_36 : decode cX5_leaves 36 = .ok (.aload_n 0, 1) := by decide +kernel
theorem dX5_leaves_37 : decode cX5_leaves 37 = .ok (.getfield 45, 3) := by decide +kernel
theorem dX5_leaves_40 : decode cX5_leaves 40 = .ok (.iload_n 1, 1) := by decide +kernel
theorem dX5_leaves_41 : decode cX5_leaves 41 = .ok (.iconst 0, 1) := by decide +kernel
theorem dX5_leaves_42 : decode cX5_leaves 42 = .ok (.iastore, 1) := by decide +kernel
theorem dX5_leaves_43 : decode cX5_leaves 43 = .ok (.aload_n 0, 1) := by decide +kernel
theorem dX5_leaves_44 : decode cX5_leaves 44 = .ok (.getfield 87, 3) := by decide +kernel
theorem dX5_leaves_47 : decode cX5_leaves 47 = .ok (.aload_n 0, 1) := by decide +kernel
theorem dX5_leaves_48 : decode cX5_leaves 48 = .ok (.getfield 57, 3) := by decide +kernel
theorem dX5_leaves_51 : decode cX5_leaves 51 = .ok (.iload_n 2, 1) := by decide +kernel
theorem dX5_leaves_52 : decode cX5_leaves 52 = .ok (.iaload, 1) := by decide +kernel
theorem dX5_leaves_53 : decode cX5_leaves 53 = .ok (.iadd, 1) := by decide +kernel
theorem dX5_leaves_54 : decode cX5_leaves 54 = .ok (.istore_n 3, 1) := by decide +kernel
theorem dX5_leaves_55 : decode cX5_leaves 55 = .ok (.iload_n 3, 1) := by decide +kernel
theorem dX5_leaves_56 : decode cX5_leaves 56 = .ok (.aload_n 0, 1) := by decide +kernel
theorem dX5_leaves_57 : decode cX5_leaves 57 = .ok (.getfield 66, 3) := by decide +kernel
theorem dX5_leaves_60 : decode cX5_leaves 60 = .ok (.iload_n 2, 1) := by decide +kernel
theorem dX5_leaves_61 : decode cX5_leaves 61 = .ok (.iaload, 1) := by decide +kernel
theorem dX5_leaves_62 : decode cX5_leaves 62 = .ok (.isub, 1) := by decide +kernel
theorem dX5_leaves_63 : decode cX5_leaves 63 = .ok (.aload_n 0, 1) := by decide +kernel
theorem dX5_leaves_64 : decode cX5_leaves 64 = .ok (.getfield 69, 3) := by decide +kernel
theorem dX5_leaves_67 : decode cX5_leaves 67 = .ok (.iload_n 2, 1) := by decide +kernel
theorem dX5_leaves_68 : decode cX5_leaves 68 = .ok (.iaload, 1) := by decide +kernel
theorem dX5_leaves_69 : decode cX5_leaves 69 = .ok (.if_icmp .gt 20, 3) := by decide +kernel
theorem dX5_leaves_72 : decode cX5_leaves 72 = .ok (.aload_n 0, 1) := by decide +kernel
theorem dX5_leaves_73 : decode cX5_leaves 73 = .ok (.getfield 63, 3) := by decide +kernel
theorem dX5_leaves_76 : decode cX5_leaves 76 = .ok (.iload_n 2, 1) := by decide +kernel
theorem dX5_leaves_77 : decode cX5_leaves 77 = .ok (.iconst 2, 1) := by decide +kernel
theorem dX5_leaves_78 : decode cX5_leaves 78 = .ok (.iastore, 1) := by decide +kernel
theorem dX5_leaves_79 : decode cX5_leaves 79 = .ok (.aload_n 0, 1) := by decide +kernel
theorem dX5_leaves_80 : decode cX5_leaves 80 = .ok (.getfield 75, 3) := by decide +kernel
theorem dX5_leaves_83 : decode cX5_leaves 83 = .ok (.iload_n 2, 1) := by decide +kernel
theorem dX5_leaves_84 : decode cX5_leaves 84 = .ok (.iload_n 3, 1) := by decide +kernel
theorem dX5_leaves_85 : decode cX5_leaves 85 = .ok (.iastore, 1) := by decide +kernel
theorem dX5_leaves_86 : decode cX5_leaves 86 = .ok (.goto 27, 3) := by decide +kernel
theorem dX5_leaves_89 : decode cX5_leaves 89 = .ok (.aload_n 0, 1) := by decide +kernel
theorem dX5_leaves_90 : decode cX5_leaves 90 = .ok (.getfield 63, 3) := by decide +kernel
theorem dX5_leaves_93 : decode cX5_leaves 93 = .ok (.iload_n 2, 1) := by decide +kernel
theorem dX5_leaves_94 : decode cX5_leaves 94 = .ok (.iconst 0, 1) := by decide +kernel
theorem dX5_leaves_95 : decode cX5_leaves 95 = .ok (.iastore, 1) := by decide +kernel
theorem dX5_leaves_96 : decode cX5_leaves 96 = .ok (.aload_n 0, 1) := by decide +kernel
theorem dX5_leaves_97 : decode cX5_leaves 97 = .ok (.getfield 54, 3) := by decide +kernel
theorem dX5_leaves_100 : decode cX5_leaves 100 = .ok (.iload_n 2, 1) := by decide +kernel
theorem dX5_leaves_101 : decode cX5_leaves 101 = .ok (.iload_n 3, 1) := by decide +kernel
theorem dX5_leaves_102 : decode cX5_leaves 102 = .ok (.iastore, 1) := by decide +kernel
theorem dX5_leaves_103 : decode cX5_leaves 103 = .ok (.aload_n 0, 1) := by decide +kernel
theorem dX5_leaves_104 : decode cX5_leaves 104 = .ok (.getfield 72, 3) := by decide +kernel
theorem dX5_leaves_107 : decode cX5_leaves 107 = .ok (.iload_n 2, 1) := by decide +kernel
theorem dX5_leaves_108 : decode cX5_leaves 108 = .ok (.dup2, 1) := by decide +kernel
theorem dX5_leaves_109 : decode cX5_leaves 109 = .ok (.iaload, 1) := by decide +kernel
theorem dX5_leaves_110 : decode cX5_leaves 110 = .ok (.iconst 1, 1) := by decide +kernel
theorem dX5_leaves_111 : decode cX5_leaves 111 = .ok (.iadd, 1) := by decide +kernel
theorem dX5_leaves_112 : decode cX5_leaves 112 = .ok (.iastore, 1) := by decide +kernel
theorem dX5_leaves_113 : decode cX5_leaves 113 = .ok (.return_, 1) := by decide +kernel
theorem dX5_mayBegin_0 : decode cX5_mayBegin 0 = .ok (.aload_n 0, 1) := by decide +kernel
theorem dX5_mayBegin_1 : decode cX5_mayBegin 1 = .ok (.getfield 63, 3) := by decide +kernel
theorem dX5_mayBegin_4 : decode cX5_mayBegin 4 = .ok (.iload_n 1, 1) := by decide +kernel
theorem dX5_mayBegin_5 : decode cX5_mayBegin 5 = .ok (.iaload, 1) := by decide +kernel
theorem dX5_mayBegin_6 : decode cX5_mayBegin 6 = .ok (.ifCond .ne 64, 3) := by decide +kernel
theorem dX5_mayBegin_9 : decode cX5_mayBegin 9 = .ok (.aload_n 0, 1) := by decide +kernel
theorem dX5_mayBegin_10 : decode cX5_mayBegin 10 = .ok (.getfield 54, 3) := by decide +kernel
theorem dX5_mayBegin_13 : decode cX5_mayBegin 13 = .ok (.iload_n 1, 1) := by decide +kernel
theorem dX5_mayBegin_14 : decode cX5_mayBegin 14 = .ok (.iaload, 1) := by decide +kernel
theorem dX5_mayBegin_15 : decode cX5_mayBegin 15 = .ok (.aload_n 0, 1) := by decide +kernel
theorem dX5_mayBegin_16 : decode cX5_mayBegin 16 = .ok (.getfield 87, 3) := by decide +kernel
theorem dX5_mayBegin_19 : decode cX5_mayBegin 19 = .ok (.if_icmp .gt 51, 3) := by decide +kernel
theorem dX5_mayBegin_22 : decode cX5_mayBegin 22 = .ok (.aload_n 0, 1) := by decide +kernel
theorem dX5_mayBegin_23 : decode cX5_mayBegin 23 = .ok (.getfield 32, 3) := by decide +kernel
theorem dX5_mayBegin_26 : decode cX5_mayBegin 26 = .ok (.aload_n 0, 1) := by decide +kernel
theorem dX5_mayBegin_27 : decode cX5_mayBegin 27 = .ok (.getfield 60, 3) := by decide +kernel
theorem dX5_mayBegin_30 : decode cX5_mayBegin 30 = .ok (.iload_n 1, 1) := by decide +kernel
theorem dX5_mayBegin_31 : decode cX5_mayBegin 31 = .ok (.iaload, 1) := by decide +kernel
theorem dX5_mayBegin_32 : decode cX5_mayBegin 32 = .ok (.iaload, 1) := by decide +kernel
theorem dX5_mayBegin_33 : decode cX5_mayBegin 33 = .ok (.bipush 10, 2) := by decide +kernel
theorem dX5_mayBegin_35 : decode cX5_mayBegin 35 = .ok (.aload_n 0, 1) := by decide +kernel
theorem dX5_mayBegin_36 : decode cX5_mayBegin 36 = .ok (.getfield 48, 3) := by decide +kernel
theorem dX5_mayBegin_39 : decode cX5_mayBegin 39 = .ok (.iload_n 1, 1) := by decide +kernel
theorem dX5_mayBegin_40 : decode cX5_mayBegin 40 = .ok (.iaload, 1) := by decide +kernel
theorem dX5_mayBegin_41 : decode cX5_mayBegin 41 = .ok (.imul, 1) := by decide +kernel
theorem dX5_mayBegin_42 : decode cX5_mayBegin 42 = .ok (.if_icmp .lt 28, 3) := by decide +kernel
theorem dX5_mayBegin_45 : decode cX5_mayBegin 45 = .ok (.aload_n 0, 1) := by decide +kernel
theorem dX5_mayBegin_46 : decode cX5_mayBegin 46 = .ok (.getfield 123, 3) := by decide +kernel
theorem dX5_mayBegin_49 : decode cX5_mayBegin 49 = .ok (.bipush 8, 2) := by decide +kernel
theorem dX5_mayBegin_51 : decode cX5_mayBegin 51 = .ok (.aload_n 0, 1) := by decide +kernel
theorem dX5_mayBegin_52 : decode cX5_mayBegin 52 = .ok (.getfield 48, 3) := by decide +kernel
theorem dX5_mayBegin_55 : decode cX5_mayBegin 55 = .ok (.iload_n 1, 1) := by decide +kernel
theorem dX5_mayBegin_56 : decode cX5_mayBegin 56 = .ok (.iaload, 1) := by decide +kernel
theorem dX5_mayBegin_57 : decode cX5_mayBegin 57 = .ok (.imul, 1) := by decide +kernel
theorem dX5_mayBegin_58 : decode cX5_mayBegin 58 = .ok (.iadd, 1) := by decide +kernel
theorem dX5_mayBegin_59 : decode cX5_mayBegin 59 = .ok (.aload_n 0, 1) := by decide +kernel
theorem dX5_mayBegin_60 : decode cX5_mayBegin 60 = .ok (.getfield 39, 3) := by decide +kernel
theorem dX5_mayBegin_63 : decode cX5_mayBegin 63 = .ok (.if_icmp .gt 7, 3) := by decide +kernel
theorem dX5_mayBegin_66 : decode cX5_mayBegin 66 = .ok (.iconst 1, 1) := by decide +kernel
theorem dX5_mayBegin_67 : decode cX5_mayBegin 67 = .ok (.goto 4, 3) := by decide +kernel
theorem dX5_mayBegin_70 : decode cX5_mayBegin 70 = .ok (.iconst 0, 1) := by decide +kernel
theorem dX5_mayBegin_71 : decode cX5_mayBegin 71 = .ok (.ireturn, 1) := by decide +kernel
set_option maxRecDepth 20000 in
theorem ggX5_begins_X5_mayBegin : GoodIn wsX5_begins wsX5_mayBegin := goodIn_r _ [17, 4, 3, 6, 9, 8, 10, 11, 18, 38, 39, 40, 41, 42, 43, 44, 45, 46, 47, 48, 49, 50, 51, 52, 53, 54, 55, 56, 57, 58, 59, 60, 61, 62, 63, 64, 65, 66, 67, 68, 69] (by decide +kernel) (by decide +kernel)
set_option maxRecDepth 20000 in
theorem gX5_begins_X5_mayBegin : GoodIn wsX5_begins (wsV RX5 126 RX5 yX5_mayBegin wsX5_mayBegin) := goodIn_app (goodIn_of _ (by decide +kernel)) ggX5_begins_X5_mayBegin
set_option maxRecDepth 20000 in
theorem ggX5_begins_X5_holdOf : GoodIn wsX5_begins wsX5_holdOf := goodIn_r _ [22, 23, 24, 25, 26, 27, 28, 29, 16, 30, 31, 32, 33, 34, 35, 36, 37, 38, 39, 40, 41, 42, 43, 44, 45, 46, 47, 48, 49, 50, 51, 52, 53, 54, 55, 56, 57, 58, 59, 60, 61, 62, 63, 64, 65, 66, 67, 68, 69] (by decide +kernel) (by decide +kernel)
set_option maxRecDepth 20000 in
theorem gX5_begins_X5_holdOf : GoodIn wsX5_begins (wsV RX5 116 RX5 yX5_holdOf wsX5_holdOf) := goodIn_app (goodIn_of _ (by decide +kernel)) ggX5_begins_X5_holdOf
theorem dX5_begins_0 : decode cX5_begins 0 = .ok (.aload_n 0, 1) := by decide +kernel
theorem dX5_begins_1 : decode cX5_begins 1 = .ok (.getfield 45, 3) := by decide +kernel
theorem dX5_begins_4 : decode cX5_begins 4 = .ok (.iload_n 1, 1) := by decide +kernel
theorem dX5_begins_5 : decode cX5_begins 5 = .ok (.iaload, 1) := by decide +kernel
theorem dX5_begins_6 : decode cX5_begins 6 = .ok (.ifCond .le 4, 3) := by decide +kernel
theorem dX5_begins_9 : decode cX5_begins 9 = .ok (.return_, 1) := by decide +kernel
theorem dX5_begins_10 : decode cX5_begins 10 = .ok (.iconst (-1), 1) := by decide +kernel
theorem dX5_begins_11 : decode cX5_begins 11 = .ok (.istore_n 2, 1) := by decide +kernel
theorem dX5_begins_12 : decode cX5_begins 12 = .ok (.iconst 0, 1) := by decide +kernel
theorem dX5_begins_13 : decode cX5_begins 13 = .ok (.istore_n 3, 1) := by decide +kernel
theorem dX5_begins_14 : decode cX5_begins 14 = .ok (.iload_n 3, 1) := by decide +kernel
theorem dX5_begins_15 : decode cX5_begins 15 = .ok (.aload_n 0, 1) := by decide +kernel
theorem dX5_begins_16 : decode cX5_begins 16 = .ok (.getfield 120, 3) := by decide +kernel
theorem dX5_begins_19 : decode cX5_begins 19 = .ok (.if_icmp .ge 42, 3) := by decide +kernel
theorem dX5_begins_22 : decode cX5_begins 22 = .ok (.aload_n 0, 1) := by decide +kernel
theorem dX5_begins_23 : decode cX5_begins 23 = .ok (.iload_n 3, 1) := by decide +kernel
theorem dX5_begins_24 : decode cX5_begins 24 = .ok (.invokevirtual 126, 3) := by decide +kernel
theorem dX5_begins_27 : decode cX5_begins 27 = .ok (.ifCond .eq 26, 3) := by decide +kernel
theorem dX5_begins_30 : decode cX5_begins 30 = .ok (.iload_n 2, 1) := by decide +kernel
theorem dX5_begins_31 : decode cX5_begins 31 = .ok (.ifCond .lt 18, 3) := by decide +kernel
theorem dX5_begins_34 : decode cX5_begins 34 = .ok (.aload_n 0, 1) := by decide +kernel
theorem dX5_begins_35 : decode cX5_begins 35 = .ok (.getfield 54, 3) := by decide +kernel
theorem dX5_begins_38 : decode cX5_begins 38 = .ok (.iload_n 3, 1) := by decide +kernel
theorem dX5_begins_39 : decode cX5_begins 39 = .ok (.iaload, 1) := by decide +kernel
theorem dX5_begins_40 : decode cX5_begins 40 = .ok (.aload_n 0, 1) := by decide +kernel
theorem dX5_begins_41 : decode cX5_begins 41 = .ok (.getfield 54, 3) := by decide +kernel
theorem dX5_begins_44 : decode cX5_begins 44 = .ok (.iload_n 2, 1) := by decide +kernel
theorem dX5_begins_45 : decode cX5_begins 45 = .ok (.iaload, 1) := by decide +kernel
theorem dX5_begins_46 : decode cX5_begins 46 = .ok (.if_icmp .ge 7, 3) := by decide +kernel
theorem dX5_begins_49 : decode cX5_begins 49 = .ok (.iload_n 3, 1) := by decide +kernel
theorem dX5_begins_50 : decode cX5_begins 50 = .ok (.goto 4, 3) := by decide +kernel
theorem dX5_begins_53 : decode cX5_begins 53 = .ok (.iload_n 2, 1) := by decide +kernel
theorem dX5_begins_54 : decode cX5_begins 54 = .ok (.istore_n 2, 1) := by decide +kernel
theorem dX5_begins_55 : decode cX5_begins 55 = .ok (.iinc 3 1, 3) := by decide +kernel
theorem dX5_begins_58 : decode cX5_begins 58 = .ok (.goto (-44), 3) := by decide +kernel
theorem dX5_begins_61 : decode cX5_begins 61 = .ok (.iload_n 2, 1) := by decide +kernel
theorem dX5_begins_62 : decode cX5_begins 62 = .ok (.ifCond .lt 100, 3) := by decide +kernel
theorem dX5_begins_65 : decode cX5_begins 65 = .ok (.aload_n 0, 1) := by decide +kernel
theorem dX5_begins_66 : decode cX5_begins 66 = .ok (.getfield 45, 3) := by decide +kernel
theorem dX5_begins_69 : decode cX5_begins 69 = .ok (.iload_n 1, 1) := by decide +kernel
theorem dX5_begins_70 : decode cX5_begins 70 = .ok (.iload_n 2, 1) := by decide +kernel
theorem dX5_begins_71 : decode cX5_begins 71 = .ok (.iconst 1, 1) := by decide +kernel
theorem dX5_begins_72 : decode cX5_begins 72 = .ok (.iadd, 1) := by decide +kernel
theorem dX5_begins_73 : decode cX5_begins 73 = .ok (.iastore, 1) := by decide +kernel
theorem dX5_begins_74 : decode cX5_begins 74 = .ok (.aload_n 0, 1) := by decide +kernel
theorem dX5_begins_75 : decode cX5_begins 75 = .ok (.getfield 63, 3) := by decide +kernel
theorem dX5_begins_78 : decode cX5_begins 78 = .ok (.iload_n 2, 1) := by decide +kernel
theorem dX5_begins_79 : decode cX5_begins 79 = .ok (.iconst 1, 1) := by decide +kernel
theorem dX5_begins_80 : decode cX5_begins 80 = .ok (.iastore, 1) := by decide +kernel
theorem dX5_begins_81 : decode cX5_begins 81 = .ok (.aload_n 0, 1) := by decide +kernel
theorem dX5_begins_82 : decode cX5_begins 82 = .ok (.getfield 66, 3) := by decide +kernel
theorem dX5_begins_85 : decode cX5_begins 85 = .ok (.iload_n 2, 1) := by decide +kernel
theorem dX5_begins_86 : decode cX5_begins 86 = .ok (.aload_n 0, 1) := by decide +kernel
theorem dX5_begins_87 : decode cX5_begins 87 = .ok (.getfield 87, 3) := by decide +kernel
theorem dX5_begins_90 : decode cX5_begins 90 = .ok (.iastore, 1) := by decide +kernel
theorem dX5_begins_91 : decode cX5_begins 91 = .ok (.aload_n 0, 1) := by decide +kernel
theorem dX5_begins_92 : decode cX5_begins 92 = .ok (.getfield 69, 3) := by decide +kernel
theorem dX5_begins_95 : decode cX5_begins 95 = .ok (.iload_n 2, 1) := by decide +kernel
theorem dX5_begins_96 : decode cX5_begins 96 = .ok (.aload_n 0, 1) := by decide +kernel
theorem dX5_begins_97 : decode cX5_begins 97 = .ok (.aload_n 0, 1) := by decide +kernel
theorem dX5_begins_98 : decode cX5_begins 98 = .ok (.getfield 60, 3) := by decide +kernel
theorem dX5_begins_101 : decode cX5_begins 101 = .ok (.iload_n 2, 1) := by decide +kernel
theorem dX5_begins_102 : decode cX5_begins 102 = .ok (.iaload, 1) := by decide +kernel
theorem dX5_begins_103 : decode cX5_begins 103 = .ok (.aload_n 0, 1) := by decide +kernel
theorem dX5_begins_104 : decode cX5_begins 104 = .ok (.getfield 87, 3) := by decide +kernel
theorem dX5_begins_107 : decode cX5_begins 107 = .ok (.invokevirtual 116, 3) := by decide +kernel
theorem dX5_begins_110 : decode cX5_begins 110 = .ok (.iastore, 1) := by decide +kernel
theorem dX5_begins_111 : decode cX5_begins 111 = .ok (.aload_n 0, 1) := by decide +kernel
theorem dX5_begins_112 : decode cX5_begins 112 = .ok (.getfield 32, 3) := by decide +kernel
theorem dX5_begins_115 : decode cX5_begins 115 = .ok (.aload_n 0, 1) := by decide +kernel
theorem dX5_begins_116 : decode cX5_begins 116 = .ok (.getfield 60, 3) := by decide +kernel
theorem dX5_begins_119 : decode cX5_begins 119 = .ok (.iload_n 2, 1) := by decide +kernel
theorem dX5_begins_120 : decode cX5_begins 120 = .ok (.iaload, 1) := by decide +kernel
theorem dX5_begins_121 : decode cX5_begins 121 = .ok (.dup2, 1) := by decide +kernel
theorem dX5_begins_122 : decode cX5_begins 122 = .ok (.iaload, 1) := by decide +kernel
theorem dX5_begins_123 : decode cX5_begins 123 = .ok (.bipush 10, 2) := by decide +kernel
theorem dX5_begins_125 : decode cX5_begins 125 = .ok (.aload_n 0, 1) := by decide +kernel
theorem dX5_begins_126 : decode cX5_begins 126 = .ok (.getfield 48, 3) := by decide +kernel
theorem dX5_begins_129 : decode cX5_begins 129 = .ok (.iload_n 2, 1) := by decide +kernel
theorem dX5_begins_130 : decode cX5_begins 130 = .ok (.iaload, 1) := by decide +kernel
theorem dX5_begins_131 : decode cX5_begins 131 = .ok (.imul, 1) := by decide +kernel
theorem dX5_begins_132 : decode cX5_begins 132 = .ok (.isub, 1) := by decide +kernel
theorem dX5_begins_133 : decode cX5_begins 133 = .ok (.iastore, 1) := by decide +kernel
theorem dX5_begins_134 : decode cX5_begins 134 = .ok (.aload_n 0, 1) := by decide +kernel
theorem dX5_begins_135 : decode cX5_begins 135 = .ok (.dup, 1) := by decide +kernel
theorem dX5_begins_136 : decode cX5_begins 136 = .ok (.getfield 123, 3) := by decide +kernel
theorem dX5_begins_139 : decode cX5_begins 139 = .ok (.bipush 8, 2) := by decide +kernel
theorem dX5_begins_141 : decode cX5_begins 141 = .ok (.aload_n 0, 1) := by decide +kernel
theorem dX5_begins_142 : decode cX5_begins 142 = .ok (.getfield 48, 3) := by decide +kernel
theorem dX5_begins_145 : decode cX5_begins 145 = .ok (.iload_n 2, 1) := by decide +kernel
theorem dX5_begins_146 : decode cX5_begins 146 = .ok (.iaload, 1) := by decide +kernel
theorem dX5_begins_147 : decode cX5_begins 147 = .ok (.imul, 1) := by decide +kernel
theorem dX5_begins_148 : decode cX5_begins 148 = .ok (.iadd, 1) := by decide +kernel
theorem dX5_begins_149 : decode cX5_begins 149 = .ok (.putfield 123, 3) := by decide +kernel
theorem dX5_begins_152 : decode cX5_begins 152 = .ok (.aload_n 0, 1) := by decide +kernel
theorem dX5_begins_153 : decode cX5_begins 153 = .ok (.dup, 1) := by decide +kernel
theorem dX5_begins_154 : decode cX5_begins 154 = .ok (.getfield 129, 3) := by decide +kernel
theorem dX5_begins_157 : decode cX5_begins 157 = .ok (.iconst 1, 1) := by decide +kernel
theorem dX5_begins_158 : decode cX5_begins 158 = .ok (.iadd, 1) := by decide +kernel
theorem dX5_begins_159 : decode cX5_begins 159 = .ok (.putfield 129, 3) := by decide +kernel
theorem dX5_begins_162 : decode cX5_begins 162 = .ok (.return_, 1) := by decide +kernel
set_option maxRecDepth 20000 in
theorem ggX5_oneMinute_X5_leaves : GoodIn wsX5_oneMinute wsX5_leaves := goodIn_r _ [9, 10, 11, 12, 4, 13, 14, 15, 16, 17, 18, 51, 52, 53, 54, 55, 56, 57, 58, 59, 60, 61, 62, 63, 64, 65, 66, 67, 68, 69, 70, 71, 72, 73, 74, 75, 76, 77, 78, 79, 80, 81, 82] (by decide +kernel) (by decide +kernel)
set_option maxRecDepth 20000 in
theorem gX5_oneMinute_X5_leaves : GoodIn wsX5_oneMinute (wsV RX5 132 RX5 yX5_leaves wsX5_leaves) := goodIn_app (goodIn_of _ (by decide +kernel)) ggX5_oneMinute_X5_leaves
set_option maxRecDepth 20000 in
theorem ggX5_oneMinute_X5_begins : GoodIn wsX5_oneMinute wsX5_begins := goodIn_r _ [22, 10, 23, 17, 15, 11, 4, 14, 24, 25, 12, 1, 26, 27, 28, 29, 8, 30, 31, 32, 33, 34, 35, 36, 37, 38, 39, 40, 41, 42, 43, 44, 45, 46, 47, 48, 49, 50, 51, 52, 53, 54, 55, 56, 57, 58, 59, 60, 61, 62, 63, 64, 65, 66, 67, 68, 69, 70, 71, 72, 73, 74, 75, 76, 77, 78, 79, 80, 81, 82] (by decide +kernel) (by decide +kernel)
set_option maxRecDepth 20000 in
theorem gX5_oneMinute_X5_begins : GoodIn wsX5_oneMinute (wsV RX5 136 RX5 yX5_begins wsX5_begins) := goodIn_app (goodIn_of _ (by decide +kernel)) ggX5_oneMinute_X5_begins
theorem dX5_oneMinute_0 : decode cX5_oneMinute 0 = .ok (.aload_n 0, 1) := by decide +kernel
theorem dX5_oneMinute_1 : decode cX5_oneMinute 1 = .ok (.aload_n 0, 1) := by decide +kernel
theorem dX5_oneMinute_2 : decode cX5_oneMinute 2 = .ok (.getfield 123, 3) := by decide +kernel
theorem dX5_oneMinute_5 : decode cX5_oneMinute 5 = .ok (.aload_n 0, 1) := by decide +kernel
theorem dX5_oneMinute_6 : decode cX5_oneMinute 6 = .ok (.getfield 42, 3) := by decide +kernel
theorem dX5_oneMinute_9 : decode cX5_oneMinute 9 = .ok (.if_icmp .le 15, 3) := by decide +kernel
theorem dX5_oneMinute_12 : decode cX5_oneMinute 12 = .ok (.aload_n 0, 1) := by decide +kernel
theorem dX5_oneMinute_13 : decode cX5_oneMinute 13 = .ok (.getfield 123, 3) := by decide +kernel
theorem dX5_oneMinute_16 : decode cX5_oneMinute 16 = .ok (.aload_n 0, 1) := by decide +kernel
theorem dX5_oneMinute_17 : decode cX5_oneMinute 17 = .ok (.getfield 42, 3) := by decide +kernel
theorem dX5_oneMinute_20 : decode cX5_oneMinute 20 = .ok (.isub, 1) := by decide +kernel
theorem dX5_oneMinute_21 : decode cX5_oneMinute 21 = .ok (.goto 4, 3) := by decide +kernel
theorem dX5_oneMinute_24 : decode cX5_oneMinute 24 = .ok (.iconst 0, 1) := by decide +kernel
theorem dX5_oneMinute_25 : decode cX5_oneMinute 25 = .ok (.putfield 123, 3) := by decide +kernel
theorem dX5_oneMinute_28 : decode cX5_oneMinute 28 = .ok (.iconst 0, 1) := by decide +kernel
theorem dX5_oneMinute_29 : decode cX5_oneMinute 29 = .ok (.istore_n 1, 1) := by decide +kernel
theorem dX5_oneMinute_30 : decode cX5_oneMinute 30 = .ok (.iload_n 1, 1) := by decide +kernel
theorem dX5_oneMinute_31 : decode cX5_oneMinute 31 = .ok (.aload_n 0, 1) := by decide +kernel
theorem dX5_oneMinute_32 : decode cX5_oneMinute 32 = .ok (.getfield 35, 3) := by decide +kernel
theorem dX5_oneMinute_35 : decode cX5_oneMinute 35 = .ok (.if_icmp .ge 14, 3) := by decide +kernel
theorem dX5_oneMinute_38 : decode cX5_oneMinute 38 = .ok (.aload_n 0, 1) := by decide +kernel
theorem dX5_oneMinute_39 : decode cX5_oneMinute 39 = .ok (.iload_n 1, 1) := by decide +kernel
theorem dX5_oneMinute_40 : decode cX5_oneMinute 40 = .ok (.invokevirtual 132, 3) := by decide +kernel
theorem dX5_oneMinute_43 : decode cX5_oneMinute 43 = .ok (.iinc 1 1, 3) := by decide +kernel
theorem dX5_oneMinute_46 : decode cX5_oneMinute 46 = .ok (.goto (-16), 3) := by decide +kernel
theorem dX5_oneMinute_49 : decode cX5_oneMinute 49 = .ok (.iconst 0, 1) := by decide +kernel
theorem dX5_oneMinute_50 : decode cX5_oneMinute 50 = .ok (.istore_n 1, 1) := by decide +kernel
theorem dX5_oneMinute_51 : decode cX5_oneMinute 51 = .ok (.iload_n 1, 1) := by decide +kernel
theorem dX5_oneMinute_52 : decode cX5_oneMinute 52 = .ok (.aload_n 0, 1) := by decide +kernel
theorem dX5_oneMinute_53 : decode cX5_oneMinute 53 = .ok (.getfield 35, 3) := by decide +kernel
theorem dX5_oneMinute_56 : decode cX5_oneMinute 56 = .ok (.if_icmp .ge 14, 3) := by decide +kernel
theorem dX5_oneMinute_59 : decode cX5_oneMinute 59 = .ok (.aload_n 0, 1) := by decide +kernel
theorem dX5_oneMinute_60 : decode cX5_oneMinute 60 = .ok (.iload_n 1, 1) := by decide +kernel
theorem dX5_oneMinute_61 : decode cX5_oneMinute 61 = .ok (.invokevirtual 136, 3) := by decide +kernel
theorem dX5_oneMinute_64 : decode cX5_oneMinute 64 = .ok (.iinc 1 1, 3) := by decide +kernel
theorem dX5_oneMinute_67 : decode cX5_oneMinute 67 = .ok (.goto (-16), 3) := by decide +kernel
theorem dX5_oneMinute_70 : decode cX5_oneMinute 70 = .ok (.aload_n 0, 1) := by decide +kernel
theorem dX5_oneMinute_71 : decode cX5_oneMinute 71 = .ok (.dup, 1) := by decide +kernel
theorem dX5_oneMinute_72 : decode cX5_oneMinute 72 = .ok (.getfield 87, 3) := by decide +kernel
theorem dX5_oneMinute_75 : decode cX5_oneMinute 75 = .ok (.iconst 1, 1) := by decide +kernel
theorem dX5_oneMinute_76 : decode cX5_oneMinute 76 = .ok (.iadd, 1) := by decide +kernel
theorem dX5_oneMinute_77 : decode cX5_oneMinute 77 = .ok (.putfield 87, 3) := by decide +kernel
theorem dX5_oneMinute_80 : decode cX5_oneMinute 80 = .ok (.return_, 1) := by decide +kernel
set_option maxRecDepth 20000 in
theorem ggX5_minutes_X5_in : GoodIn wsX5_minutes wsX5_in := goodIn_r _ [5] (by decide +kernel) (by decide +kernel)
set_option maxRecDepth 20000 in
theorem gX5_minutes_X5_in : GoodIn wsX5_minutes (va_wsS RX5 90 yX5_in wsX5_in) := goodIn_app (goodIn_of _ (by decide +kernel)) ggX5_minutes_X5_in
set_option maxRecDepth 20000 in
theorem ggX5_minutes_X5_oneMinute : GoodIn wsX5_minutes wsX5_oneMinute := goodIn_r _ [9, 10, 11, 12, 1, 13, 14, 15, 4, 16, 17, 18, 19, 20, 21, 22, 23, 24, 25, 26, 27, 28, 29, 30, 31, 32, 33, 34, 35, 36, 37, 38, 39, 40, 41, 42, 43, 44, 45, 46, 47, 48, 49, 50, 51, 52, 53, 54, 55, 56, 57, 58, 59, 60, 61, 62, 63, 64, 65, 66, 67, 68, 69, 70, 71, 72, 73, 74, 75, 76, 77, 78, 79, 80, 81, 82, 83, 84, 85, 86, 87, 88, 89] (by decide +kernel) (by decide +kernel)
set_option maxRecDepth 20000 in
theorem gX5_minutes_X5_oneMinute : GoodIn wsX5_minutes (wsV RX5 139 RX5 yX5_oneMinute wsX5_oneMinute) := goodIn_app (goodIn_of _ (by decide +kernel)) ggX5_minutes_X5_oneMinute
theorem dX5_minutes_0 : decode cX5_minutes 0 = .ok (.iload_n 1, 1) := by decide +kernel
theorem dX5_minutes_1 : decode cX5_minutes 1 = .ok (.iconst 1, 1) := by decide +kernel
theorem dX5_minutes_2 : decode cX5_minutes 2 = .ok (.bipush 60, 2) := by decide +kernel
theorem dX5_minutes_4 : decode cX5_minutes 4 = .ok (.invokestatic 90, 3) := by decide +kernel
theorem dX5_minutes_7 : decode cX5_minutes 7 = .ok (.ifCond .ne 6, 3) := by decide +kernel
theorem dX5_minutes_10 : decode cX5_minutes 10 = .ok (.bipush (-100), 2) := by decide +kernel
theorem dX5_minutes_12 : decode cX5_minutes 12 = .ok (.ireturn, 1) := by decide +kernel
theorem dX5_minutes_13 : decode cX5_minutes 13 = .ok (.aload_n 0, 1) := by decide +kernel
theorem dX5_minutes_14 : decode cX5_minutes 14 = .ok (.getfield 87, 3) := by decide +kernel
theorem dX5_minutes_17 : decode cX5_minutes 17 = .ok (.iload_n 1, 1) := by decide +kernel
theorem dX5_minutes_18 : decode cX5_minutes 18 = .ok (.iadd, 1) := by decide +kernel
theorem dX5_minutes_19 : decode cX5_minutes 19 = .ok (.sipush 300, 3) := by decide +kernel
theorem dX5_minutes_22 : decode cX5_minutes 22 = .ok (.if_icmp .lt 7, 3) := by decide +kernel
theorem dX5_minutes_25 : decode cX5_minutes 25 = .ok (.sipush (-200), 3) := by decide +kernel
theorem dX5_minutes_28 : decode cX5_minutes 28 = .ok (.ireturn, 1) := by decide +kernel
theorem dX5_minutes_29 : decode cX5_minutes 29 = .ok (.iconst 0, 1) := by decide +kernel
theorem dX5_minutes_30 : decode cX5_minutes 30 = .ok (.istore_n 2, 1) := by decide +kernel
theorem dX5_minutes_31 : decode cX5_minutes 31 = .ok (.iload_n 2, 1) := by decide +kernel
theorem dX5_minutes_32 : decode cX5_minutes 32 = .ok (.iload_n 1, 1) := by decide +kernel
theorem dX5_minutes_33 : decode cX5_minutes 33 = .ok (.if_icmp .ge 13, 3) := by decide +kernel
theorem dX5_minutes_36 : decode cX5_minutes 36 = .ok (.aload_n 0, 1) := by decide +kernel
theorem dX5_minutes_37 : decode cX5_minutes 37 = .ok (.invokevirtual 139, 3) := by decide +kernel
theorem dX5_minutes_40 : decode cX5_minutes 40 = .ok (.iinc 2 1, 3) := by decide +kernel
theorem dX5_minutes_43 : decode cX5_minutes 43 = .ok (.goto (-12), 3) := by decide +kernel
theorem dX5_minutes_46 : decode cX5_minutes 46 = .ok (.aload_n 0, 1) := by decide +kernel
theorem dX5_minutes_47 : decode cX5_minutes 47 = .ok (.getfield 87, 3) := by decide +kernel
theorem dX5_minutes_50 : decode cX5_minutes 50 = .ok (.ireturn, 1) := by decide +kernel
theorem dX5_lateOf_0 : decode cX5_lateOf 0 = .ok (.aload_n 0, 1) := by decide +kernel
theorem dX5_lateOf_1 : decode cX5_lateOf 1 = .ok (.getfield 75, 3) := by decide +kernel
theorem dX5_lateOf_4 : decode cX5_lateOf 4 = .ok (.iload_n 1, 1) := by decide +kernel
theorem dX5_lateOf_5 : decode cX5_lateOf 5 = .ok (.iaload, 1) := by decide +kernel
theorem dX5_lateOf_6 : decode cX5_lateOf 6 = .ok (.aload_n 0, 1) := by decide +kernel
theorem dX5_lateOf_7 : decode cX5_lateOf 7 = .ok (.getfield 51, 3) := by decide +kernel
theorem dX5_lateOf_10 : decode cX5_lateOf 10 = .ok (.iload_n 1, 1) := by decide +kernel
theorem dX5_lateOf_11 : decode cX5_lateOf 11 = .ok (.iaload, 1) := by decide +kernel
theorem dX5_lateOf_12 : decode cX5_lateOf 12 = .ok (.isub, 1) := by decide +kernel
theorem dX5_lateOf_13 : decode cX5_lateOf 13 = .ok (.iconst 2, 1) := by decide +kernel
theorem dX5_lateOf_14 : decode cX5_lateOf 14 = .ok (.aload_n 0, 1) := by decide +kernel
theorem dX5_lateOf_15 : decode cX5_lateOf 15 = .ok (.getfield 48, 3) := by decide +kernel
theorem dX5_lateOf_18 : decode cX5_lateOf 18 = .ok (.iload_n 1, 1) := by decide +kernel
theorem dX5_lateOf_19 : decode cX5_lateOf 19 = .ok (.iaload, 1) := by decide +kernel
theorem dX5_lateOf_20 : decode cX5_lateOf 20 = .ok (.imul, 1) := by decide +kernel
theorem dX5_lateOf_21 : decode cX5_lateOf 21 = .ok (.isub, 1) := by decide +kernel
theorem dX5_lateOf_22 : decode cX5_lateOf 22 = .ok (.aload_n 0, 1) := by decide +kernel
theorem dX5_lateOf_23 : decode cX5_lateOf 23 = .ok (.getfield 57, 3) := by decide +kernel
theorem dX5_lateOf_26 : decode cX5_lateOf 26 = .ok (.iload_n 1, 1) := by decide +kernel
theorem dX5_lateOf_27 : decode cX5_lateOf 27 = .ok (.iaload, 1) := by decide +kernel
theorem dX5_lateOf_28 : decode cX5_lateOf 28 = .ok (.isub, 1) := by decide +kernel
theorem dX5_lateOf_29 : decode cX5_lateOf 29 = .ok (.ireturn, 1) := by decide +kernel
set_option maxRecDepth 20000 in
theorem ggX5_about_X5_in : GoodIn wsX5_about wsX5_in := goodIn_r _ [12] (by decide +kernel) (by decide +kernel)
set_option maxRecDepth 20000 in
theorem gX5_about_X5_in : GoodIn wsX5_about (va_wsS RX5 90 yX5_in wsX5_in) := goodIn_app (goodIn_of _ (by decide +kernel)) ggX5_about_X5_in
set_option maxRecDepth 20000 in
theorem ggX5_about_X5_lateOf : GoodIn wsX5_about wsX5_lateOf := goodIn_r _ [16, 8, 17, 18, 19, 20, 21, 22, 23, 24, 25, 26, 27, 28, 29, 30, 31, 32, 33, 34, 35, 36, 37, 38, 39, 40, 41, 42, 43, 44, 45, 46, 47, 48, 49, 50, 51] (by decide +kernel) (by decide +kernel)
set_option maxRecDepth 20000 in
theorem gX5_about_X5_lateOf : GoodIn wsX5_about (wsV RX5 142 RX5 yX5_lateOf wsX5_lateOf) := goodIn_app (goodIn_of _ (by decide +kernel)) ggX5_about_X5_lateOf
theorem dX5_about_0 : decode cX5_about 0 = .ok (.iload_n 1, 1) := by decide +kernel
theorem dX5_about_1 : decode cX5_about 1 = .ok (.iconst 0, 1) := by decide +kernel
theorem dX5_about_2 : decode cX5_about 2 = .ok (.aload_n 0, 1) := by decide +kernel
theorem dX5_about_3 : decode cX5_about 3 = .ok (.getfield 120, 3) := by decide +kernel
theorem dX5_about_6 : decode cX5_about 6 = .ok (.iconst 1, 1) := by decide +kernel
theorem dX5_about_7 : decode cX5_about 7 = .ok (.isub, 1) := by decide +kernel
theorem dX5_about_8 : decode cX5_about 8 = .ok (.invokestatic 90, 3) := by decide +kernel
theorem dX5_about_11 : decode cX5_about 11 = .ok (.ifCond .ne 6, 3) := by decide +kernel
theorem dX5_about_14 : decode cX5_about 14 = .ok (.bipush (-100), 2) := by decide +kernel
theorem dX5_about_16 : decode cX5_about 16 = .ok (.ireturn, 1) := by decide +kernel
theorem dX5_about_17 : decode cX5_about 17 = .ok (.sipush (-900), 3) := by decide +kernel
theorem dX5_about_20 : decode cX5_about 20 = .ok (.istore_n 3, 1) := by decide +kernel
theorem dX5_about_21 : decode cX5_about 21 = .ok (.iload_n 2, 1) := by decide +kernel
theorem dX5_about_22 : decode cX5_about 22 = .ok (.tableswitch 139 0 6 #[42, 49, 89, 96, 103, 110, 117], 42) := by decide +kernel
theorem dX5_about_64 : decode cX5_about 64 = .ok (.aload_n 0, 1) := by decide +kernel
theorem dX5_about_65 : decode cX5_about 65 = .ok (.getfield 63, 3) := by decide +kernel
theorem dX5_about_68 : decode cX5_about 68 = .ok (.iload_n 1, 1) := by decide +kernel
theorem dX5_about_69 : decode cX5_about 69 = .ok (.iaload, 1) := by decide +kernel
theorem dX5_about_70 : decode cX5_about 70 = .ok (.ireturn, 1) := by decide +kernel
theorem dX5_about_71 : decode cX5_about 71 = .ok (.iconst 0, 1) := by decide +kernel
theorem dX5_about_72 : decode cX5_about 72 = .ok (.istore 4, 2) := by decide +kernel
theorem dX5_about_74 : decode cX5_about 74 = .ok (.iload 4, 2) := by decide +kernel
theorem dX5_about_76 : decode cX5_about 76 = .ok (.aload_n 0, 1) := by decide +kernel
theorem dX5_about_77 : decode cX5_about 77 = .ok (.getfield 35, 3) := by decide +kernel
theorem dX5_about_80 : decode cX5_about 80 = .ok (.if_icmp .ge 29, 3) := by decide +kernel
theorem dX5_about_83 : decode cX5_about 83 = .ok (.aload_n 0, 1) := by decide +kernel
theorem dX5_about_84 : decode cX5_about 84 = .ok (.getfield 45, 3) := by decide +kernel
theorem dX5_about_87 : decode cX5_about 87 = .ok (.iload 4, 2) := by decide +kernel
theorem dX5_about_89 : decode cX5_about 89 = .ok (.iaload, 1) := by decide +kernel
theorem dX5_about_90 : decode cX5_about 90 = .ok (.iload_n 1, 1) := by decide +kernel
theorem dX5_about_91 : decode cX5_about 91 = .ok (.iconst 1, 1) := by decide +kernel
theorem dX5_about_92 : decode cX5_about 92 = .ok (.iadd, 1) := by decide +kernel
theorem dX5_about_93 : decode cX5_about 93 = .ok (.if_icmp .ne 8, 3) := by decide +kernel
theorem dX5_about_96 : decode cX5_about 96 = .ok (.iload 4, 2) := by decide +kernel
theorem dX5_about_98 : decode cX5_about 98 = .ok (.goto 4, 3) := by decide +kernel
theorem dX5_about_101 : decode cX5_about 101 = .ok (.iload_n 3, 1) := by decide +kernel
theorem dX5_about_102 : decode cX5_about 102 = .ok (.istore_n 3, 1) := by decide +kernel
theorem dX5_about_103 : decode cX5_about 103 = .ok (.iinc 4 1, 3) := by decide +kernel
theorem dX5_about_106 : decode cX5_about 106 = .ok (.goto (-32), 3) := by decide +kernel
theorem dX5_about_109 : decode cX5_about 109 = .ok (.iload_n 3, 1) := by decide +kernel
theorem dX5_about_110 : decode cX5_about 110 = .ok (.ireturn, 1) := by decide +kernel
theorem dX5_about_111 : decode cX5_about 111 = .ok (.aload_n 0, 1) := by decide +kernel
theorem dX5_about_112 : decode cX5_about 112 = .ok (.getfield 66, 3) := by decide +kernel
theorem dX5_about_115 : decode cX5_about 115 = .ok (.iload_n 1, 1) := by decide +kernel
theorem dX5_about_116 : decode cX5_about 116 = .ok (.iaload, 1) := by decide +kernel
theorem dX5_about_117 : decode cX5_about 117 = .ok (.ireturn, 1) := by decide +kernel
theorem dX5_about_118 : decode cX5_about 118 = .ok (.aload_n 0, 1) := by decide +kernel
theorem dX5_about_119 : decode cX5_about 119 = .ok (.getfield 54, 3) := by decide +kernel
theorem dX5_about_122 : decode cX5_about 122 = .ok (.iload_n 1, 1) := by decide +kernel
theorem dX5_about_123 : decode cX5_about 123 = .ok (.iaload, 1) := by decide +kernel
theorem dX5_about_124 : decode cX5_about 124 = .ok (.ireturn, 1) := by decide +kernel
theorem dX5_about_125 : decode cX5_about 125 = .ok (.aload_n 0, 1) := by decide +kernel
theorem dX5_about_126 : decode cX5_about 126 = .ok (.getfield 72, 3) := by decide +kernel
theorem dX5_about_129 : decode cX5_about 129 = .ok (.iload_n 1, 1) := by decide +kernel
theorem dX5_about_130 : decode cX5_about 130 = .ok (.iaload, 1) := by decide +kernel
theorem dX5_about_131 : decode cX5_about 131 = .ok (.ireturn, 1) := by decide +kernel
theorem dX5_about_132 : decode cX5_about 132 = .ok (.aload_n 0, 1) := by decide +kernel
theorem dX5_about_133 : decode cX5_about 133 = .ok (.getfield 75, 3) := by decide +kernel
theorem dX5_about_136 : decode cX5_about 136 = .ok (.iload_n 1, 1) := by decide +kernel
theorem dX5_about_137 : decode cX5_about 137 = .ok (.iaload, 1) := by decide +kernel
theorem dX5_about_138 : decode cX5_about 138 = .ok (.ireturn, 1) := by decide +kernel
theorem dX5_about_139 : decode cX5_about 139 = .ok (.aload_n 0, 1) := by decide +kernel
theorem dX5_about_140 : decode cX5_about 140 = .ok (.getfield 63, 3) := by decide +kernel
theorem dX5_about_143 : decode cX5_about 143 = .ok (.iload_n 1, 1) := by decide +kernel
theorem dX5_about_144 : decode cX5_about 144 = .ok (.iaload, 1) := by decide +kernel
theorem dX5_about_145 : decode cX5_about 145 = .ok (.iconst 2, 1) := by decide +kernel
theorem dX5_about_146 : decode cX5_about 146 = .ok (.if_icmp .ne 11, 3) := by decide +kernel
theorem dX5_about_149 : decode cX5_about 149 = .ok (.aload_n 0, 1) := by decide +kernel
theorem dX5_about_150 : decode cX5_about 150 = .ok (.iload_n 1, 1) := by decide +kernel
theorem dX5_about_151 : decode cX5_about 151 = .ok (.invokevirtual 142, 3) := by decide +kernel
theorem dX5_about_154 : decode cX5_about 154 = .ok (.goto 6, 3) := by decide +kernel
theorem dX5_about_157 : decode cX5_about 157 = .ok (.sipush (-900), 3) := by decide +kernel
theorem dX5_about_160 : decode cX5_about 160 = .ok (.ireturn, 1) := by decide +kernel
theorem dX5_about_161 : decode cX5_about 161 = .ok (.bipush (-100), 2) := by decide +kernel
theorem dX5_about_163 : decode cX5_about 163 = .ok (.ireturn, 1) := by decide +kernel
set_option maxRecDepth 20000 in
theorem ggX5_on_X5_in : GoodIn wsX5_on wsX5_in := goodIn_r _ [6] (by decide +kernel) (by decide +kernel)
set_option maxRecDepth 20000 in
theorem gX5_on_X5_in : GoodIn wsX5_on (va_wsS RX5 90 yX5_in wsX5_in) := goodIn_app (goodIn_of _ (by decide +kernel)) ggX5_on_X5_in
theorem dX5_on_0 : decode cX5_on 0 = .ok (.iload_n 1, 1) := by decide +kernel
theorem dX5_on_1 : decode cX5_on 1 = .ok (.iconst 0, 1) := by decide +kernel
theorem dX5_on_2 : decode cX5_on 2 = .ok (.aload_n 0, 1) := by decide +kernel
theorem dX5_on_3 : decode cX5_on 3 = .ok (.getfield 35, 3) := by decide +kernel
theorem dX5_on_6 : decode cX5_on 6 = .ok (.iconst 1, 1) := by decide +kernel
theorem dX5_on_7 : decode cX5_on 7 = .ok (.isub, 1) := by decide +kernel
theorem dX5_on_8 : decode cX5_on 8 = .ok (.invokestatic 90, 3) := by decide +kernel
theorem dX5_on_11 : decode cX5_on 11 = .ok (.ifCond .ne 8, 3) := by decide +kernel
theorem dX5_on_14 : decode cX5_on 14 = .ok (.bipush (-100), 2) := by decide +kernel
theorem dX5_on_16 : decode cX5_on 16 = .ok (.goto 26, 3) := by decide +kernel
theorem dX5_on_19 : decode cX5_on 19 = .ok (.aload_n 0, 1) := by decide +kernel
theorem dX5_on_20 : decode cX5_on 20 = .ok (.getfield 45, 3) := by decide +kernel
theorem dX5_on_23 : decode cX5_on 23 = .ok (.iload_n 1, 1) := by decide +kernel
theorem dX5_on_24 : decode cX5_on 24 = .ok (.iaload, 1) := by decide +kernel
theorem dX5_on_25 : decode cX5_on 25 = .ok (.ifCond .ne 9, 3) := by decide +kernel
theorem dX5_on_28 : decode cX5_on 28 = .ok (.sipush (-900), 3) := by decide +kernel
theorem dX5_on_31 : decode cX5_on 31 = .ok (.goto 11, 3) := by decide +kernel
theorem dX5_on_34 : decode cX5_on 34 = .ok (.aload_n 0, 1) := by decide +kernel
theorem dX5_on_35 : decode cX5_on 35 = .ok (.getfield 45, 3) := by decide +kernel
theorem dX5_on_38 : decode cX5_on 38 = .ok (.iload_n 1, 1) := by decide +kernel
theorem dX5_on_39 : decode cX5_on 39 = .ok (.iaload, 1) := by decide +kernel
theorem dX5_on_40 : decode cX5_on 40 = .ok (.iconst 1, 1) := by decide +kernel
theorem dX5_on_41 : decode cX5_on 41 = .ok (.isub, 1) := by decide +kernel
theorem dX5_on_42 : decode cX5_on 42 = .ok (.ireturn, 1) := by decide +kernel
theorem dX5_lates_0 : decode cX5_lates 0 = .ok (.iconst 0, 1) := by decide +kernel
theorem dX5_lates_1 : decode cX5_lates 1 = .ok (.istore_n 1, 1) := by decide +kernel
theorem dX5_lates_2 : decode cX5_lates 2 = .ok (.aload_n 0, 1) := by decide +kernel
theorem dX5_lates_3 : decode cX5_lates 3 = .ok (.getfield 87, 3) := by decide +kernel
theorem dX5_lates_6 : decode cX5_lates 6 = .ok (.istore_n 2, 1) := by decide +kernel
theorem dX5_lates_7 : decode cX5_lates 7 = .ok (.iconst 0, 1) := by decide +kernel
theorem dX5_lates_8 : decode cX5_lates 8 = .ok (.istore_n 3, 1) := by decide +kernel
theorem dX5_lates_9 : decode cX5_lates 9 = .ok (.iload_n 3, 1) := by decide +kernel
theorem dX5_lates_10 : decode cX5_lates 10 = .ok (.aload_n 0, 1) := by decide +kernel
theorem dX5_lates_11 : decode cX5_lates 11 = .ok (.getfield 145, 3) := by decide +kernel
theorem dX5_lates_14 : decode cX5_lates 14 = .ok (.if_icmp .ge 67, 3) := by decide +kernel
theorem dX5_lates_17 : decode cX5_lates 17 = .ok (.aload_n 0, 1) := by decide +kernel
theorem dX5_lates_18 : decode cX5_lates 18 = .ok (.getfield 81, 3) := by decide +kernel
theorem dX5_lates_21 : decode cX5_lates 21 = .ok (.iload_n 3, 1) := by decide +kernel
theorem dX5_lates_22 : decode cX5_lates 22 = .ok (.iaload, 1) := by decide +kernel
theorem dX5_lates_23 : decode cX5_lates 23 = .ok (.istore 4, 2) := by decide +kernel
theorem dX5_lates_25 : decode cX5_lates 25 = .ok (.aload_n 0, 1) := by decide +kernel
theorem dX5_lates_26 : decode cX5_lates 26 = .ok (.getfield 54, 3) := by decide +kernel
theorem dX5_lates_29 : decode cX5_lates 29 = .ok (.iload 4, 2) := by decide +kernel
theorem dX5_lates_31 : decode cX5_lates 31 = .ok (.iaload, 1) := by decide +kernel
theorem dX5_lates_32 : decode cX5_lates 32 = .ok (.iload_n 2, 1) := by decide +kernel
theorem dX5_lates_33 : decode cX5_lates 33 = .ok (.if_icmp .le 13, 3) := by decide +kernel
theorem dX5_lates_36 : decode cX5_lates 36 = .ok (.aload_n 0, 1) := by decide +kernel
theorem dX5_lates_37 : decode cX5_lates 37 = .ok (.getfield 54, 3) := by decide +kernel
theorem dX5_lates_40 : decode cX5_lates 40 = .ok (.iload 4, 2) := by decide +kernel
theorem dX5_lates_42 : decode cX5_lates 42 = .ok (.iaload, 1) := by decide +kernel
theorem dX5_lates_43 : decode cX5_lates 43 = .ok (.goto 4, 3) := by decide +kernel
theorem dX5_lates_46 : decode cX5_lates 46 = .ok (.iload_n 2, 1) := by decide +kernel
theorem dX5_lates_47 : decode cX5_lates 47 = .ok (.istore 5, 2) := by decide +kernel
theorem dX5_lates_49 : decode cX5_lates 49 = .ok (.iload_n 1, 1) := by decide +kernel
theorem dX5_lates_50 : decode cX5_lates 50 = .ok (.iload 5, 2) := by decide +kernel
theorem dX5_lates_52 : decode cX5_lates 52 = .ok (.aload_n 0, 1) := by decide +kernel
theorem dX5_lates_53 : decode cX5_lates 53 = .ok (.getfield 51, 3) := by decide +kernel
theorem dX5_lates_56 : decode cX5_lates 56 = .ok (.iload 4, 2) := by decide +kernel
theorem dX5_lates_58 : decode cX5_lates 58 = .ok (.iaload, 1) := by decide +kernel
theorem dX5_lates_59 : decode cX5_lates 59 = .ok (.isub, 1) := by decide +kernel
theorem dX5_lates_60 : decode cX5_lates 60 = .ok (.iadd, 1) := by decide +kernel
theorem dX5_lates_61 : decode cX5_lates 61 = .ok (.istore_n 1, 1) := by decide +kernel
theorem dX5_lates_62 : decode cX5_lates 62 = .ok (.iload 5, 2) := by decide +kernel
theorem dX5_lates_64 : decode cX5_lates 64 = .ok (.iconst 2, 1) := by decide +kernel
theorem dX5_lates_65 : decode cX5_lates 65 = .ok (.aload_n 0, 1) := by decide +kernel
theorem dX5_lates_66 : decode cX5_lates 66 = .ok (.getfield 48, 3) := by decide +kernel
theorem dX5_lates_69 : decode cX5_lates 69 = .ok (.iload 4, 2) := by decide +kernel
theorem dX5_lates_71 : decode cX5_lates 71 = .ok (.iaload, 1) := by decide +kernel
theorem dX5_lates_72 : decode cX5_lates 72 = .ok (.imul, 1) := by decide +kernel
theorem dX5_lates_73 : decode cX5_lates 73 = .ok (.iadd, 1) := by decide +kernel
theorem dX5_lates_74 : decode cX5_lates 74 = .ok (.istore_n 2, 1) := by decide +kernel
theorem dX5_lates_75 : decode cX5_lates 75 = .ok (.iinc 3 1, 3) := by decide +kernel
theorem dX5_lates_78 : decode cX5_lates 78 = .ok (.goto (-69), 3) := by decide +kernel
theorem dX5_lates_81 : decode cX5_lates 81 = .ok (.iload_n 1, 1) := by decide +kernel
theorem dX5_lates_82 : decode cX5_lates 82 = .ok (.ireturn, 1) := by decide +kernel
theorem dX5_take_0 : decode cX5_take 0 = .ok (.iload_n 1, 1) := by decide +kernel
theorem dX5_take_1 : decode cX5_take 1 = .ok (.istore_n 2, 1) := by decide +kernel
theorem dX5_take_2 : decode cX5_take 2 = .ok (.iconst 1, 1) := by decide +kernel
theorem dX5_take_3 : decode cX5_take 3 = .ok (.aload_n 0, 1) := by decide +kernel
theorem dX5_take_4 : decode cX5_take 4 = .ok (.getfield 145, 3) := by decide +kernel
theorem dX5_take_7 : decode cX5_take 7 = .ok (.ishl, 1) := by decide +kernel
theorem dX5_take_8 : decode cX5_take 8 = .ok (.iconst 1, 1) := by decide +kernel
theorem dX5_take_9 : decode cX5_take 9 = .ok (.isub, 1) := by decide +kernel
theorem dX5_take_10 : decode cX5_take 10 = .ok (.istore_n 3, 1) := by decide +kernel
theorem dX5_take_11 : decode cX5_take 11 = .ok (.iconst 1, 1) := by decide +kernel
theorem dX5_take_12 : decode cX5_take 12 = .ok (.istore 4, 2) := by decide +kernel
theorem dX5_take_14 : decode cX5_take 14 = .ok (.iconst 2, 1) := by decide +kernel
theorem dX5_take_15 : decode cX5_take 15 = .ok (.istore 5, 2) := by decide +kernel
theorem dX5_take_17 : decode cX5_take 17 = .ok (.iload 5, 2) := by decide +kernel
theorem dX5_take_19 : decode cX5_take 19 = .ok (.aload_n 0, 1) := by decide +kernel
theorem dX5_take_20 : decode cX5_take 20 = .ok (.getfield 145, 3) := by decide +kernel
theorem dX5_take_23 : decode cX5_take 23 = .ok (.if_icmp .ge 16, 3) := by decide +kernel
theorem dX5_take_26 : decode cX5_take 26 = .ok (.iload 4, 2) := by decide +kernel
theorem dX5_take_28 : decode cX5_take 28 = .ok (.iload 5, 2) := by decide +kernel
theorem dX5_take_30 : decode cX5_take 30 = .ok (.imul, 1) := by decide +kernel
theorem dX5_take_31 : decode cX5_take 31 = .ok (.istore 4, 2) := by decide +kernel
theorem dX5_take_33 : decode cX5_take 33 = .ok (.iinc 5 1, 3) := by decide +kernel
theorem dX5_take_36 : decode cX5_take 36 = .ok (.goto (-19), 3) := by decide +kernel
theorem dX5_take_39 : decode cX5_take 39 = .ok (.iconst 0, 1) := by decide +kernel
theorem dX5_take_40 : decode cX5_take 40 = .ok (.istore 5, 2) := by decide +kernel
theorem dX5_take_42 : decode cX5_take 42 = .ok (.iload 5, 2) := by decide +kernel
theorem dX5_take_44 : decode cX5_take 44 = .ok (.aload_n 0, 1) := by decide +kernel
theorem dX5_take_45 : decode cX5_take 45 = .ok (.getfield 145, 3) := by decide +kernel
theorem dX5_take_48 : decode cX5_take 48 = .ok (.if_icmp .ge 107, 3) := by decide +kernel
theorem dX5_take_51 : decode cX5_take 51 = .ok (.iload_n 2, 1) := by decide +kernel
theorem dX5_take_52 : decode cX5_take 52 = .ok (.iload 4, 2) := by decide +kernel
theorem dX5_take_54 : decode cX5_take 54 = .ok (.idiv, 1) := by decide +kernel
theorem dX5_take_55 : decode cX5_take 55 = .ok (.istore 6, 2) := by decide +kernel
theorem dX5_take_57 : decode cX5_take 57 = .ok (.iload_n 2, 1) := by decide +kernel
theorem dX5_take_58 : decode cX5_take 58 = .ok (.iload 4, 2) := by decide +kernel
theorem dX5_take_60 : decode cX5_take 60 = .ok (.irem, 1) := by decide +kernel
theorem dX5_take_61 : decode cX5_take 61 = .ok (.istore_n 2, 1) := by decide +kernel
theorem dX5_take_62 : decode cX5_take 62 = .ok (.aload_n 0, 1) := by decide +kernel
theorem dX5_take_63 : decode cX5_take 63 = .ok (.getfield 145, 3) := by decide +kernel
theorem dX5_take_66 : decode cX5_take 66 = .ok (.iconst 1, 1) := by decide +kernel
theorem dX5_take_67 : decode cX5_take 67 = .ok (.isub, 1) := by decide +kernel
theorem dX5_take_68 : decode cX5_take 68 = .ok (.iload 5, 2) := by decide +kernel
theorem dX5_take_70 : decode cX5_take 70 = .ok (.isub, 1) := by decide +kernel
theorem dX5_take_71 : decode cX5_take 71 = .ok (.ifCond .le 18, 3) := by decide +kernel
theorem dX5_take_74 : decode cX5_take 74 = .ok (.iload 4, 2) := by decide +kernel
theorem dX5_take_76 : decode cX5_take 76 = .ok (.aload_n 0, 1) := by decide +kernel
theorem dX5_take_77 : decode cX5_take 77 = .ok (.getfield 145, 3) := by decide +kernel
theorem dX5_take_80 : decode cX5_take 80 = .ok (.iconst 1, 1) := by decide +kernel
theorem dX5_take_81 : decode cX5_take 81 = .ok (.isub, 1) := by decide +kernel
theorem dX5_take_82 : decode cX5_take 82 = .ok (.iload 5, 2) := by decide +kernel
theorem dX5_take_84 : decode cX5_take 84 = .ok (.isub, 1) := by decide +kernel
theorem dX5_take_85 : decode cX5_take 85 = .ok (.idiv, 1) := by decide +kernel
theorem dX5_take_86 : decode cX5_take 86 = .ok (.goto 4, 3) := by decide +kernel
theorem dX5_take_89 : decode cX5_take 89 = .ok (.iconst 1, 1) := by decide +kernel
theorem dX5_take_90 : decode cX5_take 90 = .ok (.istore 4, 2) := by decide +kernel
theorem dX5_take_92 : decode cX5_take 92 = .ok (.iconst 0, 1) := by decide +kernel
theorem dX5_take_93 : decode cX5_take 93 = .ok (.istore 7, 2) := by decide +kernel
theorem dX5_take_95 : decode cX5_take 95 = .ok (.iload_n 3, 1) := by decide +kernel
theorem dX5_take_96 : decode cX5_take 96 = .ok (.iload 7, 2) := by decide +kernel
theorem dX5_take_98 : decode cX5_take 98 = .ok (.ishr, 1) := by decide +kernel
theorem dX5_take_99 : decode cX5_take 99 = .ok (.iconst 1, 1) := by decide +kernel
theorem dX5_take_100 : decode cX5_take 100 = .ok (.iand, 1) := by decide +kernel
theorem dX5_take_101 : decode cX5_take 101 = .ok (.ifCond .eq 8, 3) := by decide +kernel
theorem dX5_take_104 : decode cX5_take 104 = .ok (.iload 6, 2) := by decide +kernel
theorem dX5_take_106 : decode cX5_take 106 = .ok (.ifCond .le 20, 3) := by decide +kernel
theorem dX5_take_109 : decode cX5_take 109 = .ok (.iload 6, 2) := by decide +kernel
theorem dX5_take_111 : decode cX5_take 111 = .ok (.iload_n 3, 1) := by decide +kernel
theorem dX5_take_112 : decode cX5_take 112 = .ok (.iload 7, 2) := by decide +kernel
theorem dX5_take_114 : decode cX5_take 114 = .ok (.ishr, 1) := by decide +kernel
theorem dX5_take_115 : decode cX5_take 115 = .ok (.iconst 1, 1) := by decide +kernel
theorem dX5_take_116 : decode cX5_take 116 = .ok (.iand, 1) := by decide +kernel
theorem dX5_take_117 : decode cX5_take 117 = .ok (.isub, 1) := by decide +kernel
theorem dX5_take_118 : decode cX5_take 118 = .ok (.istore 6, 2) := by decide +kernel
theorem dX5_take_120 : decode cX5_take 120 = .ok (.iinc 7 1, 3) := by decide +kernel
theorem dX5_take_123 : decode cX5_take 123 = .ok (.goto (-28), 3) := by decide +kernel
theorem dX5_take_126 : decode cX5_take 126 = .ok (.iload_n 3, 1) := by decide +kernel
theorem dX5_take_127 : decode cX5_take 127 = .ok (.iconst 1, 1) := by decide +kernel
theorem dX5_take_128 : decode cX5_take 128 = .ok (.iload 7, 2) := by decide +kernel
theorem dX5_take_130 : decode cX5_take 130 = .ok (.ishl, 1) := by decide +kernel
theorem dX5_take_131 : decode cX5_take 131 = .ok (.iconst (-1), 1) := by decide +kernel
theorem dX5_take_132 : decode cX5_take 132 = .ok (.ixor, 1) := by decide +kernel
theorem dX5_take_133 : decode cX5_take 133 = .ok (.iand, 1) := by decide +kernel
theorem dX5_take_134 : decode cX5_take 134 = .ok (.istore_n 3, 1) := by decide +kernel
theorem dX5_take_135 : decode cX5_take 135 = .ok (.aload_n 0, 1) := by decide +kernel
theorem dX5_take_136 : decode cX5_take 136 = .ok (.getfield 81, 3) := by decide +kernel
theorem dX5_take_139 : decode cX5_take 139 = .ok (.iload 5, 2) := by decide +kernel
theorem dX5_take_141 : decode cX5_take 141 = .ok (.aload_n 0, 1) := by decide +kernel
theorem dX5_take_142 : decode cX5_take 142 = .ok (.getfield 78, 3) := by decide +kernel
theorem dX5_take_145 : decode cX5_take 145 = .ok (.iload 7, 2) := by decide +kernel
theorem dX5_take_147 : decode cX5_take 147 = .ok (.iaload, 1) := by decide +kernel
theorem dX5_take_148 : decode cX5_take 148 = .ok (.iastore, 1) := by decide +kernel
theorem dX5_take_149 : decode cX5_take 149 = .ok (.iinc 5 1, 3) := by decide +kernel
theorem dX5_take_152 : decode cX5_take 152 = .ok (.goto (-110), 3) := by decide +kernel
theorem dX5_take_155 : decode cX5_take 155 = .ok (.return_, 1) := by decide +kernel
set_option maxRecDepth 20000 in
theorem ggX5_findPlan_X5_take : GoodIn wsX5_findPlan wsX5_take := goodIn_r _ [11, 1, 6, 4, 20, 21, 22, 23, 24, 25, 26, 27, 28, 29, 30, 31, 32, 33, 34, 35, 36, 37, 38, 39, 40, 41, 42, 43, 44, 45, 46, 47, 48, 49, 50, 51] (by decide +kernel) (by decide +kernel)
set_option maxRecDepth 20000 in
theorem gX5_findPlan_X5_take : GoodIn wsX5_findPlan (wsV RX5 148 RX5 yX5_take wsX5_take) := goodIn_app (goodIn_of _ (by decide +kernel)) ggX5_findPlan_X5_take
set_option maxRecDepth 20000 in
theorem ggX5_findPlan_X5_lates : GoodIn wsX5_findPlan wsX5_lates := goodIn_r _ [15, 16, 1, 6, 17, 18, 19, 20, 21, 22, 23, 24, 25, 26, 27, 28, 29, 30, 31, 32, 33, 34, 35, 36, 37, 38, 39, 40, 41, 42, 43, 44, 45, 46, 47, 48, 49, 50, 51] (by decide +kernel) (by decide +kernel)
set_option maxRecDepth 20000 in
theorem gX5_findPlan_X5_lates : GoodIn wsX5_findPlan (wsV RX5 151 RX5 yX5_lates wsX5_lates) := goodIn_app (goodIn_of _ (by decide +kernel)) ggX5_findPlan_X5_lates
theorem dX5_findPlan_0 : decode cX5_findPlan 0 = .ok (.aload_n 0, 1) := by decide +kernel
theorem dX5_findPlan_1 : decode cX5_findPlan 1 = .ok (.iconst 0, 1) := by decide +kernel
theorem dX5_findPlan_2 : decode cX5_findPlan 2 = .ok (.putfield 145, 3) := by decide +kernel
theorem dX5_findPlan_5 : decode cX5_findPlan 5 = .ok (.iconst 0, 1) := by decide +kernel
theorem dX5_findPlan_6 : decode cX5_findPlan 6 = .ok (.istore_n 1, 1) := by decide +kernel
theorem dX5_findPlan_7 : decode cX5_findPlan 7 = .ok (.iload_n 1, 1) := by decide +kernel
theorem dX5_findPlan_8 : decode cX5_findPlan 8 = .ok (.aload_n 0, 1) := by decide +kernel
theorem dX5_findPlan_9 : decode cX5_findPlan 9 = .ok (.getfield 120, 3) := by decide +kernel
theorem dX5_findPlan_12 : decode cX5_findPlan 12 = .ok (.if_icmp .ge 46, 3) := by decide +kernel
theorem dX5_findPlan_15 : decode cX5_findPlan 15 = .ok (.aload_n 0, 1) := by decide +kernel
theorem dX5_findPlan_16 : decode cX5_findPlan 16 = .ok (.getfield 145, 3) := by decide +kernel
theorem dX5_findPlan_19 : decode cX5_findPlan 19 = .ok (.iconst 5, 1) := by decide +kernel
theorem dX5_findPlan_20 : decode cX5_findPlan 20 = .ok (.if_icmp .ge 38, 3) := by decide +kernel
theorem dX5_findPlan_23 : decode cX5_findPlan 23 = .ok (.aload_n 0, 1) := by decide +kernel
theorem dX5_findPlan_24 : decode cX5_findPlan 24 = .ok (.getfield 63, 3) := by decide +kernel
theorem dX5_findPlan_27 : decode cX5_findPlan 27 = .ok (.iload_n 1, 1) := by decide +kernel
theorem dX5_findPlan_28 : decode cX5_findPlan 28 = .ok (.iaload, 1) := by decide +kernel
theorem dX5_findPlan_29 : decode cX5_findPlan 29 = .ok (.ifCond .ne 23, 3) := by decide +kernel
theorem dX5_findPlan_32 : decode cX5_findPlan 32 = .ok (.aload_n 0, 1) := by decide +kernel
theorem dX5_findPlan_33 : decode cX5_findPlan 33 = .ok (.getfield 78, 3) := by decide +kernel
theorem dX5_findPlan_36 : decode cX5_findPlan 36 = .ok (.aload_n 0, 1) := by decide +kernel
theorem dX5_findPlan_37 : decode cX5_findPlan 37 = .ok (.getfield 145, 3) := by decide +kernel
theorem dX5_findPlan_40 : decode cX5_findPlan 40 = .ok (.iload_n 1, 1) := by decide +kernel
theorem dX5_findPlan_41 : decode cX5_findPlan 41 = .ok (.iastore, 1) := by decide +kernel
theorem dX5_findPlan_42 : decode cX5_findPlan 42 = .ok (.aload_n 0, 1) := by decide +kernel
theorem dX5_findPlan_43 : decode cX5_findPlan 43 = .ok (.dup, 1) := by decide +kernel
theorem dX5_findPlan_44 : decode cX5_findPlan 44 = .ok (.getfield 145, 3) := by decide +kernel
theorem dX5_findPlan_47 : decode cX5_findPlan 47 = .ok (.iconst 1, 1) := by decide +kernel
theorem dX5_findPlan_48 : decode cX5_findPlan 48 = .ok (.iadd, 1) := by decide +kernel
theorem dX5_findPlan_49 : decode cX5_findPlan 49 = .ok (.putfield 145, 3) := by decide +kernel
theorem dX5_findPlan_52 : decode cX5_findPlan 52 = .ok (.iinc 1 1, 3) := by decide +kernel
theorem dX5_findPlan_55 : decode cX5_findPlan 55 = .ok (.goto (-48), 3) := by decide +kernel
theorem dX5_findPlan_58 : decode cX5_findPlan 58 = .ok (.iconst 1, 1) := by decide +kernel
theorem dX5_findPlan_59 : decode cX5_findPlan 59 = .ok (.istore_n 1, 1) := by decide +kernel
theorem dX5_findPlan_60 : decode cX5_findPlan 60 = .ok (.iconst 2, 1) := by decide +kernel
theorem dX5_findPlan_61 : decode cX5_findPlan 61 = .ok (.istore_n 2, 1) := by decide +kernel
theorem dX5_findPlan_62 : decode cX5_findPlan 62 = .ok (.iload_n 2, 1) := by decide +kernel
theorem dX5_findPlan_63 : decode cX5_findPlan 63 = .ok (.aload_n 0, 1) := by decide +kernel
theorem dX5_findPlan_64 : decode cX5_findPlan 64 = .ok (.getfield 145, 3) := by decide +kernel
theorem dX5_findPlan_67 : decode cX5_findPlan 67 = .ok (.if_icmp .gt 13, 3) := by decide +kernel
theorem dX5_findPlan_70 : decode cX5_findPlan 70 = .ok (.iload_n 1, 1) := by decide +kernel
theorem dX5_findPlan_71 : decode cX5_findPlan 71 = .ok (.iload_n 2, 1) := by decide +kernel
theorem dX5_findPlan_72 : decode cX5_findPlan 72 = .ok (.imul, 1) := by decide +kernel
theorem dX5_findPlan_73 : decode cX5_findPlan 73 = .ok (.istore_n 1, 1) := by decide +kernel
theorem dX5_findPlan_74 : decode cX5_findPlan 74 = .ok (.iinc 2 1, 3) := by decide +kernel
theorem dX5_findPlan_77 : decode cX5_findPlan 77 = .ok (.goto (-15), 3) := by decide +kernel
theorem dX5_findPlan_80 : decode cX5_findPlan 80 = .ok (.iconst (-1), 1) := by decide +kernel
theorem dX5_findPlan_81 : decode cX5_findPlan 81 = .ok (.istore_n 2, 1) := by decide +kernel
theorem dX5_findPlan_82 : decode cX5_findPlan 82 = .ok (.iconst 0, 1) := by decide +kernel
theorem dX5_findPlan_83 : decode cX5_findPlan 83 = .ok (.istore_n 3, 1) := by decide +kernel
theorem dX5_findPlan_84 : decode cX5_findPlan 84 = .ok (.iload_n 3, 1) := by decide +kernel
theorem dX5_findPlan_85 : decode cX5_findPlan 85 = .ok (.iload_n 1, 1) := by decide +kernel
theorem dX5_findPlan_86 : decode cX5_findPlan 86 = .ok (.if_icmp .ge 65, 3) := by decide +kernel
theorem dX5_findPlan_89 : decode cX5_findPlan 89 = .ok (.aload_n 0, 1) := by decide +kernel
theorem dX5_findPlan_90 : decode cX5_findPlan 90 = .ok (.iload_n 3, 1) := by decide +kernel
theorem dX5_findPlan_91 : decode cX5_findPlan 91 = .ok (.invokevirtual 148, 3) := by decide +kernel
theorem dX5_findPlan_94 : decode cX5_findPlan 94 = .ok (.aload_n 0, 1) := by decide +kernel
theorem dX5_findPlan_95 : decode cX5_findPlan 95 = .ok (.invokevirtual 151, 3) := by decide +kernel
theorem dX5_findPlan_98 : decode cX5_findPlan 98 = .ok (.istore 4, 2) := by decide +kernel
theorem dX5_findPlan_100 : decode cX5_findPlan 100 = .ok (.iload_n 2, 1) := by decide +kernel
theorem dX5_findPlan_101 : decode cX5_findPlan 101 = .ok (.ifCond .lt 9, 3) := by decide +kernel
theorem dX5_findPlan_104 : decode cX5_findPlan 104 = .ok (.iload 4, 2) := by decide +kernel
theorem dX5_findPlan_106 : decode cX5_findPlan 106 = .ok (.iload_n 2, 1) := by decide +kernel
theorem dX5_findPlan_107 : decode cX5_findPlan 107 = .ok (.if_icmp .ge 38, 3) := by decide +kernel
theorem dX5_findPlan_110 : decode cX5_findPlan 110 = .ok (.iload 4, 2) := by decide +kernel
theorem dX5_findPlan_112 : decode cX5_findPlan 112 = .ok (.istore_n 2, 1) := by decide +kernel
theorem dX5_findPlan_113 : decode cX5_findPlan 113 = .ok (.iconst 0, 1) := by decide +kernel
theorem dX5_findPlan_114 : decode cX5_findPlan 114 = .ok (.istore 5, 2) := by decide +kernel
theorem dX5_findPlan_116 : decode cX5_findPlan 116 = .ok (.iload 5, 2) := by decide +kernel
theorem dX5_findPlan_118 : decode cX5_findPlan 118 = .ok (.aload_n 0, 1) := by decide +kernel
theorem dX5_findPlan_119 : decode cX5_findPlan 119 = .ok (.getfield 145, 3) := by decide +kernel
theorem dX5_findPlan_122 : decode cX5_findPlan 122 = .ok (.if_icmp .ge 23, 3) := by decide +kernel
theorem dX5_findPlan_125 : decode cX5_findPlan 125 = .ok (.aload_n 0, 1) := by decide +kernel
theorem dX5_findPlan_126 : decode cX5_findPlan 126 = .ok (.getfield 84, 3) := by decide +kernel
theorem dX5_findPlan_129 : decode cX5_findPlan 129 = .ok (.iload 5, 2) := by decide +kernel
theorem dX5_findPlan_131 : decode cX5_findPlan 131 = .ok (.aload_n 0, 1) := by decide +kernel
theorem dX5_findPlan_132 : decode cX5_findPlan 132 = .ok (.getfield 81, 3) := by decide +kernel
theorem dX5_findPlan_135 : decode cX5_findPlan 135 = .ok (.iload 5, 2) := by decide +kernel
theorem dX5_findPlan_137 : decode cX5_findPlan 137 = .ok (.iaload, 1) := by decide +kernel
theorem dX5_findPlan_138 : decode cX5_findPlan 138 = .ok (.iastore, 1) := by decide +kernel
theorem dX5_findPlan_139 : decode cX5_findPlan 139 = .ok (.iinc 5 1, 3) := by decide +kernel
theorem dX5_findPlan_142 : decode cX5_findPlan 142 = .ok (.goto (-26), 3) := by decide +kernel
theorem dX5_findPlan_145 : decode cX5_findPlan 145 = .ok (.iinc 3 1, 3) := by decide +kernel
theorem dX5_findPlan_148 : decode cX5_findPlan 148 = .ok (.goto (-64), 3) := by decide +kernel
theorem dX5_findPlan_151 : decode cX5_findPlan 151 = .ok (.iload_n 2, 1) := by decide +kernel
theorem dX5_findPlan_152 : decode cX5_findPlan 152 = .ok (.ifCond .ge 7, 3) := by decide +kernel
theorem dX5_findPlan_155 : decode cX5_findPlan 155 = .ok (.iconst 0, 1) := by decide +kernel
theorem dX5_findPlan_156 : decode cX5_findPlan 156 = .ok (.goto 4, 3) := by decide +kernel
theorem dX5_findPlan_159 : decode cX5_findPlan 159 = .ok (.iload_n 2, 1) := by decide +kernel
theorem dX5_findPlan_160 : decode cX5_findPlan 160 = .ok (.ireturn, 1) := by decide +kernel
set_option maxRecDepth 20000 in
theorem ggX5_plan_X5_in : GoodIn wsX5_plan wsX5_in := goodIn_r _ [6] (by decide +kernel) (by decide +kernel)
set_option maxRecDepth 20000 in
theorem gX5_plan_X5_in : GoodIn wsX5_plan (va_wsS RX5 90 yX5_in wsX5_in) := goodIn_app (goodIn_of _ (by decide +kernel)) ggX5_plan_X5_in
set_option maxRecDepth 20000 in
theorem ggX5_plan_X5_findPlan : GoodIn wsX5_plan wsX5_findPlan := goodIn_r _ [10, 1, 11, 12, 13, 2, 14, 15, 16, 17, 5, 18, 19, 20, 21, 22, 23, 24, 25, 26, 27, 28, 29, 30, 31, 32, 33, 34, 35, 36, 37, 38, 39, 40, 41, 42, 43, 44, 45, 46, 47, 48, 49, 50, 51, 52, 53, 54, 55, 56, 57, 58] (by decide +kernel) (by decide +kernel)
set_option maxRecDepth 20000 in
theorem gX5_plan_X5_findPlan : GoodIn wsX5_plan (wsV RX5 155 RX5 yX5_findPlan wsX5_findPlan) := goodIn_app (goodIn_of _ (by decide +kernel)) ggX5_plan_X5_findPlan
theorem dX5_plan_0 : decode cX5_plan 0 = .ok (.iload_n 1, 1) := by decide +kernel
theorem dX5_plan_1 : decode cX5_plan 1 = .ok (.iconst 0, 1) := by decide +kernel
theorem dX5_plan_2 : decode cX5_plan 2 = .ok (.iconst 2, 1) := by decide +kernel
theorem dX5_plan_3 : decode cX5_plan 3 = .ok (.invokestatic 90, 3) := by decide +kernel
theorem dX5_plan_6 : decode cX5_plan 6 = .ok (.ifCond .eq 17, 3) := by decide +kernel
theorem dX5_plan_9 : decode cX5_plan 9 = .ok (.iload_n 1, 1) := by decide +kernel
theorem dX5_plan_10 : decode cX5_plan 10 = .ok (.iconst 1, 1) := by decide +kernel
theorem dX5_plan_11 : decode cX5_plan 11 = .ok (.if_icmp .ne 15, 3) := by decide +kernel
theorem dX5_plan_14 : decode cX5_plan 14 = .ok (.iload_n 2, 1) := by decide +kernel
theorem dX5_plan_15 : decode cX5_plan 15 = .ok (.iconst 0, 1) := by decide +kernel
theorem dX5_plan_16 : decode cX5_plan 16 = .ok (.iconst 4, 1) := by decide +kernel
theorem dX5_plan_17 : decode cX5_plan 17 = .ok (.invokestatic 90, 3) := by decide +kernel
theorem dX5_plan_20 : decode cX5_plan 20 = .ok (.ifCond .ne 6, 3) := by decide +kernel
theorem dX5_plan_23 : decode cX5_plan 23 = .ok (.bipush (-100), 2) := by decide +kernel
theorem dX5_plan_25 : decode cX5_plan 25 = .ok (.ireturn, 1) := by decide +kernel
theorem dX5_plan_26 : decode cX5_plan 26 = .ok (.aload_n 0, 1) := by decide +kernel
theorem dX5_plan_27 : decode cX5_plan 27 = .ok (.invokevirtual 155, 3) := by decide +kernel
theorem dX5_plan_30 : decode cX5_plan 30 = .ok (.istore_n 3, 1) := by decide +kernel
theorem dX5_plan_31 : decode cX5_plan 31 = .ok (.iload_n 1, 1) := by decide +kernel
theorem dX5_plan_32 : decode cX5_plan 32 = .ok (.ifCond .ne 10, 3) := by decide +kernel
theorem dX5_plan_35 : decode cX5_plan 35 = .ok (.aload_n 0, 1) := by decide +kernel
theorem dX5_plan_36 : decode cX5_plan 36 = .ok (.getfield 145, 3) := by decide +kernel
theorem dX5_plan_39 : decode cX5_plan 39 = .ok (.goto 32, 3) := by decide +kernel
theorem dX5_plan_42 : decode cX5_plan 42 = .ok (.iload_n 1, 1) := by decide +kernel
theorem dX5_plan_43 : decode cX5_plan 43 = .ok (.iconst 2, 1) := by decide +kernel
theorem dX5_plan_44 : decode cX5_plan 44 = .ok (.if_icmp .ne 7, 3) := by decide +kernel
theorem dX5_plan_47 : decode cX5_plan 47 = .ok (.iload_n 3, 1) := by decide +kernel
theorem dX5_plan_48 : decode cX5_plan 48 = .ok (.goto 23, 3) := by decide +kernel
theorem dX5_plan_51 : decode cX5_plan 51 = .ok (.iload_n 2, 1) := by decide +kernel
theorem dX5_plan_52 : decode cX5_plan 52 = .ok (.aload_n 0, 1) := by decide +kernel
theorem dX5_plan_53 : decode cX5_plan 53 = .ok (.getfield 145, 3) := by decide +kernel
theorem dX5_plan_56 : decode cX5_plan 56 = .ok (.if_icmp .ge 12, 3) := by decide +kernel
theorem dX5_plan_59 : decode cX5_plan 59 = .ok (.aload_n 0, 1) := by decide +kernel
theorem dX5_plan_60 : decode cX5_plan 60 = .ok (.getfield 84, 3) := by decide +kernel
theorem dX5_plan_63 : decode cX5_plan 63 = .ok (.iload_n 2, 1) := by decide +kernel
theorem dX5_plan_64 : decode cX5_plan 64 = .ok (.iaload, 1) := by decide +kernel
theorem dX5_plan_65 : decode cX5_plan 65 = .ok (.goto 6, 3) := by decide +kernel
theorem dX5_plan_68 : decode cX5_plan 68 = .ok (.sipush (-900), 3) := by decide +kernel
theorem dX5_plan_71 : decode cX5_plan 71 = .ok (.ireturn, 1) := by decide +kernel
theorem dX5_ofState_0 : decode cX5_ofState 0 = .ok (.iconst 0, 1) := by decide +kernel
theorem dX5_ofState_1 : decode cX5_ofState 1 = .ok (.istore_n 2, 1) := by decide +kernel
theorem dX5_ofState_2 : decode cX5_ofState 2 = .ok (.iconst 0, 1) := by decide +kernel
theorem dX5_ofState_3 : decode cX5_ofState 3 = .ok (.istore_n 3, 1) := by decide +kernel
theorem dX5_ofState_4 : decode cX5_ofState 4 = .ok (.iload_n 3, 1) := by decide +kernel
theorem dX5_ofState_5 : decode cX5_ofState 5 = .ok (.aload_n 0, 1) := by decide +kernel
theorem dX5_ofState_6 : decode cX5_ofState 6 = .ok (.getfield 120, 3) := by decide +kernel
theorem dX5_ofState_9 : decode cX5_ofState 9 = .ok (.if_icmp .ge 27, 3) := by decide +kernel
theorem dX5_ofState_12 : decode cX5_ofState 12 = .ok (.iload_n 2, 1) := by decide +kernel
theorem dX5_ofState_13 : decode cX5_ofState 13 = .ok (.aload_n 0, 1) := by decide +kernel
theorem dX5_ofState_14 : decode cX5_ofState 14 = .ok (.getfield 63, 3) := by decide +kernel
theorem dX5_ofState_17 : decode cX5_ofState 17 = .ok (.iload_n 3, 1) := by decide +kernel
theorem dX5_ofState_18 : decode cX5_ofState 18 = .ok (.iaload, 1) := by decide +kernel
theorem dX5_ofState_19 : decode cX5_ofState 19 = .ok (.iload_n 1, 1) := by decide +kernel
theorem dX5_ofState_20 : decode cX5_ofState 20 = .ok (.if_icmp .ne 7, 3) := by decide +kernel
theorem dX5_ofState_23 : decode cX5_ofState 23 = .ok (.iconst 1, 1) := by decide +kernel
theorem dX5_ofState_24 : decode cX5_ofState 24 = .ok (.goto 4, 3) := by decide +kernel
theorem dX5_ofState_27 : decode cX5_ofState 27 = .ok (.iconst 0, 1) := by decide +kernel
theorem dX5_ofState_28 : decode cX5_ofState 28 = .ok (.iadd, 1) := by decide +kernel
theorem dX5_ofState_29 : decode cX5_ofState 29 = .ok (.istore_n 2, 1) := by decide +kernel
theorem dX5_ofState_30 : decode cX5_ofState 30 = .ok (.iinc 3 1, 3) := by decide +kernel
theorem dX5_ofState_33 : decode cX5_ofState 33 = .ok (.goto (-29), 3) := by decide +kernel
theorem dX5_ofState_36 : decode cX5_ofState 36 = .ok (.iload_n 2, 1) := by decide +kernel
theorem dX5_ofState_37 : decode cX5_ofState 37 = .ok (.ireturn, 1) := by decide +kernel
set_option maxRecDepth 20000 in
theorem ggX5_count_X5_ofState : GoodIn wsX5_count wsX5_ofState := goodIn_r _ [13, 4, 8, 22, 23, 24, 25, 26, 27, 28, 29, 30, 31, 32, 33, 34, 35, 36, 37, 38, 39, 40, 41, 42, 43, 44, 45, 46, 47, 48, 49, 50, 51, 52, 53] (by decide +kernel) (by decide +kernel)
set_option maxRecDepth 20000 in
theorem gX5_count_X5_ofState : GoodIn wsX5_count (wsV RX5 158 RX5 yX5_ofState wsX5_ofState) := goodIn_app (goodIn_of _ (by decide +kernel)) ggX5_count_X5_ofState
set_option maxRecDepth 20000 in
theorem ggX5_count_X5_lateOf : GoodIn wsX5_count wsX5_lateOf := goodIn_r _ [17, 18, 19, 20, 21, 22, 23, 24, 25, 26, 27, 28, 29, 30, 31, 32, 33, 34, 35, 36, 37, 38, 39, 40, 41, 42, 43, 44, 45, 46, 47, 48, 49, 50, 51, 52, 53] (by decide +kernel) (by decide +kernel)
set_option maxRecDepth 20000 in
theorem gX5_count_X5_lateOf : GoodIn wsX5_count (wsV RX5 142 RX5 yX5_lateOf wsX5_lateOf) := goodIn_app (goodIn_of _ (by decide +kernel)) ggX5_count_X5_lateOf
theorem dX5_count_0 : decode cX5_count 0 = .ok (.iconst 0, 1) := by decide +kernel
theorem dX5_count_1 : decode cX5_count 1 = .ok (.istore_n 2, 1) := by decide +kernel
theorem dX5_count_2 : decode cX5_count 2 = .ok (.iload_n 1, 1) := by decide +kernel
theorem dX5_count_3 : decode cX5_count 3 = .ok (.tableswitch 162 0 9 #[53, 58, 63, 68, 73, 79, 85, 90, 95, 122], 53) := by decide +kernel
theorem dX5_count_56 : decode cX5_count 56 = .ok (.aload_n 0, 1) := by decide +kernel
theorem dX5_count_57 : decode cX5_count 57 = .ok (.getfield 87, 3) := by decide +kernel
theorem dX5_count_60 : decode cX5_count 60 = .ok (.ireturn, 1) := by decide +kernel
theorem dX5_count_61 : decode cX5_count 61 = .ok (.aload_n 0, 1) := by decide +kernel
theorem dX5_count_62 : decode cX5_count 62 = .ok (.getfield 101, 3) := by decide +kernel
theorem dX5_count_65 : decode cX5_count 65 = .ok (.ireturn, 1) := by decide +kernel
theorem dX5_count_66 : decode cX5_count 66 = .ok (.aload_n 0, 1) := by decide +kernel
theorem dX5_count_67 : decode cX5_count 67 = .ok (.getfield 35, 3) := by decide +kernel
theorem dX5_count_70 : decode cX5_count 70 = .ok (.ireturn, 1) := by decide +kernel
theorem dX5_count_71 : decode cX5_count 71 = .ok (.aload_n 0, 1) := by decide +kernel
theorem dX5_count_72 : decode cX5_count 72 = .ok (.getfield 120, 3) := by decide +kernel
theorem dX5_count_75 : decode cX5_count 75 = .ok (.ireturn, 1) := by decide +kernel
theorem dX5_count_76 : decode cX5_count 76 = .ok (.aload_n 0, 1) := by decide +kernel
theorem dX5_count_77 : decode cX5_count 77 = .ok (.iconst 0, 1) := by decide +kernel
theorem dX5_count_78 : decode cX5_count 78 = .ok (.invokevirtual 158, 3) := by decide +kernel
theorem dX5_count_81 : decode cX5_count 81 = .ok (.ireturn, 1) := by decide +kernel
theorem dX5_count_82 : decode cX5_count 82 = .ok (.aload_n 0, 1) := by decide +kernel
theorem dX5_count_83 : decode cX5_count 83 = .ok (.iconst 2, 1) := by decide +kernel
theorem dX5_count_84 : decode cX5_count 84 = .ok (.invokevirtual 158, 3) := by decide +kernel
theorem dX5_count_87 : decode cX5_count 87 = .ok (.ireturn, 1) := by decide +kernel
theorem dX5_count_88 : decode cX5_count 88 = .ok (.aload_n 0, 1) := by decide +kernel
theorem dX5_count_89 : decode cX5_count 89 = .ok (.getfield 123, 3) := by decide +kernel
theorem dX5_count_92 : decode cX5_count 92 = .ok (.ireturn, 1) := by decide +kernel
theorem dX5_count_93 : decode cX5_count 93 = .ok (.aload_n 0, 1) := by decide +kernel
theorem dX5_count_94 : decode cX5_count 94 = .ok (.getfield 129, 3) := by decide +kernel
theorem dX5_count_97 : decode cX5_count 97 = .ok (.ireturn, 1) := by decide +kernel
theorem dX5_count_98 : decode cX5_count 98 = .ok (.iconst 0, 1) := by decide +kernel
theorem dX5_count_99 : decode cX5_count 99 = .ok (.istore_n 3, 1) := by decide +kernel
theorem dX5_count_100 : decode cX5_count 100 = .ok (.iload_n 3, 1) := by decide +kernel
theorem dX5_count_101 : decode cX5_count 101 = .ok (.aload_n 0, 1) := by decide +kernel
theorem dX5_count_102 : decode cX5_count 102 = .ok (.getfield 120, 3) := by decide +kernel
theorem dX5_count_105 : decode cX5_count 105 = .ok (.if_icmp .ge 18, 3) := by decide +kernel
theorem dX5_count_108 : decode cX5_count 108 = .ok (.iload_n 2, 1) := by decide +kernel
theorem dX5_count_109 : decode cX5_count 109 = .ok (.aload_n 0, 1) := by decide +kernel
theorem dX5_count_110 : decode cX5_count 110 = .ok (.getfield 72, 3) := by decide +kernel
theorem dX5_count_113 : decode cX5_count 113 = .ok (.iload_n 3, 1) := by decide +kernel
theorem dX5_count_114 : decode cX5_count 114 = .ok (.iaload, 1) := by decide +kernel
theorem dX5_count_115 : decode cX5_count 115 = .ok (.iadd, 1) := by decide +kernel
theorem dX5_count_116 : decode cX5_count 116 = .ok (.istore_n 2, 1) := by decide +kernel
theorem dX5_count_117 : decode cX5_count 117 = .ok (.iinc 3 1, 3) := by decide +kernel
theorem dX5_count_120 : decode cX5_count 120 = .ok (.goto (-20), 3) := by decide +kernel
theorem dX5_count_123 : decode cX5_count 123 = .ok (.iload_n 2, 1) := by decide +kernel
theorem dX5_count_124 : decode cX5_count 124 = .ok (.ireturn, 1) := by decide +kernel
theorem dX5_count_125 : decode cX5_count 125 = .ok (.iconst 0, 1) := by decide +kernel
theorem dX5_count_126 : decode cX5_count 126 = .ok (.istore_n 3, 1) := by decide +kernel
theorem dX5_count_127 : decode cX5_count 127 = .ok (.iload_n 3, 1) := by decide +kernel
theorem dX5_count_128 : decode cX5_count 128 = .ok (.aload_n 0, 1) := by decide +kernel
theorem dX5_count_129 : decode cX5_count 129 = .ok (.getfield 120, 3) := by decide +kernel
theorem dX5_count_132 : decode cX5_count 132 = .ok (.if_icmp .ge 31, 3) := by decide +kernel
theorem dX5_count_135 : decode cX5_count 135 = .ok (.iload_n 2, 1) := by decide +kernel
theorem dX5_count_136 : decode cX5_count 136 = .ok (.aload_n 0, 1) := by decide +kernel
theorem dX5_count_137 : decode cX5_count 137 = .ok (.getfield 63, 3) := by decide +kernel
theorem dX5_count_140 : decode cX5_count 140 = .ok (.iload_n 3, 1) := by decide +kernel
theorem dX5_count_141 : decode cX5_count 141 = .ok (.iaload, 1) := by decide +kernel
theorem dX5_count_142 : decode cX5_count 142 = .ok (.iconst 2, 1) := by decide +kernel
theorem dX5_count_143 : decode cX5_count 143 = .ok (.if_icmp .ne 11, 3) := by decide +kernel
theorem dX5_count_146 : decode cX5_count 146 = .ok (.aload_n 0, 1) := by decide +kernel
theorem dX5_count_147 : decode cX5_count 147 = .ok (.iload_n 3, 1) := by decide +kernel
theorem dX5_count_148 : decode cX5_count 148 = .ok (.invokevirtual 142, 3) := by decide +kernel
theorem dX5_count_151 : decode cX5_count 151 = .ok (.goto 4, 3) := by decide +kernel
theorem dX5_count_154 : decode cX5_count 154 = .ok (.iconst 0, 1) := by decide +kernel
theorem dX5_count_155 : decode cX5_count 155 = .ok (.iadd, 1) := by decide +kernel
theorem dX5_count_156 : decode cX5_count 156 = .ok (.istore_n 2, 1) := by decide +kernel
theorem dX5_count_157 : decode cX5_count 157 = .ok (.iinc 3 1, 3) := by decide +kernel
theorem dX5_count_160 : decode cX5_count 160 = .ok (.goto (-33), 3) := by decide +kernel
theorem dX5_count_163 : decode cX5_count 163 = .ok (.iload_n 2, 1) := by decide +kernel
theorem dX5_count_164 : decode cX5_count 164 = .ok (.ireturn, 1) := by decide +kernel
theorem dX5_count_165 : decode cX5_count 165 = .ok (.bipush (-100), 2) := by decide +kernel
theorem dX5_count_167 : decode cX5_count 167 = .ok (.ireturn, 1) := by decide +kernel
theorem dX5_trace_0 : decode cX5_trace 0 = .ok (.aload_n 0, 1) := by decide +kernel
theorem dX5_trace_1 : decode cX5_trace 1 = .ok (.getfield 108, 3) := by decide +kernel
theorem dX5_trace_4 : decode cX5_trace 4 = .ok (.lreturn, 1) := by decide +kernel
theorem dJ9_max_7cf53_0 : decode cJ9_max_7cf53 0 = .ok (.iload_n 0, 1) := by decide +kernel
theorem dJ9_max_7cf53_1 : decode cJ9_max_7cf53 1 = .ok (.iload_n 1, 1) := by decide +kernel
theorem dJ9_max_7cf53_2 : decode cJ9_max_7cf53 2 = .ok (.if_icmp .lt 7, 3) := by decide +kernel
theorem dJ9_max_7cf53_5 : decode cJ9_max_7cf53 5 = .ok (.iload_n 0, 1) := by decide +kernel
theorem dJ9_max_7cf53_6 : decode cJ9_max_7cf53 6 = .ok (.goto 4, 3) := by decide +kernel
theorem dJ9_max_7cf53_9 : decode cJ9_max_7cf53 9 = .ok (.iload_n 1, 1) := by decide +kernel
theorem dJ9_max_7cf53_10 : decode cJ9_max_7cf53 10 = .ok (.ireturn, 1) := by decide +kernel
theorem dJ9_min_7cf53_0 : decode cJ9_min_7cf53 0 = .ok (.iload_n 0, 1) := by decide +kernel
theorem dJ9_min_7cf53_1 : decode cJ9_min_7cf53 1 = .ok (.iload_n 1, 1) := by decide +kernel
theorem dJ9_min_7cf53_2 : decode cJ9_min_7cf53 2 = .ok (.if_icmp .gt 7, 3) := by decide +kernel
theorem dJ9_min_7cf53_5 : decode cJ9_min_7cf53 5 = .ok (.iload_n 0, 1) := by decide +kernel
theorem dJ9_min_7cf53_6 : decode cJ9_min_7cf53 6 = .ok (.goto 4, 3) := by decide +kernel
theorem dJ9_min_7cf53_9 : decode cJ9_min_7cf53 9 = .ok (.iload_n 1, 1) := by decide +kernel
theorem dJ9_min_7cf53_10 : decode cJ9_min_7cf53 10 = .ok (.ireturn, 1) := by decide +kernel
set_option maxRecDepth 20000 in
theorem ggL_law_X4_init : GoodIn wsL_law wsX4_init := goodIn_r _ [8, 9, 10, 11, 12, 13, 14, 15, 16, 17, 18, 19, 20, 21, 22, 23, 24, 25, 26, 27, 28, 29, 30, 31, 32, 33, 34, 35, 36, 37, 38, 39, 40, 41, 42, 43, 519, 520, 521, 473, 474, 475, 476, 477, 478, 479, 480, 481, 482, 483, 484, 485, 486, 522, 523, 524, 525, 526, 527] (by decide +kernel) (by decide +kernel)
set_option maxRecDepth 20000 in
theorem gL_law_X4_init : GoodIn wsL_law (wsX4_init) := ggL_law_X4_init
set_option maxRecDepth 20000 in
theorem ggL_law_X5_init : GoodIn wsL_law wsX5_init := goodIn_r _ [46, 47, 10, 11, 34, 48, 31, 49, 50, 51, 52, 53, 54, 55, 56, 57, 58, 59, 60, 61, 62, 63, 64, 65, 66, 67, 68, 69, 70, 71, 72, 73, 487, 488, 489, 490, 491, 492, 493, 494, 495, 496, 497, 498, 499, 500, 501, 502, 503, 504, 505, 506, 507, 508, 509, 510, 511, 512, 513, 514, 515, 516, 517, 518] (by decide +kernel) (by decide +kernel)
set_option maxRecDepth 20000 in
theorem gL_law_X5_init : GoodIn wsL_law (wsX5_init) := ggL_law_X5_init
set_option maxRecDepth 20000 in
theorem ggL_law_X4_weather : GoodIn wsL_law wsX4_weather := goodIn_r _ [77, 78, 15, 79, 80, 2, 81, 82, 83, 84, 85, 86, 87, 14, 88, 32, 33, 35, 473, 474, 475, 476, 477, 478, 479, 480, 481, 482, 483, 484, 485, 486, 519, 520, 521] (by decide +kernel) (by decide +kernel)
set_option maxRecDepth 20000 in
theorem gL_law_X4_weather : GoodIn wsL_law (wsV RL 13 RX4 yX4_weather wsX4_weather) := goodIn_app (goodIn_of _ (by decide +kernel)) ggL_law_X4_weather
set_option maxRecDepth 20000 in
theorem ggL_law_X5_weather : GoodIn wsL_law wsX5_weather := goodIn_r _ [92, 73, 48, 49, 50, 93, 94, 5, 95, 487, 488, 489, 490, 491, 492, 493, 494, 495, 496, 497, 498, 499, 500, 501, 502, 503, 504, 505, 506, 507, 508, 509, 510, 511, 512, 513, 514, 515, 516, 517, 518] (by decide +kernel) (by decide +kernel)
set_option maxRecDepth 20000 in
theorem gL_law_X5_weather : GoodIn wsL_law (wsV RL 17 RX5 yX5_weather wsX5_weather) := goodIn_app (goodIn_of _ (by decide +kernel)) ggL_law_X5_weather
set_option maxRecDepth 20000 in
theorem ggL_law_X4_loses : GoodIn wsL_law wsX4_loses := goodIn_r _ [99, 78, 15, 79, 80, 2, 81, 82, 83, 84, 100, 101, 102, 14, 103, 35, 104, 105, 106, 107, 108, 109, 110, 473, 474, 475, 476, 477, 478, 479, 480, 481, 482, 483, 484, 485, 486, 519, 520, 521] (by decide +kernel) (by decide +kernel)
set_option maxRecDepth 20000 in
theorem gL_law_X4_loses : GoodIn wsL_law (wsV RL 18 RX4 yX4_loses wsX4_loses) := goodIn_app (goodIn_of _ (by decide +kernel)) ggL_law_X4_loses
set_option maxRecDepth 20000 in
theorem ggL_law_X5_loses : GoodIn wsL_law wsX5_loses := goodIn_r _ [114, 73, 48, 93, 94, 5, 95, 487, 488, 489, 490, 491, 492, 493, 494, 495, 496, 497, 498, 499, 500, 501, 502, 503, 504, 505, 506, 507, 508, 509, 510, 511, 512, 513, 514, 515, 516, 517, 518] (by decide +kernel) (by decide +kernel)
set_option maxRecDepth 20000 in
theorem gL_law_X5_loses : GoodIn wsL_law (wsV RL 22 RX5 yX5_loses wsX5_loses) := goodIn_app (goodIn_of _ (by decide +kernel)) ggL_law_X5_loses
set_option maxRecDepth 20000 in
theorem ggL_law_X4_known : GoodIn wsL_law wsX4_known := goodIn_r _ [118, 15, 79, 80, 2, 81, 82, 83, 84, 119, 120, 121, 14, 122, 32, 123, 124, 125, 126, 127, 101, 102, 103, 35, 128, 129, 130, 131, 33, 132, 133, 134, 100, 104, 105, 106, 473, 474, 475, 476, 477, 478, 479, 480, 481, 482, 483, 484, 485, 486, 519, 520, 521] (by decide +kernel) (by decide +kernel)
set_option maxRecDepth 20000 in
theorem gL_law_X4_known : GoodIn wsL_law (wsV RL 23 RX4 yX4_known wsX4_known) := goodIn_app (goodIn_of _ (by decide +kernel)) ggL_law_X4_known
set_option maxRecDepth 20000 in
theorem ggL_law_X5_known : GoodIn wsL_law wsX5_known := goodIn_r _ [138, 48, 93, 94, 5, 95, 139, 140, 141, 142, 49, 143, 144, 145, 146, 50, 487, 488, 489, 490, 491, 492, 493, 494, 495, 496, 497, 498, 499, 500, 501, 502, 503, 504, 505, 506, 507, 508, 509, 510, 511, 512, 513, 514, 515, 516, 517, 518] (by decide +kernel) (by decide +kernel)
set_option maxRecDepth 20000 in
theorem gL_law_X5_known : GoodIn wsL_law (wsV RL 27 RX5 yX5_known wsX5_known) := goodIn_app (goodIn_of _ (by decide +kernel)) ggL_law_X5_known
set_option maxRecDepth 20000 in
theorem ggL_law_X4_fluid : GoodIn wsL_law wsX4_fluid := goodIn_r _ [150, 151, 17, 31, 16, 152, 153, 82, 83, 2, 84, 154, 155, 156, 157, 158, 159, 160, 10, 11, 161, 162, 163, 164, 165, 473, 474, 475, 476, 477, 478, 479, 480, 481, 482, 483, 484, 485, 486, 528, 529, 530, 531, 532] (by decide +kernel) (by decide +kernel)
set_option maxRecDepth 20000 in
theorem gL_law_X4_fluid : GoodIn wsL_law (wsV RL 28 RX4 yX4_fluid wsX4_fluid) := goodIn_app (goodIn_of _ (by decide +kernel)) ggL_law_X4_fluid
set_option maxRecDepth 20000 in
theorem ggL_law_X5_fluid : GoodIn wsL_law wsX5_fluid := goodIn_r _ [169, 170, 51, 52, 53, 54, 55, 93, 94, 5, 95, 487, 488, 489, 490, 491, 492, 493, 494, 495, 496, 497, 498, 499, 500, 501, 502, 503, 504, 505, 506, 507, 508, 509, 510, 511, 512, 513, 514, 515, 516, 517, 518] (by decide +kernel) (by decide +kernel)
set_option maxRecDepth 20000 in
theorem gL_law_X5_fluid : GoodIn wsL_law (wsV RL 32 RX5 yX5_fluid wsX5_fluid) := goodIn_app (goodIn_of _ (by decide +kernel)) ggL_law_X5_fluid
set_option maxRecDepth 20000 in
theorem ggL_law_X4_hold : GoodIn wsL_law wsX4_hold := goodIn_r _ [174, 175, 176, 177, 178, 2, 179, 17, 82, 83, 84, 79, 80, 81, 180, 181, 182, 153, 183, 161, 184, 185, 186, 187, 15, 119, 120, 121, 14, 122, 32, 123, 124, 125, 126, 127, 101, 102, 103, 35, 128, 129, 130, 131, 33, 132, 133, 134, 188, 189, 190, 191, 163, 164, 192, 193, 194, 195, 162, 473, 474, 475, 476, 477, 478, 479, 480, 481, 482, 483, 484, 485, 486, 528, 529, 530, 531, 532, 519, 520, 521] (by decide +kernel) (by decide +kernel)
set_option maxRecDepth 20000 in
theorem gL_law_X4_hold : GoodIn wsL_law (wsV RL 33 RX4 yX4_hold wsX4_hold) := goodIn_app (goodIn_of _ (by decide +kernel)) ggL_law_X4_hold
set_option maxRecDepth 20000 in
theorem ggL_law_X5_hold : GoodIn wsL_law wsX5_hold := goodIn_r _ [199, 200, 51, 201, 202, 203, 204, 205, 5, 206, 170, 93, 94, 95, 207, 208, 209, 210, 52, 53, 54, 143, 144, 145, 146, 48, 50, 139, 140, 141, 142, 49, 487, 488, 489, 490, 491, 492, 493, 494, 495, 496, 497, 498, 499, 500, 501, 502, 503, 504, 505, 506, 507, 508, 509, 510, 511, 512, 513, 514, 515, 516, 517, 518] (by decide +kernel) (by decide +kernel)
set_option maxRecDepth 20000 in
theorem gL_law_X5_hold : GoodIn wsL_law (wsV RL 36 RX5 yX5_hold wsX5_hold) := goodIn_app (goodIn_of _ (by decide +kernel)) ggL_law_X5_hold
set_option maxRecDepth 20000 in
theorem ggL_law_X4_fill : GoodIn wsL_law wsX4_fill := goodIn_r _ [214, 215, 176, 177, 178, 2, 179, 17, 82, 83, 84, 528, 529, 530, 531, 532, 473, 474, 475, 476, 477, 478, 479, 480, 481, 482, 483, 484, 485, 486] (by decide +kernel) (by decide +kernel)
set_option maxRecDepth 20000 in
theorem gL_law_X4_fill : GoodIn wsL_law (wsV RL 37 RX4 yX4_fill wsX4_fill) := goodIn_app (goodIn_of _ (by decide +kernel)) ggL_law_X4_fill
set_option maxRecDepth 20000 in
theorem ggL_law_X5_fill : GoodIn wsL_law wsX5_fill := goodIn_r _ [219, 55, 203, 204, 205, 5, 206, 170, 93, 94, 95, 487, 488, 489, 490, 491, 492, 493, 494, 495, 496, 497, 498, 499, 500, 501, 502, 503, 504, 505, 506, 507, 508, 509, 510, 511, 512, 513, 514, 515, 516, 517, 518] (by decide +kernel) (by decide +kernel)
set_option maxRecDepth 20000 in
theorem gL_law_X5_fill : GoodIn wsL_law (wsV RL 40 RX5 yX5_fill wsX5_fill) := goodIn_app (goodIn_of _ (by decide +kernel)) ggL_law_X5_fill
set_option maxRecDepth 20000 in
theorem ggL_law_X4_set : GoodIn wsL_law wsX4_set := goodIn_r _ [223, 224, 225, 226, 2, 227, 25, 82, 83, 84, 228, 229, 230, 231, 232, 19, 233, 234, 235, 236, 237, 238, 239, 240, 241, 242, 243, 244, 245, 246, 247, 26, 248, 249, 250, 251, 27, 473, 474, 475, 476, 477, 478, 479, 480, 481, 482, 483, 484, 485, 486, 533, 534, 535, 536, 537, 538, 539, 540, 541, 542, 543] (by decide +kernel) (by decide +kernel)
set_option maxRecDepth 20000 in
theorem gL_law_X4_set : GoodIn wsL_law (wsV RL 41 RX4 yX4_set wsX4_set) := goodIn_app (goodIn_of _ (by decide +kernel)) ggL_law_X4_set
set_option maxRecDepth 20000 in
theorem ggL_law_X5_set : GoodIn wsL_law wsX5_set := goodIn_r _ [255, 59, 56, 57, 58, 93, 94, 5, 95, 487, 488, 489, 490, 491, 492, 493, 494, 495, 496, 497, 498, 499, 500, 501, 502, 503, 504, 505, 506, 507, 508, 509, 510, 511, 512, 513, 514, 515, 516, 517, 518] (by decide +kernel) (by decide +kernel)
set_option maxRecDepth 20000 in
theorem gL_law_X5_set : GoodIn wsL_law (wsV RL 44 RX5 yX5_set wsX5_set) := goodIn_app (goodIn_of _ (by decide +kernel)) ggL_law_X5_set
set_option maxRecDepth 20000 in
theorem ggL_law_X4_jet : GoodIn wsL_law wsX4_jet := goodIn_r _ [259, 78, 232, 19, 18, 260, 236, 176, 177, 178, 2, 179, 17, 82, 83, 84, 79, 80, 81, 261, 262, 263, 264, 10, 11, 238, 265, 243, 266, 267, 268, 269, 270, 271, 473, 474, 475, 476, 477, 478, 479, 480, 481, 482, 483, 484, 485, 486, 533, 534, 535, 536, 537, 538, 539, 540, 541, 542, 543] (by decide +kernel) (by decide +kernel)
set_option maxRecDepth 20000 in
theorem gL_law_X4_jet : GoodIn wsL_law (wsV RL 45 RX4 yX4_jet wsX4_jet) := goodIn_app (goodIn_of _ (by decide +kernel)) ggL_law_X4_jet
set_option maxRecDepth 20000 in
theorem ggL_law_X5_jet : GoodIn wsL_law wsX5_jet := goodIn_r _ [275, 73, 276, 60, 61, 62, 63, 64, 65, 66, 68, 69, 93, 94, 5, 95, 203, 204, 205, 206, 170, 487, 488, 489, 490, 491, 492, 493, 494, 495, 496, 497, 498, 499, 500, 501, 502, 503, 504, 505, 506, 507, 508, 509, 510, 511, 512, 513, 514, 515, 516, 517, 518] (by decide +kernel) (by decide +kernel)
set_option maxRecDepth 20000 in
theorem gL_law_X5_jet : GoodIn wsL_law (wsV RL 49 RX5 yX5_jet wsX5_jet) := goodIn_app (goodIn_of _ (by decide +kernel)) ggL_law_X5_jet
set_option maxRecDepth 20000 in
theorem ggL_law_X4_minutes : GoodIn wsL_law wsX4_minutes := goodIn_r _ [280, 78, 82, 83, 2, 84, 281, 282, 283, 284, 285, 27, 286, 133, 125, 134, 25, 287, 288, 289, 290, 20, 291, 292, 293, 294, 236, 295, 267, 296, 297, 298, 299, 270, 238, 300, 243, 269, 301, 302, 303, 304, 305, 306, 215, 307, 308, 309, 310, 311, 232, 19, 312, 313, 314, 315, 316, 26, 233, 234, 235, 237, 239, 240, 241, 242, 317, 318, 319, 320, 321, 322, 323, 324, 184, 185, 186, 187, 15, 119, 120, 121, 14, 122, 32, 123, 124, 126, 127, 101, 102, 103, 35, 128, 129, 130, 131, 33, 132, 188, 189, 190, 153, 191, 161, 163, 164, 192, 193, 194, 195, 162, 325, 326, 327, 328, 265, 473, 474, 475, 476, 477, 478, 479, 480, 481, 482, 483, 484, 485, 486, 533, 534, 535, 536, 537, 538, 539, 540, 541, 542, 543, 528, 529, 530, 531, 532, 519, 520, 521] (by decide +kernel) (by decide +kernel)
set_option maxRecDepth 20000 in
theorem gL_law_X4_minutes : GoodIn wsL_law (wsV RL 50 RX4 yX4_minutes wsX4_minutes) := goodIn_app (goodIn_of _ (by decide +kernel)) ggL_law_X4_minutes
set_option maxRecDepth 20000 in
theorem ggL_law_X5_minutes : GoodIn wsL_law wsX5_minutes := goodIn_r _ [332, 73, 93, 94, 5, 95, 333, 334, 335, 336, 337, 58, 56, 338, 339, 340, 341, 59, 66, 60, 63, 67, 65, 69, 62, 68, 342, 343, 344, 345, 276, 64, 55, 346, 347, 348, 349, 350, 57, 207, 208, 209, 210, 52, 51, 53, 54, 143, 144, 145, 146, 48, 50, 139, 140, 141, 142, 49, 487, 488, 489, 490, 491, 492, 493, 494, 495, 496, 497, 498, 499, 500, 501, 502, 503, 504, 505, 506, 507, 508, 509, 510, 511, 512, 513, 514, 515, 516, 517, 518] (by decide +kernel) (by decide +kernel)
set_option maxRecDepth 20000 in
theorem gL_law_X5_minutes : GoodIn wsL_law (wsV RL 53 RX5 yX5_minutes wsX5_minutes) := goodIn_app (goodIn_of _ (by decide +kernel)) ggL_law_X5_minutes
set_option maxRecDepth 20000 in
theorem ggL_law_X4_about : GoodIn wsL_law wsX4_about := goodIn_r _ [354, 355, 291, 312, 356, 357, 358, 359, 360, 2, 361, 19, 82, 83, 84, 233, 234, 235, 236, 237, 238, 239, 240, 241, 242, 243, 362, 363, 364, 365, 366, 268, 270, 367, 293, 294, 295, 267, 533, 534, 535, 536, 537, 538, 539, 540, 541, 542, 543, 473, 474, 475, 476, 477, 478, 479, 480, 481, 482, 483, 484, 485, 486] (by decide +kernel) (by decide +kernel)
set_option maxRecDepth 20000 in
theorem gL_law_X4_about : GoodIn wsL_law (wsV RL 54 RX4 yX4_about wsX4_about) := goodIn_app (goodIn_of _ (by decide +kernel)) ggL_law_X4_about
set_option maxRecDepth 20000 in
theorem ggL_law_X5_about : GoodIn wsL_law wsX5_about := goodIn_r _ [371, 276, 65, 56, 59, 66, 62, 68, 69, 93, 94, 5, 95, 372, 373, 374, 375, 61, 60, 63, 487, 488, 489, 490, 491, 492, 493, 494, 495, 496, 497, 498, 499, 500, 501, 502, 503, 504, 505, 506, 507, 508, 509, 510, 511, 512, 513, 514, 515, 516, 517, 518] (by decide +kernel) (by decide +kernel)
set_option maxRecDepth 20000 in
theorem gL_law_X5_about : GoodIn wsL_law (wsV RL 57 RX5 yX5_about wsX5_about) := goodIn_app (goodIn_of _ (by decide +kernel)) ggL_law_X5_about
set_option maxRecDepth 20000 in
theorem ggL_law_X4_on : GoodIn wsL_law wsX4_on := goodIn_r _ [379, 25, 20, 380, 82, 83, 2, 84, 473, 474, 475, 476, 477, 478, 479, 480, 481, 482, 483, 484, 485, 486, 533, 534, 535, 536, 537, 538, 539, 540, 541, 542, 543] (by decide +kernel) (by decide +kernel)
set_option maxRecDepth 20000 in
theorem gL_law_X4_on : GoodIn wsL_law (wsV RL 58 RX4 yX4_on wsX4_on) := goodIn_app (goodIn_of _ (by decide +kernel)) ggL_law_X4_on
set_option maxRecDepth 20000 in
theorem ggL_law_X5_on : GoodIn wsL_law wsX5_on := goodIn_r _ [384, 56, 59, 93, 94, 5, 95, 487, 488, 489, 490, 491, 492, 493, 494, 495, 496, 497, 498, 499, 500, 501, 502, 503, 504, 505, 506, 507, 508, 509, 510, 511, 512, 513, 514, 515, 516, 517, 518] (by decide +kernel) (by decide +kernel)
set_option maxRecDepth 20000 in
theorem gL_law_X5_on : GoodIn wsL_law (wsV RL 61 RX5 yX5_on wsX5_on) := goodIn_app (goodIn_of _ (by decide +kernel)) ggL_law_X5_on
set_option maxRecDepth 20000 in
theorem ggL_law_X4_litres : GoodIn wsL_law wsX4_litres := goodIn_r _ [388, 215, 176, 177, 178, 2, 179, 17, 82, 83, 84, 528, 529, 530, 531, 532, 473, 474, 475, 476, 477, 478, 479, 480, 481, 482, 483, 484, 485, 486] (by decide +kernel) (by decide +kernel)
set_option maxRecDepth 20000 in
theorem gL_law_X4_litres : GoodIn wsL_law (wsV RL 62 RX4 yX4_litres wsX4_litres) := goodIn_app (goodIn_of _ (by decide +kernel)) ggL_law_X4_litres
set_option maxRecDepth 20000 in
theorem ggL_law_X5_litres : GoodIn wsL_law wsX5_litres := goodIn_r _ [392, 55, 203, 204, 205, 5, 206, 170, 93, 94, 95, 487, 488, 489, 490, 491, 492, 493, 494, 495, 496, 497, 498, 499, 500, 501, 502, 503, 504, 505, 506, 507, 508, 509, 510, 511, 512, 513, 514, 515, 516, 517, 518] (by decide +kernel) (by decide +kernel)
set_option maxRecDepth 20000 in
theorem gL_law_X5_litres : GoodIn wsL_law (wsV RL 65 RX5 yX5_litres wsX5_litres) := goodIn_app (goodIn_of _ (by decide +kernel)) ggL_law_X5_litres
set_option maxRecDepth 20000 in
theorem ggL_law_X4_plan : GoodIn wsL_law wsX4_plan := goodIn_r _ [396, 24, 19, 397, 78, 398, 82, 83, 2, 84, 399, 400, 401, 23, 402, 403, 40, 404, 234, 235, 236, 237, 238, 239, 240, 241, 242, 243, 405, 406, 407, 408, 409, 410, 411, 412, 413, 414, 41, 415, 416, 133, 125, 134, 42, 417, 418, 419, 420, 421, 422, 43, 423, 293, 294, 295, 267, 424, 425, 426, 427, 473, 474, 475, 476, 477, 478, 479, 480, 481, 482, 483, 484, 485, 486, 522, 523, 524, 525, 526, 527, 533, 534, 535, 536, 537, 538, 539, 540, 541, 542, 543] (by decide +kernel) (by decide +kernel)
set_option maxRecDepth 20000 in
theorem gL_law_X4_plan : GoodIn wsL_law (wsV RL 66 RX4 yX4_plan wsX4_plan) := goodIn_app (goodIn_of _ (by decide +kernel)) ggL_law_X4_plan
set_option maxRecDepth 20000 in
theorem ggL_law_X5_plan : GoodIn wsL_law wsX5_plan := goodIn_r _ [431, 432, 72, 93, 94, 5, 95, 433, 434, 435, 436, 276, 65, 70, 71, 437, 438, 439, 440, 441, 442, 443, 444, 73, 62, 61, 60, 487, 488, 489, 490, 491, 492, 493, 494, 495, 496, 497, 498, 499, 500, 501, 502, 503, 504, 505, 506, 507, 508, 509, 510, 511, 512, 513, 514, 515, 516, 517, 518] (by decide +kernel) (by decide +kernel)
set_option maxRecDepth 20000 in
theorem gL_law_X5_plan : GoodIn wsL_law (wsV RL 69 RX5 yX5_plan wsX5_plan) := goodIn_app (goodIn_of _ (by decide +kernel)) ggL_law_X5_plan
set_option maxRecDepth 20000 in
theorem ggL_law_X4_count : GoodIn wsL_law wsX4_count := goodIn_r _ [448, 78, 151, 25, 232, 285, 307, 228, 229, 230, 2, 231, 19, 233, 234, 235, 236, 237, 238, 239, 240, 241, 242, 243, 449, 450, 451, 452, 356, 453, 454, 455, 456, 362, 363, 364, 365, 366, 268, 270, 367, 293, 294, 295, 267, 473, 474, 475, 476, 477, 478, 479, 480, 481, 482, 483, 484, 485, 486, 533, 534, 535, 536, 537, 538, 539, 540, 541, 542, 543] (by decide +kernel) (by decide +kernel)
set_option maxRecDepth 20000 in
theorem gL_law_X4_count : GoodIn wsL_law (wsV RL 70 RX4 yX4_count wsX4_count) := goodIn_app (goodIn_of _ (by decide +kernel)) ggL_law_X4_count
set_option maxRecDepth 20000 in
theorem ggL_law_X5_count : GoodIn wsL_law wsX5_count := goodIn_r _ [460, 73, 170, 56, 276, 337, 346, 68, 65, 461, 462, 463, 5, 464, 372, 373, 374, 375, 69, 61, 60, 63, 487, 488, 489, 490, 491, 492, 493, 494, 495, 496, 497, 498, 499, 500, 501, 502, 503, 504, 505, 506, 507, 508, 509, 510, 511, 512, 513, 514, 515, 516, 517, 518] (by decide +kernel) (by decide +kernel)
set_option maxRecDepth 20000 in
theorem gL_law_X5_count : GoodIn wsL_law (wsV RL 73 RX5 yX5_count wsX5_count) := goodIn_app (goodIn_of _ (by decide +kernel)) ggL_law_X5_count
set_option maxRecDepth 20000 in
theorem ggL_law_X4_trace : GoodIn wsL_law wsX4_trace := goodIn_r _ [468, 175, 473, 474, 475, 476, 477, 478, 479, 480, 481, 482, 483, 484, 485, 486] (by decide +kernel) (by decide +kernel)
set_option maxRecDepth 20000 in
theorem gL_law_X4_trace : GoodIn wsL_law (wsV RL 74 RX4 yX4_trace wsX4_trace) := goodIn_app (goodIn_of _ (by decide +kernel)) ggL_law_X4_trace
set_option maxRecDepth 20000 in
theorem ggL_law_X5_trace : GoodIn wsL_law wsX5_trace := goodIn_r _ [472, 200, 487, 488, 489, 490, 491, 492, 493, 494, 495, 496, 497, 498, 499, 500, 501, 502, 503, 504, 505, 506, 507, 508, 509, 510, 511, 512, 513, 514, 515, 516, 517, 518] (by decide +kernel) (by decide +kernel)
set_option maxRecDepth 20000 in
theorem gL_law_X5_trace : GoodIn wsL_law (wsV RL 78 RX5 yX5_trace wsX5_trace) := goodIn_app (goodIn_of _ (by decide +kernel)) ggL_law_X5_trace
theorem dL_law_0 : decode cL_law 0 = .ok (.new 7, 3) := by decide +kernel
theorem dL_law_3 : decode cL_law 3 = .ok (.dup, 1) := by decide +kernel
theorem dL_law_4 : decode cL_law 4 = .ok (.invokespecial 9, 3) := by decide +kernel
theorem dL_law_7 : decode cL_law 7 = .ok (.astore_n 1, 1) := by decide +kernel
theorem dL_law_8 : decode cL_law 8 = .ok (.new 10, 3) := by decide +kernel
theorem dL_law_11 : decode cL_law 11 = .ok (.dup, 1) := by decide +kernel
theorem dL_law_12 : decode cL_law 12 = .ok (.invokespecial 12, 3) := by decide +kernel
theorem dL_law_15 : decode cL_law 15 = .ok (.astore_n 2, 1) := by decide +kernel
theorem dL_law_16 : decode cL_law 16 = .ok (.iconst 0, 1) := by decide +kernel
theorem dL_law_17 : decode cL_law 17 = .ok (.istore_n 3, 1) := by decide +kernel
theorem dL_law_18 : decode cL_law 18 = .ok (.iload_n 3, 1) := by decide +kernel
theorem dL_law_19 : decode cL_law 19 = .ok (.aload_n 0, 1) := by decide +kernel
theorem dL_law_20 : decode cL_law 20 = .ok (.arraylength, 1) := by decide +kernel
theorem dL_law_21 : decode cL_law 21 = .ok (.bipush 9, 2) := by decide +kernel
theorem dL_law_23 : decode cL_law 23 = .ok (.isub, 1) := by decide +kernel
theorem dL_law_24 : decode cL_law 24 = .ok (.if_icmp .gt 612, 3) := by decide +kernel
theorem dL_law_27 : decode cL_law 27 = .ok (.aload_n 0, 1) := by decide +kernel
theorem dL_law_28 : decode cL_law 28 = .ok (.iload_n 3, 1) := by decide +kernel
theorem dL_law_29 : decode cL_law 29 = .ok (.iaload, 1) := by decide +kernel
theorem dL_law_30 : decode cL_law 30 = .ok (.bipush 15, 2) := by decide +kernel
theorem dL_law_32 : decode cL_law 32 = .ok (.iand, 1) := by decide +kernel
theorem dL_law_33 : decode cL_law 33 = .ok (.tableswitch 597 0 14 #[75, 118, 141, 174, 273, 306, 339, 372, 425, 448, 481, 504, 527, 560, 583], 75) := by decide +kernel
theorem dL_law_108 : decode cL_law 108 = .ok (.aload_n 1, 1) := by decide +kernel
theorem dL_law_109 : decode cL_law 109 = .ok (.aload_n 0, 1) := by decide +kernel
theorem dL_law_110 : decode cL_law 110 = .ok (.iload_n 3, 1) := by decide +kernel
theorem dL_law_111 : decode cL_law 111 = .ok (.iconst 1, 1) := by decide +kernel
theorem dL_law_112 : decode cL_law 112 = .ok (.iadd, 1) := by decide +kernel
theorem dL_law_113 : decode cL_law 113 = .ok (.iaload, 1) := by decide +kernel
theorem dL_law_114 : decode cL_law 114 = .ok (.aload_n 0, 1) := by decide +kernel
theorem dL_law_115 : decode cL_law 115 = .ok (.iload_n 3, 1) := by decide +kernel
theorem dL_law_116 : decode cL_law 116 = .ok (.iconst 2, 1) := by decide +kernel
theorem dL_law_117 : decode cL_law 117 = .ok (.iadd, 1) := by decide +kernel
theorem dL_law_118 : decode cL_law 118 = .ok (.iaload, 1) := by decide +kernel
theorem dL_law_119 : decode cL_law 119 = .ok (.aload_n 0, 1) := by decide +kernel
theorem dL_law_120 : decode cL_law 120 = .ok (.iload_n 3, 1) := by decide +kernel
theorem dL_law_121 : decode cL_law 121 = .ok (.iconst 3, 1) := by decide +kernel
theorem dL_law_122 : decode cL_law 122 = .ok (.iadd, 1) := by decide +kernel
theorem dL_law_123 : decode cL_law 123 = .ok (.iaload, 1) := by decide +kernel
theorem dL_law_124 : decode cL_law 124 = .ok (.invokevirtual 13, 3) := by decide +kernel
theorem dL_law_127 : decode cL_law 127 = .ok (.aload_n 2, 1) := by decide +kernel
theorem dL_law_128 : decode cL_law 128 = .ok (.aload_n 0, 1) := by decide +kernel
theorem dL_law_129 : decode cL_law 129 = .ok (.iload_n 3, 1) := by decide +kernel
theorem dL_law_130 : decode cL_law 130 = .ok (.iconst 1, 1) := by decide +kernel
theorem dL_law_131 : decode cL_law 131 = .ok (.iadd, 1) := by decide +kernel
theorem dL_law_132 : decode cL_law 132 = .ok (.iaload, 1) := by decide +kernel
theorem dL_law_133 : decode cL_law 133 = .ok (.aload_n 0, 1) := by decide +kernel
theorem dL_law_134 : decode cL_law 134 = .ok (.iload_n 3, 1) := by decide +kernel
theorem dL_law_135 : decode cL_law 135 = .ok (.iconst 2, 1) := by decide +kernel
theorem dL_law_136 : decode cL_law 136 = .ok (.iadd, 1) := by decide +kernel
theorem dL_law_137 : decode cL_law 137 = .ok (.iaload, 1) := by decide +kernel
theorem dL_law_138 : decode cL_law 138 = .ok (.aload_n 0, 1) := by decide +kernel
theorem dL_law_139 : decode cL_law 139 = .ok (.iload_n 3, 1) := by decide +kernel
theorem dL_law_140 : decode cL_law 140 = .ok (.iconst 3, 1) := by decide +kernel
theorem dL_law_141 : decode cL_law 141 = .ok (.iadd, 1) := by decide +kernel
theorem dL_law_142 : decode cL_law 142 = .ok (.iaload, 1) := by decide +kernel
theorem dL_law_143 : decode cL_law 143 = .ok (.invokevirtual 17, 3) := by decide +kernel
theorem dL_law_146 : decode cL_law 146 = .ok (.if_icmp .eq 484, 3) := by decide +kernel
theorem dL_law_149 : decode cL_law 149 = .ok (.iconst 0, 1) := by decide +kernel
theorem dL_law_150 : decode cL_law 150 = .ok (.ireturn, 1) := by decide +kernel
theorem dL_law_151 : decode cL_law 151 = .ok (.aload_n 1, 1) := by decide +kernel
theorem dL_law_152 : decode cL_law 152 = .ok (.aload_n 0, 1) := by decide +kernel
theorem dL_law_153 : decode cL_law 153 = .ok (.iload_n 3, 1) := by decide +kernel
theorem dL_law_154 : decode cL_law 154 = .ok (.iconst 1, 1) := by decide +kernel
theorem dL_law_155 : decode cL_law 155 = .ok (.iadd, 1) := by decide +kernel
theorem dL_law_156 : decode cL_law 156 = .ok (.iaload, 1) := by decide +kernel
theorem dL_law_157 : decode cL_law 157 = .ok (.invokevirtual 18, 3) := by decide +kernel
theorem dL_law_160 : decode cL_law 160 = .ok (.aload_n 2, 1) := by decide +kernel
theorem dL_law_161 : decode cL_law 161 = .ok (.aload_n 0, 1) := by decide +kernel
theorem dL_law_162 : decode cL_law 162 = .ok (.iload_n 3, 1) := by decide +kernel
theorem dL_law_163 : decode cL_law 163 = .ok (.iconst 1, 1) := by decide +kernel
theorem dL_law_164 : decode cL_law 164 = .ok (.iadd, 1) := by decide +kernel
theorem dL_law_165 : decode cL_law 165 = .ok (.iaload, 1) := by decide +kernel
theorem dL_law_166 : decode cL_law 166 = .ok (.invokevirtual 22, 3) := by decide +kernel
theorem dL_law_169 : decode cL_law 169 = .ok (.if_icmp .eq 461, 3) := by decide +kernel
theorem dL_law_172 : decode cL_law 172 = .ok (.iconst 0, 1) := by decide +kernel
theorem dL_law_173 : decode cL_law 173 = .ok (.ireturn, 1) := by decide +kernel
theorem dL_law_174 : decode cL_law 174 = .ok (.aload_n 1, 1) := by decide +kernel
theorem dL_law_175 : decode cL_law 175 = .ok (.aload_n 0, 1) := by decide +kernel
theorem dL_law_176 : decode cL_law 176 = .ok (.iload_n 3, 1) := by decide +kernel
theorem dL_law_177 : decode cL_law 177 = .ok (.iconst 1, 1) := by decide +kernel
theorem dL_law_178 : decode cL_law 178 = .ok (.iadd, 1) := by decide +kernel
theorem dL_law_179 : decode cL_law 179 = .ok (.iaload, 1) := by decide +kernel
theorem dL_law_180 : decode cL_law 180 = .ok (.aload_n 0, 1) := by decide +kernel
theorem dL_law_181 : decode cL_law 181 = .ok (.iload_n 3, 1) := by decide +kernel
theorem dL_law_182 : decode cL_law 182 = .ok (.iconst 2, 1) := by decide +kernel
theorem dL_law_183 : decode cL_law 183 = .ok (.iadd, 1) := by decide +kernel
theorem dL_law_184 : decode cL_law 184 = .ok (.iaload, 1) := by decide +kernel
theorem dL_law_185 : decode cL_law 185 = .ok (.invokevirtual 23, 3) := by decide +kernel
theorem dL_law_188 : decode cL_law 188 = .ok (.aload_n 2, 1) := by decide +kernel
theorem dL_law_189 : decode cL_law 189 = .ok (.aload_n 0, 1) := by decide +kernel
theorem dL_law_190 : decode cL_law 190 = .ok (.iload_n 3, 1) := by decide +kernel
theorem dL_law_191 : decode cL_law 191 = .ok (.iconst 1, 1) := by decide +kernel
theorem dL_law_192 : decode cL_law 192 = .ok (.iadd, 1) := by decide +kernel
theorem dL_law_193 : decode cL_law 193 = .ok (.iaload, 1) := by decide +kernel
theorem dL_law_194 : decode cL_law 194 = .ok (.aload_n 0, 1) := by decide +kernel
theorem dL_law_195 : decode cL_law 195 = .ok (.iload_n 3, 1) := by decide +kernel
theorem dL_law_196 : decode cL_law 196 = .ok (.iconst 2, 1) := by decide +kernel
theorem dL_law_197 : decode cL_law 197 = .ok (.iadd, 1) := by decide +kernel
theorem dL_law_198 : decode cL_law 198 = .ok (.iaload, 1) := by decide +kernel
theorem dL_law_199 : decode cL_law 199 = .ok (.invokevirtual 27, 3) := by decide +kernel
theorem dL_law_202 : decode cL_law 202 = .ok (.if_icmp .eq 428, 3) := by decide +kernel
theorem dL_law_205 : decode cL_law 205 = .ok (.iconst 0, 1) := by decide +kernel
theorem dL_law_206 : decode cL_law 206 = .ok (.ireturn, 1) := by decide +kernel
theorem dL_law_207 : decode cL_law 207 = .ok (.aload_n 1, 1) := by decide +kernel
theorem dL_law_208 : decode cL_law 208 = .ok (.aload_n 0, 1) := by decide +kernel
theorem dL_law_209 : decode cL_law 209 = .ok (.iload_n 3, 1) := by decide +kernel
theorem dL_law_210 : decode cL_law 210 = .ok (.iconst 1, 1) := by decide +kernel
theorem dL_law_211 : decode cL_law 211 = .ok (.iadd, 1) := by decide +kernel
theorem dL_law_212 : decode cL_law 212 = .ok (.iaload, 1) := by decide +kernel
theorem dL_law_213 : decode cL_law 213 = .ok (.aload_n 0, 1) := by decide +kernel
theorem dL_law_214 : decode cL_law 214 = .ok (.iload_n 3, 1) := by decide +kernel
theorem dL_law_215 : decode cL_law 215 = .ok (.iconst 2, 1) := by decide +kernel
theorem dL_law_216 : decode cL_law 216 = .ok (.iadd, 1) := by decide +kernel
theorem dL_law_217 : decode cL_law 217 = .ok (.iaload, 1) := by decide +kernel
theorem dL_law_218 : decode cL_law 218 = .ok (.aload_n 0, 1) := by decide +kernel
theorem dL_law_219 : decode cL_law 219 = .ok (.iload_n 3, 1) := by decide +kernel
theorem dL_law_220 : decode cL_law 220 = .ok (.iconst 3, 1) := by decide +kernel
theorem dL_law_221 : decode cL_law 221 = .ok (.iadd, 1) := by decide +kernel
theorem dL_law_222 : decode cL_law 222 = .ok (.iaload, 1) := by decide +kernel
theorem dL_law_223 : decode cL_law 223 = .ok (.aload_n 0, 1) := by decide +kernel
theorem dL_law_224 : decode cL_law 224 = .ok (.iload_n 3, 1) := by decide +kernel
theorem dL_law_225 : decode cL_law 225 = .ok (.iconst 4, 1) := by decide +kernel
theorem dL_law_226 : decode cL_law 226 = .ok (.iadd, 1) := by decide +kernel
theorem dL_law_227 : decode cL_law 227 = .ok (.iaload, 1) := by decide +kernel
theorem dL_law_228 : decode cL_law 228 = .ok (.aload_n 0, 1) := by decide +kernel
theorem dL_law_229 : decode cL_law 229 = .ok (.iload_n 3, 1) := by decide +kernel
theorem dL_law_230 : decode cL_law 230 = .ok (.iconst 5, 1) := by decide +kernel
theorem dL_law_231 : decode cL_law 231 = .ok (.iadd, 1) := by decide +kernel
theorem dL_law_232 : decode cL_law 232 = .ok (.iaload, 1) := by decide +kernel
theorem dL_law_233 : decode cL_law 233 = .ok (.aload_n 0, 1) := by decide +kernel
theorem dL_law_234 : decode cL_law 234 = .ok (.iload_n 3, 1) := by decide +kernel
theorem dL_law_235 : decode cL_law 235 = .ok (.bipush 6, 2) := by decide +kernel
theorem dL_law_237 : decode cL_law 237 = .ok (.iadd, 1) := by decide +kernel
theorem dL_law_238 : decode cL_law 238 = .ok (.iaload, 1) := by decide +kernel
theorem dL_law_239 : decode cL_law 239 = .ok (.aload_n 0, 1) := by decide +kernel
theorem dL_law_240 : decode cL_law 240 = .ok (.iload_n 3, 1) := by decide +kernel
theorem dL_law_241 : decode cL_law 241 = .ok (.bipush 7, 2) := by decide +kernel
theorem dL_law_243 : decode cL_law 243 = .ok (.iadd, 1) := by decide +kernel
theorem dL_law_244 : decode cL_law 244 = .ok (.iaload, 1) := by decide +kernel
theorem dL_law_245 : decode cL_law 245 = .ok (.aload_n 0, 1) := by decide +kernel
theorem dL_law_246 : decode cL_law 246 = .ok (.iload_n 3, 1) := by decide +kernel
theorem dL_law_247 : decode cL_law 247 = .ok (.bipush 8, 2) := by decide +kernel
theorem dL_law_249 : decode cL_law 249 = .ok (.iadd, 1) := by decide +kernel
theorem dL_law_250 : decode cL_law 250 = .ok (.iaload, 1) := by decide +kernel
theorem dL_law_251 : decode cL_law 251 = .ok (.invokevirtual 28, 3) := by decide +kernel
theorem dL_law_254 : decode cL_law 254 = .ok (.aload_n 2, 1) := by decide +kernel
theorem dL_law_255 : decode cL_law 255 = .ok (.aload_n 0, 1) := by decide +kernel
theorem dL_law_256 : decode cL_law 256 = .ok (.iload_n 3, 1) := by decide +kernel
theorem dL_law_257 : decode cL_law 257 = .ok (.iconst 1, 1) := by decide +kernel
theorem dL_law_258 : decode cL_law 258 = .ok (.iadd, 1) := by decide +kernel
theorem dL_law_259 : decode cL_law 259 = .ok (.iaload, 1) := by decide +kernel
theorem dL_law_260 : decode cL_law 260 = .ok (.aload_n 0, 1) := by decide +kernel
theorem dL_law_261 : decode cL_law 261 = .ok (.iload_n 3, 1) := by decide +kernel
theorem dL_law_262 : decode cL_law 262 = .ok (.iconst 2, 1) := by decide +kernel
theorem dL_law_263 : decode cL_law 263 = .ok (.iadd, 1) := by decide +kernel
theorem dL_law_264 : decode cL_law 264 = .ok (.iaload, 1) := by decide +kernel
theorem dL_law_265 : decode cL_law 265 = .ok (.aload_n 0, 1) := by decide +kernel
theorem dL_law_266 : decode cL_law 266 = .ok (.iload_n 3, 1) := by decide +kernel
theorem dL_law_267 : decode cL_law 267 = .ok (.iconst 3, 1) := by decide +kernel
theorem dL_law_268 : decode cL_law 268 = .ok (.iadd, 1) := by decide +kernel
theorem dL_law_269 : decode cL_law 269 = .ok (.iaload, 1) := by decide +kernel
theorem dL_law_270 : decode cL_law 270 = .ok (.aload_n 0, 1) := by decide +kernel
theorem dL_law_271 : decode cL_law 271 = .ok (.iload_n 3, 1) := by decide +kernel
theorem dL_law_272 : decode cL_law 272 = .ok (.iconst 4, 1) := by decide +kernel
theorem dL_law_273 : decode cL_law 273 = .ok (.iadd, 1) := by decide +kernel
theorem dL_law_274 : decode cL_law 274 = .ok (.iaload, 1) := by decide +kernel
theorem dL_law_275 : decode cL_law 275 = .ok (.aload_n 0, 1) := by decide +kernel
theorem dL_law_276 : decode cL_law 276 = .ok (.iload_n 3, 1) := by decide +kernel
theorem dL_law_277 : decode cL_law 277 = .ok (.iconst 5, 1) := by decide +kernel
theorem dL_law_278 : decode cL_law 278 = .ok (.iadd, 1) := by decide +kernel
theorem dL_law_279 : decode cL_law 279 = .ok (.iaload, 1) := by decide +kernel
theorem dL_law_280 : decode cL_law 280 = .ok (.aload_n 0, 1) := by decide +kernel
theorem dL_law_281 : decode cL_law 281 = .ok (.iload_n 3, 1) := by decide +kernel
theorem dL_law_282 : decode cL_law 282 = .ok (.bipush 6, 2) := by decide +kernel
theorem dL_law_284 : decode cL_law 284 = .ok (.iadd, 1) := by decide +kernel
theorem dL_law_285 : decode cL_law 285 = .ok (.iaload, 1) := by decide +kernel
theorem dL_law_286 : decode cL_law 286 = .ok (.aload_n 0, 1) := by decide +kernel
theorem dL_law_287 : decode cL_law 287 = .ok (.iload_n 3, 1) := by decide +kernel
theorem dL_law_288 : decode cL_law 288 = .ok (.bipush 7, 2) := by decide +kernel
theorem dL_law_290 : decode cL_law 290 = .ok (.iadd, 1) := by decide +kernel
theorem dL_law_291 : decode cL_law 291 = .ok (.iaload, 1) := by decide +kernel
theorem dL_law_292 : decode cL_law 292 = .ok (.aload_n 0, 1) := by decide +kernel
theorem dL_law_293 : decode cL_law 293 = .ok (.iload_n 3, 1) := by decide +kernel
theorem dL_law_294 : decode cL_law 294 = .ok (.bipush 8, 2) := by decide +kernel
theorem dL_law_296 : decode cL_law 296 = .ok (.iadd, 1) := by decide +kernel
theorem dL_law_297 : decode cL_law 297 = .ok (.iaload, 1) := by decide +kernel
theorem dL_law_298 : decode cL_law 298 = .ok (.invokevirtual 32, 3) := by decide +kernel
theorem dL_law_301 : decode cL_law 301 = .ok (.if_icmp .eq 329, 3) := by decide +kernel
theorem dL_law_304 : decode cL_law 304 = .ok (.iconst 0, 1) := by decide +kernel
theorem dL_law_305 : decode cL_law 305 = .ok (.ireturn, 1) := by decide +kernel
theorem dL_law_306 : decode cL_law 306 = .ok (.aload_n 1, 1) := by decide +kernel
theorem dL_law_307 : decode cL_law 307 = .ok (.aload_n 0, 1) := by decide +kernel
theorem dL_law_308 : decode cL_law 308 = .ok (.iload_n 3, 1) := by decide +kernel
theorem dL_law_309 : decode cL_law 309 = .ok (.iconst 1, 1) := by decide +kernel
theorem dL_law_310 : decode cL_law 310 = .ok (.iadd, 1) := by decide +kernel
theorem dL_law_311 : decode cL_law 311 = .ok (.iaload, 1) := by decide +kernel
theorem dL_law_312 : decode cL_law 312 = .ok (.aload_n 0, 1) := by decide +kernel
theorem dL_law_313 : decode cL_law 313 = .ok (.iload_n 3, 1) := by decide +kernel
theorem dL_law_314 : decode cL_law 314 = .ok (.iconst 2, 1) := by decide +kernel
theorem dL_law_315 : decode cL_law 315 = .ok (.iadd, 1) := by decide +kernel
theorem dL_law_316 : decode cL_law 316 = .ok (.iaload, 1) := by decide +kernel
theorem dL_law_317 : decode cL_law 317 = .ok (.invokevirtual 33, 3) := by decide +kernel
theorem dL_law_320 : decode cL_law 320 = .ok (.aload_n 2, 1) := by decide +kernel
theorem dL_law_321 : decode cL_law 321 = .ok (.aload_n 0, 1) := by decide +kernel
theorem dL_law_322 : decode cL_law 322 = .ok (.iload_n 3, 1) := by decide +kernel
theorem dL_law_323 : decode cL_law 323 = .ok (.iconst 1, 1) := by decide +kernel
theorem dL_law_324 : decode cL_law 324 = .ok (.iadd, 1) := by decide +kernel
theorem dL_law_325 : decode cL_law 325 = .ok (.iaload, 1) := by decide +kernel
theorem dL_law_326 : decode cL_law 326 = .ok (.aload_n 0, 1) := by decide +kernel
theorem dL_law_327 : decode cL_law 327 = .ok (.iload_n 3, 1) := by decide +kernel
theorem dL_law_328 : decode cL_law 328 = .ok (.iconst 2, 1) := by decide +kernel
theorem dL_law_329 : decode cL_law 329 = .ok (.iadd, 1) := by decide +kernel
theorem dL_law_330 : decode cL_law 330 = .ok (.iaload, 1) := by decide +kernel
theorem dL_law_331 : decode cL_law 331 = .ok (.invokevirtual 36, 3) := by decide +kernel
theorem dL_law_334 : decode cL_law 334 = .ok (.if_icmp .eq 296, 3) := by decide +kernel
theorem dL_law_337 : decode cL_law 337 = .ok (.iconst 0, 1) := by decide +kernel
theorem dL_law_338 : decode cL_law 338 = .ok (.ireturn, 1) := by decide +kernel
theorem dL_law_339 : decode cL_law 339 = .ok (.aload_n 1, 1) := by decide +kernel
theorem dL_law_340 : decode cL_law 340 = .ok (.aload_n 0, 1) := by decide +kernel
theorem dL_law_341 : decode cL_law 341 = .ok (.iload_n 3, 1) := by decide +kernel
theorem dL_law_342 : decode cL_law 342 = .ok (.iconst 1, 1) := by decide +kernel
theorem dL_law_343 : decode cL_law 343 = .ok (.iadd, 1) := by decide +kernel
theorem dL_law_344 : decode cL_law 344 = .ok (.iaload, 1) := by decide +kernel
theorem dL_law_345 : decode cL_law 345 = .ok (.aload_n 0, 1) := by decide +kernel
theorem dL_law_346 : decode cL_law 346 = .ok (.iload_n 3, 1) := by decide +kernel
theorem dL_law_347 : decode cL_law 347 = .ok (.iconst 2, 1) := by decide +kernel
theorem dL_law_348 : decode cL_law 348 = .ok (.iadd, 1) := by decide +kernel
theorem dL_law_349 : decode cL_law 349 = .ok (.iaload, 1) := by decide +kernel
theorem dL_law_350 : decode cL_law 350 = .ok (.invokevirtual 37, 3) := by decide +kernel
theorem dL_law_353 : decode cL_law 353 = .ok (.aload_n 2, 1) := by decide +kernel
theorem dL_law_354 : decode cL_law 354 = .ok (.aload_n 0, 1) := by decide +kernel
theorem dL_law_355 : decode cL_law 355 = .ok (.iload_n 3, 1) := by decide +kernel
theorem dL_law_356 : decode cL_law 356 = .ok (.iconst 1, 1) := by decide +kernel
theorem dL_law_357 : decode cL_law 357 = .ok (.iadd, 1) := by decide +kernel
theorem dL_law_358 : decode cL_law 358 = .ok (.iaload, 1) := by decide +kernel
theorem dL_law_359 : decode cL_law 359 = .ok (.aload_n 0, 1) := by decide +kernel
theorem dL_law_360 : decode cL_law 360 = .ok (.iload_n 3, 1) := by decide +kernel
theorem dL_law_361 : decode cL_law 361 = .ok (.iconst 2, 1) := by decide +kernel
theorem dL_law_362 : decode cL_law 362 = .ok (.iadd, 1) := by decide +kernel
theorem dL_law_363 : decode cL_law 363 = .ok (.iaload, 1) := by decide +kernel
theorem dL_law_364 : decode cL_law 364 = .ok (.invokevirtual 40, 3) := by decide +kernel
theorem dL_law_367 : decode cL_law 367 = .ok (.if_icmp .eq 263, 3) := by decide +kernel
theorem dL_law_370 : decode cL_law 370 = .ok (.iconst 0, 1) := by decide +kernel
theorem dL_law_371 : decode cL_law 371 = .ok (.ireturn, 1) := by decide +kernel
theorem dL_law_372 : decode cL_law 372 = .ok (.aload_n 1, 1) := by decide +kernel
theorem dL_law_373 : decode cL_law 373 = .ok (.aload_n 0, 1) := by decide +kernel
theorem dL_law_374 : decode cL_law 374 = .ok (.iload_n 3, 1) := by decide +kernel
theorem dL_law_375 : decode cL_law 375 = .ok (.iconst 1, 1) := by decide +kernel
theorem dL_law_376 : decode cL_law 376 = .ok (.iadd, 1) := by decide +kernel
theorem dL_law_377 : decode cL_law 377 = .ok (.iaload, 1) := by decide +kernel
theorem dL_law_378 : decode cL_law 378 = .ok (.aload_n 0, 1) := by decide +kernel
theorem dL_law_379 : decode cL_law 379 = .ok (.iload_n 3, 1) := by decide +kernel
theorem dL_law_380 : decode cL_law 380 = .ok (.iconst 2, 1) := by decide +kernel
theorem dL_law_381 : decode cL_law 381 = .ok (.iadd, 1) := by decide +kernel
theorem dL_law_382 : decode cL_law 382 = .ok (.iaload, 1) := by decide +kernel
theorem dL_law_383 : decode cL_law 383 = .ok (.invokevirtual 41, 3) := by decide +kernel
theorem dL_law_386 : decode cL_law 386 = .ok (.aload_n 2, 1) := by decide +kernel
theorem dL_law_387 : decode cL_law 387 = .ok (.aload_n 0, 1) := by decide +kernel
theorem dL_law_388 : decode cL_law 388 = .ok (.iload_n 3, 1) := by decide +kernel
theorem dL_law_389 : decode cL_law 389 = .ok (.iconst 1, 1) := by decide +kernel
theorem dL_law_390 : decode cL_law 390 = .ok (.iadd, 1) := by decide +kernel
theorem dL_law_391 : decode cL_law 391 = .ok (.iaload, 1) := by decide +kernel
theorem dL_law_392 : decode cL_law 392 = .ok (.aload_n 0, 1) := by decide +kernel
theorem dL_law_393 : decode cL_law 393 = .ok (.iload_n 3, 1) := by decide +kernel
theorem dL_law_394 : decode cL_law 394 = .ok (.iconst 2, 1) := by decide +kernel
theorem dL_law_395 : decode cL_law 395 = .ok (.iadd, 1) := by decide +kernel
theorem dL_law_396 : decode cL_law 396 = .ok (.iaload, 1) := by decide +kernel
theorem dL_law_397 : decode cL_law 397 = .ok (.invokevirtual 44, 3) := by decide +kernel
theorem dL_law_400 : decode cL_law 400 = .ok (.if_icmp .eq 230, 3) := by decide +kernel
theorem dL_law_403 : decode cL_law 403 = .ok (.iconst 0, 1) := by decide +kernel
theorem dL_law_404 : decode cL_law 404 = .ok (.ireturn, 1) := by decide +kernel
theorem dL_law_405 : decode cL_law 405 = .ok (.aload_n 1, 1) := by decide +kernel
theorem dL_law_406 : decode cL_law 406 = .ok (.aload_n 0, 1) := by decide +kernel
theorem dL_law_407 : decode cL_law 407 = .ok (.iload_n 3, 1) := by decide +kernel
theorem dL_law_408 : decode cL_law 408 = .ok (.iconst 1, 1) := by decide +kernel
theorem dL_law_409 : decode cL_law 409 = .ok (.iadd, 1) := by decide +kernel
theorem dL_law_410 : decode cL_law 410 = .ok (.iaload, 1) := by decide +kernel
theorem dL_law_411 : decode cL_law 411 = .ok (.aload_n 0, 1) := by decide +kernel
theorem dL_law_412 : decode cL_law 412 = .ok (.iload_n 3, 1) := by decide +kernel
theorem dL_law_413 : decode cL_law 413 = .ok (.iconst 2, 1) := by decide +kernel
theorem dL_law_414 : decode cL_law 414 = .ok (.iadd, 1) := by decide +kernel
theorem dL_law_415 : decode cL_law 415 = .ok (.iaload, 1) := by decide +kernel
theorem dL_law_416 : decode cL_law 416 = .ok (.aload_n 0, 1) := by decide +kernel
theorem dL_law_417 : decode cL_law 417 = .ok (.iload_n 3, 1) := by decide +kernel
theorem dL_law_418 : decode cL_law 418 = .ok (.iconst 3, 1) := by decide +kernel
theorem dL_law_419 : decode cL_law 419 = .ok (.iadd, 1) := by decide +kernel
theorem dL_law_420 : decode cL_law 420 = .ok (.iaload, 1) := by decide +kernel
theorem dL_law_421 : decode cL_law 421 = .ok (.aload_n 0, 1) := by decide +kernel
theorem dL_law_422 : decode cL_law 422 = .ok (.iload_n 3, 1) := by decide +kernel
theorem dL_law_423 : decode cL_law 423 = .ok (.iconst 4, 1) := by decide +kernel
theorem dL_law_424 : decode cL_law 424 = .ok (.iadd, 1) := by decide +kernel
theorem dL_law_425 : decode cL_law 425 = .ok (.iaload, 1) := by decide +kernel
theorem dL_law_426 : decode cL_law 426 = .ok (.invokevirtual 45, 3) := by decide +kernel
theorem dL_law_429 : decode cL_law 429 = .ok (.aload_n 2, 1) := by decide +kernel
theorem dL_law_430 : decode cL_law 430 = .ok (.aload_n 0, 1) := by decide +kernel
theorem dL_law_431 : decode cL_law 431 = .ok (.iload_n 3, 1) := by decide +kernel
theorem dL_law_432 : decode cL_law 432 = .ok (.iconst 1, 1) := by decide +kernel
theorem dL_law_433 : decode cL_law 433 = .ok (.iadd, 1) := by decide +kernel
theorem dL_law_434 : decode cL_law 434 = .ok (.iaload, 1) := by decide +kernel
theorem dL_law_435 : decode cL_law 435 = .ok (.aload_n 0, 1) := by decide +kernel
theorem dL_law_436 : decode cL_law 436 = .ok (.iload_n 3, 1) := by decide +kernel
theorem dL_law_437 : decode cL_law 437 = .ok (.iconst 2, 1) := by decide +kernel
theorem dL_law_438 : decode cL_law 438 = .ok (.iadd, 1) := by decide +kernel
theorem dL_law_439 : decode cL_law 439 = .ok (.iaload, 1) := by decide +kernel
theorem dL_law_440 : decode cL_law 440 = .ok (.aload_n 0, 1) := by decide +kernel
theorem dL_law_441 : decode cL_law 441 = .ok (.iload_n 3, 1) := by decide +kernel
theorem dL_law_442 : decode cL_law 442 = .ok (.iconst 3, 1) := by decide +kernel
theorem dL_law_443 : decode cL_law 443 = .ok (.iadd, 1) := by decide +kernel
theorem dL_law_444 : decode cL_law 444 = .ok (.iaload, 1) := by decide +kernel
theorem dL_law_445 : decode cL_law 445 = .ok (.aload_n 0, 1) := by decide +kernel
theorem dL_law_446 : decode cL_law 446 = .ok (.iload_n 3, 1) := by decide +kernel
theorem dL_law_447 : decode cL_law 447 = .ok (.iconst 4, 1) := by decide +kernel
theorem dL_law_448 : decode cL_law 448 = .ok (.iadd, 1) := by decide +kernel
theorem dL_law_449 : decode cL_law 449 = .ok (.iaload, 1) := by decide +kernel
theorem dL_law_450 : decode cL_law 450 = .ok (.invokevirtual 49, 3) := by decide +kernel
theorem dL_law_453 : decode cL_law 453 = .ok (.if_icmp .eq 177, 3) := by decide +kernel
theorem dL_law_456 : decode cL_law 456 = .ok (.iconst 0, 1) := by decide +kernel
theorem dL_law_457 : decode cL_law 457 = .ok (.ireturn, 1) := by decide +kernel
theorem dL_law_458 : decode cL_law 458 = .ok (.aload_n 1, 1) := by decide +kernel
theorem dL_law_459 : decode cL_law 459 = .ok (.aload_n 0, 1) := by decide +kernel
theorem dL_law_460 : decode cL_law 460 = .ok (.iload_n 3, 1) := by decide +kernel
theorem dL_law_461 : decode cL_law 461 = .ok (.iconst 1, 1) := by decide +kernel
theorem dL_law_462 : decode cL_law 462 = .ok (.iadd, 1) := by decide +kernel
theorem dL_law_463 : decode cL_law 463 = .ok (.iaload, 1) := by decide +kernel
theorem dL_law_464 : decode cL_law 464 = .ok (.invokevirtual 50, 3) := by decide +kernel
theorem dL_law_467 : decode cL_law 467 = .ok (.aload_n 2, 1) := by decide +kernel
theorem dL_law_468 : decode cL_law 468 = .ok (.aload_n 0, 1) := by decide +kernel
theorem dL_law_469 : decode cL_law 469 = .ok (.iload_n 3, 1) := by decide +kernel
theorem dL_law_470 : decode cL_law 470 = .ok (.iconst 1, 1) := by decide +kernel
theorem dL_law_471 : decode cL_law 471 = .ok (.iadd, 1) := by decide +kernel
theorem dL_law_472 : decode cL_law 472 = .ok (.iaload, 1) := by decide +kernel
theorem dL_law_473 : decode cL_law 473 = .ok (.invokevirtual 53, 3) := by decide +kernel
theorem dL_law_476 : decode cL_law 476 = .ok (.if_icmp .eq 154, 3) := by decide +kernel
theorem dL_law_479 : decode cL_law 479 = .ok (.iconst 0, 1) := by decide +kernel
theorem dL_law_480 : decode cL_law 480 = .ok (.ireturn, 1) := by decide +kernel
theorem dL_law_481 : decode cL_law 481 = .ok (.aload_n 1, 1) := by decide +kernel
theorem dL_law_482 : decode cL_law 482 = .ok (.aload_n 0, 1) := by decide +kernel
theorem dL_law_483 : decode cL_law 483 = .ok (.iload_n 3, 1) := by decide +kernel
theorem dL_law_484 : decode cL_law 484 = .ok (.iconst 1, 1) := by decide +kernel
theorem dL_law_485 : decode cL_law 485 = .ok (.iadd, 1) := by decide +kernel
theorem dL_law_486 : decode cL_law 486 = .ok (.iaload, 1) := by decide +kernel
theorem dL_law_487 : decode cL_law 487 = .ok (.aload_n 0, 1) := by decide +kernel
theorem dL_law_488 : decode cL_law 488 = .ok (.iload_n 3, 1) := by decide +kernel
theorem dL_law_489 : decode cL_law 489 = .ok (.iconst 2, 1) := by decide +kernel
theorem dL_law_490 : decode cL_law 490 = .ok (.iadd, 1) := by decide +kernel
theorem dL_law_491 : decode cL_law 491 = .ok (.iaload, 1) := by decide +kernel
theorem dL_law_492 : decode cL_law 492 = .ok (.invokevirtual 54, 3) := by decide +kernel
theorem dL_law_495 : decode cL_law 495 = .ok (.aload_n 2, 1) := by decide +kernel
theorem dL_law_496 : decode cL_law 496 = .ok (.aload_n 0, 1) := by decide +kernel
theorem dL_law_497 : decode cL_law 497 = .ok (.iload_n 3, 1) := by decide +kernel
theorem dL_law_498 : decode cL_law 498 = .ok (.iconst 1, 1) := by decide +kernel
theorem dL_law_499 : decode cL_law 499 = .ok (.iadd, 1) := by decide +kernel
theorem dL_law_500 : decode cL_law 500 = .ok (.iaload, 1) := by decide +kernel
theorem dL_law_501 : decode cL_law 501 = .ok (.aload_n 0, 1) := by decide +kernel
theorem dL_law_502 : decode cL_law 502 = .ok (.iload_n 3, 1) := by decide +kernel
theorem dL_law_503 : decode cL_law 503 = .ok (.iconst 2, 1) := by decide +kernel
theorem dL_law_504 : decode cL_law 504 = .ok (.iadd, 1) := by decide +kernel
theorem dL_law_505 : decode cL_law 505 = .ok (.iaload, 1) := by decide +kernel
theorem dL_law_506 : decode cL_law 506 = .ok (.invokevirtual 57, 3) := by decide +kernel
theorem dL_law_509 : decode cL_law 509 = .ok (.if_icmp .eq 121, 3) := by decide +kernel
theorem dL_law_512 : decode cL_law 512 = .ok (.iconst 0, 1) := by decide +kernel
theorem dL_law_513 : decode cL_law 513 = .ok (.ireturn, 1) := by decide +kernel
theorem dL_law_514 : decode cL_law 514 = .ok (.aload_n 1, 1) := by decide +kernel
theorem dL_law_515 : decode cL_law 515 = .ok (.aload_n 0, 1) := by decide +kernel
theorem dL_law_516 : decode cL_law 516 = .ok (.iload_n 3, 1) := by decide +kernel
theorem dL_law_517 : decode cL_law 517 = .ok (.iconst 1, 1) := by decide +kernel
theorem dL_law_518 : decode cL_law 518 = .ok (.iadd, 1) := by decide +kernel
theorem dL_law_519 : decode cL_law 519 = .ok (.iaload, 1) := by decide +kernel
theorem dL_law_520 : decode cL_law 520 = .ok (.invokevirtual 58, 3) := by decide +kernel
theorem dL_law_523 : decode cL_law 523 = .ok (.aload_n 2, 1) := by decide +kernel
theorem dL_law_524 : decode cL_law 524 = .ok (.aload_n 0, 1) := by decide +kernel
theorem dL_law_525 : decode cL_law 525 = .ok (.iload_n 3, 1) := by decide +kernel
theorem dL_law_526 : decode cL_law 526 = .ok (.iconst 1, 1) := by decide +kernel
theorem dL_law_527 : decode cL_law 527 = .ok (.iadd, 1) := by decide +kernel
theorem dL_law_528 : decode cL_law 528 = .ok (.iaload, 1) := by decide +kernel
theorem dL_law_529 : decode cL_law 529 = .ok (.invokevirtual 61, 3) := by decide +kernel
theorem dL_law_532 : decode cL_law 532 = .ok (.if_icmp .eq 98, 3) := by decide +kernel
theorem dL_law_535 : decode cL_law 535 = .ok (.iconst 0, 1) := by decide +kernel
theorem dL_law_536 : decode cL_law 536 = .ok (.ireturn, 1) := by decide +kernel
theorem dL_law_537 : decode cL_law 537 = .ok (.aload_n 1, 1) := by decide +kernel
theorem dL_law_538 : decode cL_law 538 = .ok (.aload_n 0, 1) := by decide +kernel
theorem dL_law_539 : decode cL_law 539 = .ok (.iload_n 3, 1) := by decide +kernel
theorem dL_law_540 : decode cL_law 540 = .ok (.iconst 1, 1) := by decide +kernel
theorem dL_law_541 : decode cL_law 541 = .ok (.iadd, 1) := by decide +kernel
theorem dL_law_542 : decode cL_law 542 = .ok (.iaload, 1) := by decide +kernel
theorem dL_law_543 : decode cL_law 543 = .ok (.invokevirtual 62, 3) := by decide +kernel
theorem dL_law_546 : decode cL_law 546 = .ok (.aload_n 2, 1) := by decide +kernel
theorem dL_law_547 : decode cL_law 547 = .ok (.aload_n 0, 1) := by decide +kernel
theorem dL_law_548 : decode cL_law 548 = .ok (.iload_n 3, 1) := by decide +kernel
theorem dL_law_549 : decode cL_law 549 = .ok (.iconst 1, 1) := by decide +kernel
theorem dL_law_550 : decode cL_law 550 = .ok (.iadd, 1) := by decide +kernel
theorem dL_law_551 : decode cL_law 551 = .ok (.iaload, 1) := by decide +kernel
theorem dL_law_552 : decode cL_law 552 = .ok (.invokevirtual 65, 3) := by decide +kernel
theorem dL_law_555 : decode cL_law 555 = .ok (.if_icmp .eq 75, 3) := by decide +kernel
theorem dL_law_558 : decode cL_law 558 = .ok (.iconst 0, 1) := by decide +kernel
theorem dL_law_559 : decode cL_law 559 = .ok (.ireturn, 1) := by decide +kernel
theorem dL_law_560 : decode cL_law 560 = .ok (.aload_n 1, 1) := by decide +kernel
theorem dL_law_561 : decode cL_law 561 = .ok (.aload_n 0, 1) := by decide +kernel
theorem dL_law_562 : decode cL_law 562 = .ok (.iload_n 3, 1) := by decide +kernel
theorem dL_law_563 : decode cL_law 563 = .ok (.iconst 1, 1) := by decide +kernel
theorem dL_law_564 : decode cL_law 564 = .ok (.iadd, 1) := by decide +kernel
theorem dL_law_565 : decode cL_law 565 = .ok (.iaload, 1) := by decide +kernel
theorem dL_law_566 : decode cL_law 566 = .ok (.aload_n 0, 1) := by decide +kernel
theorem dL_law_567 : decode cL_law 567 = .ok (.iload_n 3, 1) := by decide +kernel
theorem dL_law_568 : decode cL_law 568 = .ok (.iconst 2, 1) := by decide +kernel
theorem dL_law_569 : decode cL_law 569 = .ok (.iadd, 1) := by decide +kernel
theorem dL_law_570 : decode cL_law 570 = .ok (.iaload, 1) := by decide +kernel
theorem dL_law_571 : decode cL_law 571 = .ok (.invokevirtual 66, 3) := by decide +kernel
theorem dL_law_574 : decode cL_law 574 = .ok (.aload_n 2, 1) := by decide +kernel
theorem dL_law_575 : decode cL_law 575 = .ok (.aload_n 0, 1) := by decide +kernel
theorem dL_law_576 : decode cL_law 576 = .ok (.iload_n 3, 1) := by decide +kernel
theorem dL_law_577 : decode cL_law 577 = .ok (.iconst 1, 1) := by decide +kernel
theorem dL_law_578 : decode cL_law 578 = .ok (.iadd, 1) := by decide +kernel
theorem dL_law_579 : decode cL_law 579 = .ok (.iaload, 1) := by decide +kernel
theorem dL_law_580 : decode cL_law 580 = .ok (.aload_n 0, 1) := by decide +kernel
theorem dL_law_581 : decode cL_law 581 = .ok (.iload_n 3, 1) := by decide +kernel
theorem dL_law_582 : decode cL_law 582 = .ok (.iconst 2, 1) := by decide +kernel
theorem dL_law_583 : decode cL_law 583 = .ok (.iadd, 1) := by decide +kernel
theorem dL_law_584 : decode cL_law 584 = .ok (.iaload, 1) := by decide +kernel
theorem dL_law_585 : decode cL_law 585 = .ok (.invokevirtual 69, 3) := by decide +kernel
theorem dL_law_588 : decode cL_law 588 = .ok (.if_icmp .eq 42, 3) := by decide +kernel
theorem dL_law_591 : decode cL_law 591 = .ok (.iconst 0, 1) := by decide +kernel
theorem dL_law_592 : decode cL_law 592 = .ok (.ireturn, 1) := by decide +kernel
theorem dL_law_593 : decode cL_law 593 = .ok (.aload_n 1, 1) := by decide +kernel
theorem dL_law_594 : decode cL_law 594 = .ok (.aload_n 0, 1) := by decide +kernel
theorem dL_law_595 : decode cL_law 595 = .ok (.iload_n 3, 1) := by decide +kernel
theorem dL_law_596 : decode cL_law 596 = .ok (.iconst 1, 1) := by decide +kernel
theorem dL_law_597 : decode cL_law 597 = .ok (.iadd, 1) := by decide +kernel
theorem dL_law_598 : decode cL_law 598 = .ok (.iaload, 1) := by decide +kernel
theorem dL_law_599 : decode cL_law 599 = .ok (.invokevirtual 70, 3) := by decide +kernel
theorem dL_law_602 : decode cL_law 602 = .ok (.aload_n 2, 1) := by decide +kernel
theorem dL_law_603 : decode cL_law 603 = .ok (.aload_n 0, 1) := by decide +kernel
theorem dL_law_604 : decode cL_law 604 = .ok (.iload_n 3, 1) := by decide +kernel
theorem dL_law_605 : decode cL_law 605 = .ok (.iconst 1, 1) := by decide +kernel
theorem dL_law_606 : decode cL_law 606 = .ok (.iadd, 1) := by decide +kernel
theorem dL_law_607 : decode cL_law 607 = .ok (.iaload, 1) := by decide +kernel
theorem dL_law_608 : decode cL_law 608 = .ok (.invokevirtual 73, 3) := by decide +kernel
theorem dL_law_611 : decode cL_law 611 = .ok (.if_icmp .eq 19, 3) := by decide +kernel
theorem dL_law_614 : decode cL_law 614 = .ok (.iconst 0, 1) := by decide +kernel
theorem dL_law_615 : decode cL_law 615 = .ok (.ireturn, 1) := by decide +kernel
theorem dL_law_616 : decode cL_law 616 = .ok (.aload_n 1, 1) := by decide +kernel
theorem dL_law_617 : decode cL_law 617 = .ok (.invokevirtual 74, 3) := by decide +kernel
theorem dL_law_620 : decode cL_law 620 = .ok (.aload_n 2, 1) := by decide +kernel
theorem dL_law_621 : decode cL_law 621 = .ok (.invokevirtual 78, 3) := by decide +kernel
theorem dL_law_624 : decode cL_law 624 = .ok (.lcmp, 1) := by decide +kernel
theorem dL_law_625 : decode cL_law 625 = .ok (.ifCond .eq 5, 3) := by decide +kernel
theorem dL_law_628 : decode cL_law 628 = .ok (.iconst 0, 1) := by decide +kernel
theorem dL_law_629 : decode cL_law 629 = .ok (.ireturn, 1) := by decide +kernel
theorem dL_law_630 : decode cL_law 630 = .ok (.iinc 3 9, 3) := by decide +kernel
theorem dL_law_633 : decode cL_law 633 = .ok (.goto (-615), 3) := by decide +kernel
theorem dL_law_636 : decode cL_law 636 = .ok (.iconst 1, 1) := by decide +kernel
theorem dL_law_637 : decode cL_law 637 = .ok (.ireturn, 1) := by decide +kernel
abbrev vwCl : List vw_C := [(RX0, TX0, 5), (RX1, TX1, 11), (RX2, TX2, 6), (RX3, TX3, 3), (RX4, TX4, 14), (RX5, TX5, 32)]

