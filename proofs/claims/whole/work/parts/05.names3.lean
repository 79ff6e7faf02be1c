theorem dX4_endOn_20 : decode cX4_endOn 20 = .ok (.invokevirtual 206, 3) := by decide +kernel
theorem dX4_endOn_23 : decode cX4_endOn 23 = .ok (.iadd, 1) := by decide +kernel
theorem dX4_endOn_24 : decode cX4_endOn 24 = .ok (.if_icmp .ge 4, 3) := by decide +kernel
theorem dX4_endOn_27 : decode cX4_endOn 27 = .ok (.return_, 1) := by decide +kernel
theorem dX4_endOn_28 : decode cX4_endOn 28 = .ok (.aload_n 0, 1) := by decide +kernel
theorem dX4_endOn_29 : decode cX4_endOn 29 = .ok (.getfield 28, 3) := by decide +kernel
theorem dX4_endOn_32 : decode cX4_endOn 32 = .ok (.iload_n 1, 1) := by decide +kernel
theorem dX4_endOn_33 : decode cX4_endOn 33 = .ok (.aconst_null, 1) := by decide +kernel
theorem dX4_endOn_34 : decode cX4_endOn 34 = .ok (.aastore, 1) := by decide +kernel
theorem dX4_endOn_35 : decode cX4_endOn 35 = .ok (.aload_n 2, 1) := by decide +kernel
theorem dX4_endOn_36 : decode cX4_endOn 36 = .ok (.aload_n 0, 1) := by decide +kernel
theorem dX4_endOn_37 : decode cX4_endOn 37 = .ok (.getfield 56, 3) := by decide +kernel
theorem dX4_endOn_40 : decode cX4_endOn 40 = .ok (.invokevirtual 209, 3) := by decide +kernel
theorem dX4_endOn_43 : decode cX4_endOn 43 = .ok (.return_, 1) := by decide +kernel
set_option maxRecDepth 20000 in
theorem ggX4_beginOn_X4_nextToBegin : GoodIn wsX4_beginOn wsX4_nextToBegin := goodIn_r _ [11, 12, 13, 14, 15, 16, 17, 10, 18, 6, 2, 3, 4, 19, 20, 21, 22, 23, 24, 25, 26, 27, 28, 29, 30, 31, 32, 33, 34, 35, 36, 37, 38, 39, 87, 88, 89, 90, 91, 92, 93, 94, 95, 96, 97, 98, 99, 100, 101, 102, 103, 104, 105, 106, 107, 108, 109, 110, 111, 112, 113, 114, 115, 116] (by decide +kernel) (by decide +kernel)
set_option maxRecDepth 20000 in
theorem gX4_beginOn_X4_nextToBegin : GoodIn wsX4_beginOn (wsV RX4 212 RX4 yX4_nextToBegin wsX4_nextToBegin) := goodIn_app (goodIn_of _ (by decide +kernel)) ggX4_beginOn_X4_nextToBegin
set_option maxRecDepth 20000 in
theorem ggX4_beginOn_X1_litresNeeded : GoodIn wsX4_beginOn wsX1_litresNeeded := goodIn_r _ [34, 35, 101, 102, 103, 104, 105, 106, 107, 108, 109, 110, 111] (by decide +kernel) (by decide +kernel)
set_option maxRecDepth 20000 in
theorem gX4_beginOn_X1_litresNeeded : GoodIn wsX4_beginOn (wsV RX4 220 RX1 yX1_litresNeeded wsX1_litresNeeded) := goodIn_app (goodIn_of _ (by decide +kernel)) ggX4_beginOn_X1_litresNeeded
set_option maxRecDepth 20000 in
theorem ggX4_beginOn_X1_drainNeeded : GoodIn wsX4_beginOn wsX1_drainNeeded := goodIn_r _ [39, 35, 101, 102, 103, 104, 105, 106, 107, 108, 109, 110, 111] (by decide +kernel) (by decide +kernel)
set_option maxRecDepth 20000 in
theorem gX4_beginOn_X1_drainNeeded : GoodIn wsX4_beginOn (wsV RX4 223 RX1 yX1_drainNeeded wsX1_drainNeeded) := goodIn_app (goodIn_of _ (by decide +kernel)) ggX4_beginOn_X1_drainNeeded
set_option maxRecDepth 20000 in
theorem ggX4_beginOn_X4_holdIn : GoodIn wsX4_beginOn wsX4_holdIn := goodIn_r _ [43, 44, 45, 46, 47, 48, 49, 50, 51, 52, 53, 54, 55, 56, 57, 58, 59, 60, 61, 62, 63, 64, 65, 66, 67, 68, 69, 70, 71, 72, 73, 74, 75, 76, 77, 78, 79, 80, 87, 88, 89, 90, 91, 92, 93, 94, 95, 96, 97, 98, 99, 100, 117, 118, 119, 112, 113, 114, 115, 116] (by decide +kernel) (by decide +kernel)
set_option maxRecDepth 20000 in
theorem gX4_beginOn_X4_holdIn : GoodIn wsX4_beginOn (wsV RX4 103 RX4 yX4_holdIn wsX4_holdIn) := goodIn_app (goodIn_of _ (by decide +kernel)) ggX4_beginOn_X4_holdIn
set_option maxRecDepth 20000 in
theorem ggX4_beginOn_X1_begin : GoodIn wsX4_beginOn wsX1_begin := goodIn_r _ [84, 25, 85, 86, 101, 102, 103, 104, 105, 106, 107, 108, 109, 110, 111] (by decide +kernel) (by decide +kernel)
set_option maxRecDepth 20000 in
theorem gX4_beginOn_X1_begin : GoodIn wsX4_beginOn (wsV RX4 226 RX1 yX1_begin wsX1_begin) := goodIn_app (goodIn_of _ (by decide +kernel)) ggX4_beginOn_X1_begin
theorem dX4_beginOn_0 : decode cX4_beginOn 0 = .ok (.aload_n 0, 1) := by decide +kernel
theorem dX4_beginOn_1 : decode cX4_beginOn 1 = .ok (.getfield 28, 3) := by decide +kernel
theorem dX4_beginOn_4 : decode cX4_beginOn 4 = .ok (.iload_n 1, 1) := by decide +kernel
theorem dX4_beginOn_5 : decode cX4_beginOn 5 = .ok (.aaload, 1) := by decide +kernel
theorem dX4_beginOn_6 : decode cX4_beginOn 6 = .ok (.ifnull 4, 3) := by decide +kernel
theorem dX4_beginOn_9 : decode cX4_beginOn 9 = .ok (.return_, 1) := by decide +kernel
theorem dX4_beginOn_10 : decode cX4_beginOn 10 = .ok (.aload_n 0, 1) := by decide +kernel
theorem dX4_beginOn_11 : decode cX4_beginOn 11 = .ok (.invokevirtual 212, 3) := by decide +kernel
theorem dX4_beginOn_14 : decode cX4_beginOn 14 = .ok (.astore_n 2, 1) := by decide +kernel
theorem dX4_beginOn_15 : decode cX4_beginOn 15 = .ok (.aload_n 2, 1) := by decide +kernel
theorem dX4_beginOn_16 : decode cX4_beginOn 16 = .ok (.ifnonnull 4, 3) := by decide +kernel
theorem dX4_beginOn_19 : decode cX4_beginOn 19 = .ok (.return_, 1) := by decide +kernel
theorem dX4_beginOn_20 : decode cX4_beginOn 20 = .ok (.aload_n 2, 1) := by decide +kernel
theorem dX4_beginOn_21 : decode cX4_beginOn 21 = .ok (.getfield 216, 3) := by decide +kernel
theorem dX4_beginOn_24 : decode cX4_beginOn 24 = .ok (.dup, 1) := by decide +kernel
theorem dX4_beginOn_25 : decode cX4_beginOn 25 = .ok (.getfield 107, 3) := by decide +kernel
theorem dX4_beginOn_28 : decode cX4_beginOn 28 = .ok (.aload_n 2, 1) := by decide +kernel
theorem dX4_beginOn_29 : decode cX4_beginOn 29 = .ok (.invokevirtual 220, 3) := by decide +kernel
theorem dX4_beginOn_32 : decode cX4_beginOn 32 = .ok (.isub, 1) := by decide +kernel
theorem dX4_beginOn_33 : decode cX4_beginOn 33 = .ok (.putfield 107, 3) := by decide +kernel
theorem dX4_beginOn_36 : decode cX4_beginOn 36 = .ok (.aload_n 0, 1) := by decide +kernel
theorem dX4_beginOn_37 : decode cX4_beginOn 37 = .ok (.dup, 1) := by decide +kernel
theorem dX4_beginOn_38 : decode cX4_beginOn 38 = .ok (.getfield 179, 3) := by decide +kernel
theorem dX4_beginOn_41 : decode cX4_beginOn 41 = .ok (.aload_n 2, 1) := by decide +kernel
theorem dX4_beginOn_42 : decode cX4_beginOn 42 = .ok (.invokevirtual 223, 3) := by decide +kernel
theorem dX4_beginOn_45 : decode cX4_beginOn 45 = .ok (.iadd, 1) := by decide +kernel
theorem dX4_beginOn_46 : decode cX4_beginOn 46 = .ok (.putfield 179, 3) := by decide +kernel
theorem dX4_beginOn_49 : decode cX4_beginOn 49 = .ok (.aload_n 0, 1) := by decide +kernel
theorem dX4_beginOn_50 : decode cX4_beginOn 50 = .ok (.dup, 1) := by decide +kernel
theorem dX4_beginOn_51 : decode cX4_beginOn 51 = .ok (.getfield 182, 3) := by decide +kernel
theorem dX4_beginOn_54 : decode cX4_beginOn 54 = .ok (.iconst 1, 1) := by decide +kernel
theorem dX4_beginOn_55 : decode cX4_beginOn 55 = .ok (.iadd, 1) := by decide +kernel
theorem dX4_beginOn_56 : decode cX4_beginOn 56 = .ok (.putfield 182, 3) := by decide +kernel
theorem dX4_beginOn_59 : decode cX4_beginOn 59 = .ok (.aload_n 0, 1) := by decide +kernel
theorem dX4_beginOn_60 : decode cX4_beginOn 60 = .ok (.getfield 28, 3) := by decide +kernel
theorem dX4_beginOn_63 : decode cX4_beginOn 63 = .ok (.iload_n 1, 1) := by decide +kernel
theorem dX4_beginOn_64 : decode cX4_beginOn 64 = .ok (.aload_n 2, 1) := by decide +kernel
theorem dX4_beginOn_65 : decode cX4_beginOn 65 = .ok (.aastore, 1) := by decide +kernel
theorem dX4_beginOn_66 : decode cX4_beginOn 66 = .ok (.aload_n 2, 1) := by decide +kernel
theorem dX4_beginOn_67 : decode cX4_beginOn 67 = .ok (.iload_n 1, 1) := by decide +kernel
theorem dX4_beginOn_68 : decode cX4_beginOn 68 = .ok (.aload_n 0, 1) := by decide +kernel
theorem dX4_beginOn_69 : decode cX4_beginOn 69 = .ok (.getfield 56, 3) := by decide +kernel
theorem dX4_beginOn_72 : decode cX4_beginOn 72 = .ok (.aload_n 0, 1) := by decide +kernel
theorem dX4_beginOn_73 : decode cX4_beginOn 73 = .ok (.aload_n 2, 1) := by decide +kernel
theorem dX4_beginOn_74 : decode cX4_beginOn 74 = .ok (.getfield 216, 3) := by decide +kernel
theorem dX4_beginOn_77 : decode cX4_beginOn 77 = .ok (.aload_n 0, 1) := by decide +kernel
theorem dX4_beginOn_78 : decode cX4_beginOn 78 = .ok (.getfield 56, 3) := by decide +kernel
theorem dX4_beginOn_81 : decode cX4_beginOn 81 = .ok (.invokevirtual 103, 3) := by decide +kernel
theorem dX4_beginOn_84 : decode cX4_beginOn 84 = .ok (.invokevirtual 226, 3) := by decide +kernel
theorem dX4_beginOn_87 : decode cX4_beginOn 87 = .ok (.return_, 1) := by decide +kernel
set_option maxRecDepth 20000 in
theorem ggX4_nextToBegin_X4_mayBegin : GoodIn wsX4_nextToBegin wsX4_mayBegin := goodIn_r _ [8, 3, 9, 10, 11, 12, 13, 14, 15, 16, 17, 18, 19, 20, 21, 22, 23, 24, 25, 26, 27, 28, 29, 30, 31, 32, 33, 48, 49, 50, 51, 52, 53, 54, 55, 56, 57, 58, 34, 35, 36, 37, 38, 39, 40, 41, 42, 43, 44, 45, 46, 47, 59, 60, 61, 62, 63] (by decide +kernel) (by decide +kernel)
set_option maxRecDepth 20000 in
theorem gX4_nextToBegin_X4_mayBegin : GoodIn wsX4_nextToBegin (wsV RX4 229 RX4 yX4_mayBegin wsX4_mayBegin) := goodIn_app (goodIn_of _ (by decide +kernel)) ggX4_nextToBegin_X4_mayBegin
theorem dX4_nextToBegin_0 : decode cX4_nextToBegin 0 = .ok (.aconst_null, 1) := by decide +kernel
theorem dX4_nextToBegin_1 : decode cX4_nextToBegin 1 = .ok (.astore_n 1, 1) := by decide +kernel
theorem dX4_nextToBegin_2 : decode cX4_nextToBegin 2 = .ok (.iconst 0, 1) := by decide +kernel
theorem dX4_nextToBegin_3 : decode cX4_nextToBegin 3 = .ok (.istore_n 2, 1) := by decide +kernel
theorem dX4_nextToBegin_4 : decode cX4_nextToBegin 4 = .ok (.iload_n 2, 1) := by decide +kernel
theorem dX4_nextToBegin_5 : decode cX4_nextToBegin 5 = .ok (.aload_n 0, 1) := by decide +kernel
theorem dX4_nextToBegin_6 : decode cX4_nextToBegin 6 = .ok (.getfield 119, 3) := by decide +kernel
theorem dX4_nextToBegin_9 : decode cX4_nextToBegin 9 = .ok (.if_icmp .ge 48, 3) := by decide +kernel
theorem dX4_nextToBegin_12 : decode cX4_nextToBegin 12 = .ok (.aload_n 0, 1) := by decide +kernel
theorem dX4_nextToBegin_13 : decode cX4_nextToBegin 13 = .ok (.getfield 24, 3) := by decide +kernel
theorem dX4_nextToBegin_16 : decode cX4_nextToBegin 16 = .ok (.iload_n 2, 1) := by decide +kernel
theorem dX4_nextToBegin_17 : decode cX4_nextToBegin 17 = .ok (.aaload, 1) := by decide +kernel
theorem dX4_nextToBegin_18 : decode cX4_nextToBegin 18 = .ok (.astore_n 3, 1) := by decide +kernel
theorem dX4_nextToBegin_19 : decode cX4_nextToBegin 19 = .ok (.aload_n 3, 1) := by decide +kernel
theorem dX4_nextToBegin_20 : decode cX4_nextToBegin 20 = .ok (.ifnull 31, 3) := by decide +kernel
theorem dX4_nextToBegin_23 : decode cX4_nextToBegin 23 = .ok (.aload_n 0, 1) := by decide +kernel
theorem dX4_nextToBegin_24 : decode cX4_nextToBegin 24 = .ok (.aload_n 3, 1) := by decide +kernel
theorem dX4_nextToBegin_25 : decode cX4_nextToBegin 25 = .ok (.invokevirtual 229, 3) := by decide +kernel
theorem dX4_nextToBegin_28 : decode cX4_nextToBegin 28 = .ok (.ifCond .ne 6, 3) := by decide +kernel
theorem dX4_nextToBegin_31 : decode cX4_nextToBegin 31 = .ok (.goto 20, 3) := by decide +kernel
theorem dX4_nextToBegin_34 : decode cX4_nextToBegin 34 = .ok (.aload_n 1, 1) := by decide +kernel
theorem dX4_nextToBegin_35 : decode cX4_nextToBegin 35 = .ok (.ifnull 14, 3) := by decide +kernel
theorem dX4_nextToBegin_38 : decode cX4_nextToBegin 38 = .ok (.aload_n 3, 1) := by decide +kernel
theorem dX4_nextToBegin_39 : decode cX4_nextToBegin 39 = .ok (.getfield 141, 3) := by decide +kernel
theorem dX4_nextToBegin_42 : decode cX4_nextToBegin 42 = .ok (.aload_n 1, 1) := by decide +kernel
theorem dX4_nextToBegin_43 : decode cX4_nextToBegin 43 = .ok (.getfield 141, 3) := by decide +kernel
theorem dX4_nextToBegin_46 : decode cX4_nextToBegin 46 = .ok (.if_icmp .ge 5, 3) := by decide +kernel
theorem dX4_nextToBegin_49 : decode cX4_nextToBegin 49 = .ok (.aload_n 3, 1) := by decide +kernel
theorem dX4_nextToBegin_50 : decode cX4_nextToBegin 50 = .ok (.astore_n 1, 1) := by decide +kernel
theorem dX4_nextToBegin_51 : decode cX4_nextToBegin 51 = .ok (.iinc 2 1, 3) := by decide +kernel
theorem dX4_nextToBegin_54 : decode cX4_nextToBegin 54 = .ok (.goto (-50), 3) := by decide +kernel
theorem dX4_nextToBegin_57 : decode cX4_nextToBegin 57 = .ok (.aload_n 1, 1) := by decide +kernel
theorem dX4_nextToBegin_58 : decode cX4_nextToBegin 58 = .ok (.areturn, 1) := by decide +kernel
set_option maxRecDepth 20000 in
theorem ggX4_mayBegin_X1_state : GoodIn wsX4_mayBegin wsX1_state := goodIn_r _ [11, 12, 13, 14, 15, 10, 16, 17, 27, 28, 29, 30, 31, 32, 33, 34, 35, 36, 37] (by decide +kernel) (by decide +kernel)
set_option maxRecDepth 20000 in
theorem gX4_mayBegin_X1_state : GoodIn wsX4_mayBegin (wsV RX4 132 RX1 yX1_state wsX1_state) := goodIn_app (goodIn_of _ (by decide +kernel)) ggX4_mayBegin_X1_state
set_option maxRecDepth 20000 in
theorem ggX4_mayBegin_X1_litresNeeded : GoodIn wsX4_mayBegin wsX1_litresNeeded := goodIn_r _ [21, 22, 27, 28, 29, 30, 31, 32, 33, 34, 35, 36, 37] (by decide +kernel) (by decide +kernel)
set_option maxRecDepth 20000 in
theorem gX4_mayBegin_X1_litresNeeded : GoodIn wsX4_mayBegin (wsV RX4 220 RX1 yX1_litresNeeded wsX1_litresNeeded) := goodIn_app (goodIn_of _ (by decide +kernel)) ggX4_mayBegin_X1_litresNeeded
set_option maxRecDepth 20000 in
theorem ggX4_mayBegin_X1_drainNeeded : GoodIn wsX4_mayBegin wsX1_drainNeeded := goodIn_r _ [26, 22, 27, 28, 29, 30, 31, 32, 33, 34, 35, 36, 37] (by decide +kernel) (by decide +kernel)
set_option maxRecDepth 20000 in
theorem gX4_mayBegin_X1_drainNeeded : GoodIn wsX4_mayBegin (wsV RX4 223 RX1 yX1_drainNeeded wsX1_drainNeeded) := goodIn_app (goodIn_of _ (by decide +kernel)) ggX4_mayBegin_X1_drainNeeded
theorem dX4_mayBegin_0 : decode cX4_mayBegin 0 = .ok (.aload_n 1, 1) := by decide +kernel
theorem dX4_mayBegin_1 : decode cX4_mayBegin 1 = .ok (.invokevirtual 132, 3) := by decide +kernel
theorem dX4_mayBegin_4 : decode cX4_mayBegin 4 = .ok (.ifCond .ne 48, 3) := by decide +kernel
theorem dX4_mayBegin_7 : decode cX4_mayBegin 7 = .ok (.aload_n 1, 1) := by decide +kernel
theorem dX4_mayBegin_8 : decode cX4_mayBegin 8 = .ok (.getfield 141, 3) := by decide +kernel
theorem dX4_mayBegin_11 : decode cX4_mayBegin 11 = .ok (.aload_n 0, 1) := by decide +kernel
theorem dX4_mayBegin_12 : decode cX4_mayBegin 12 = .ok (.getfield 56, 3) := by decide +kernel
theorem dX4_mayBegin_15 : decode cX4_mayBegin 15 = .ok (.if_icmp .gt 37, 3) := by decide +kernel
theorem dX4_mayBegin_18 : decode cX4_mayBegin 18 = .ok (.aload_n 1, 1) := by decide +kernel
theorem dX4_mayBegin_19 : decode cX4_mayBegin 19 = .ok (.getfield 216, 3) := by decide +kernel
theorem dX4_mayBegin_22 : decode cX4_mayBegin 22 = .ok (.getfield 107, 3) := by decide +kernel
theorem dX4_mayBegin_25 : decode cX4_mayBegin 25 = .ok (.aload_n 1, 1) := by decide +kernel
theorem dX4_mayBegin_26 : decode cX4_mayBegin 26 = .ok (.invokevirtual 220, 3) := by decide +kernel
theorem dX4_mayBegin_29 : decode cX4_mayBegin 29 = .ok (.if_icmp .lt 23, 3) := by decide +kernel
theorem dX4_mayBegin_32 : decode cX4_mayBegin 32 = .ok (.aload_n 0, 1) := by decide +kernel
theorem dX4_mayBegin_33 : decode cX4_mayBegin 33 = .ok (.getfield 179, 3) := by decide +kernel
theorem dX4_mayBegin_36 : decode cX4_mayBegin 36 = .ok (.aload_n 1, 1) := by decide +kernel
theorem dX4_mayBegin_37 : decode cX4_mayBegin 37 = .ok (.invokevirtual 223, 3) := by decide +kernel
theorem dX4_mayBegin_40 : decode cX4_mayBegin 40 = .ok (.iadd, 1) := by decide +kernel
theorem dX4_mayBegin_41 : decode cX4_mayBegin 41 = .ok (.aload_n 0, 1) := by decide +kernel
theorem dX4_mayBegin_42 : decode cX4_mayBegin 42 = .ok (.getfield 42, 3) := by decide +kernel
theorem dX4_mayBegin_45 : decode cX4_mayBegin 45 = .ok (.if_icmp .gt 7, 3) := by decide +kernel
theorem dX4_mayBegin_48 : decode cX4_mayBegin 48 = .ok (.iconst 1, 1) := by decide +kernel
theorem dX4_mayBegin_49 : decode cX4_mayBegin 49 = .ok (.goto 4, 3) := by decide +kernel
theorem dX4_mayBegin_52 : decode cX4_mayBegin 52 = .ok (.iconst 0, 1) := by decide +kernel
theorem dX4_mayBegin_53 : decode cX4_mayBegin 53 = .ok (.ireturn, 1) := by decide +kernel
set_option maxRecDepth 20000 in
theorem ggX4_jetsIn_X1_state : GoodIn wsX4_jetsIn wsX1_state := goodIn_r _ [7, 8, 9, 10, 11, 6, 12, 13, 28, 29, 30, 31, 32, 33, 34, 35, 36, 37, 38] (by decide +kernel) (by decide +kernel)
set_option maxRecDepth 20000 in
theorem gX4_jetsIn_X1_state : GoodIn wsX4_jetsIn (wsV RX4 132 RX1 yX1_state wsX1_state) := goodIn_app (goodIn_of _ (by decide +kernel)) ggX4_jetsIn_X1_state
theorem dX4_jetsIn_0 : decode cX4_jetsIn 0 = .ok (.iconst 0, 1) := by decide +kernel
theorem dX4_jetsIn_1 : decode cX4_jetsIn 1 = .ok (.istore_n 2, 1) := by decide +kernel
theorem dX4_jetsIn_2 : decode cX4_jetsIn 2 = .ok (.iconst 0, 1) := by decide +kernel
theorem dX4_jetsIn_3 : decode cX4_jetsIn 3 = .ok (.istore_n 3, 1) := by decide +kernel
theorem dX4_jetsIn_4 : decode cX4_jetsIn 4 = .ok (.iload_n 3, 1) := by decide +kernel
theorem dX4_jetsIn_5 : decode cX4_jetsIn 5 = .ok (.aload_n 0, 1) := by decide +kernel
theorem dX4_jetsIn_6 : decode cX4_jetsIn 6 = .ok (.getfield 119, 3) := by decide +kernel
theorem dX4_jetsIn_9 : decode cX4_jetsIn 9 = .ok (.if_icmp .ge 34, 3) := by decide +kernel
theorem dX4_jetsIn_12 : decode cX4_jetsIn 12 = .ok (.aload_n 0, 1) := by decide +kernel
theorem dX4_jetsIn_13 : decode cX4_jetsIn 13 = .ok (.getfield 24, 3) := by decide +kernel
theorem dX4_jetsIn_16 : decode cX4_jetsIn 16 = .ok (.iload_n 3, 1) := by decide +kernel
theorem dX4_jetsIn_17 : decode cX4_jetsIn 17 = .ok (.aaload, 1) := by decide +kernel
theorem dX4_jetsIn_18 : decode cX4_jetsIn 18 = .ok (.astore 4, 2) := by decide +kernel
theorem dX4_jetsIn_20 : decode cX4_jetsIn 20 = .ok (.aload 4, 2) := by decide +kernel
theorem dX4_jetsIn_22 : decode cX4_jetsIn 22 = .ok (.ifnull 15, 3) := by decide +kernel
theorem dX4_jetsIn_25 : decode cX4_jetsIn 25 = .ok (.aload 4, 2) := by decide +kernel
theorem dX4_jetsIn_27 : decode cX4_jetsIn 27 = .ok (.invokevirtual 132, 3) := by decide +kernel
theorem dX4_jetsIn_30 : decode cX4_jetsIn 30 = .ok (.iload_n 1, 1) := by decide +kernel
theorem dX4_jetsIn_31 : decode cX4_jetsIn 31 = .ok (.if_icmp .ne 6, 3) := by decide +kernel
theorem dX4_jetsIn_34 : decode cX4_jetsIn 34 = .ok (.iinc 2 1, 3) := by decide +kernel
theorem dX4_jetsIn_37 : decode cX4_jetsIn 37 = .ok (.iinc 3 1, 3) := by decide +kernel
theorem dX4_jetsIn_40 : decode cX4_jetsIn 40 = .ok (.goto (-36), 3) := by decide +kernel
theorem dX4_jetsIn_43 : decode cX4_jetsIn 43 = .ok (.iload_n 2, 1) := by decide +kernel
theorem dX4_jetsIn_44 : decode cX4_jetsIn 44 = .ok (.ireturn, 1) := by decide +kernel
theorem dX4_allTurnsBack_0 : decode cX4_allTurnsBack 0 = .ok (.iconst 0, 1) := by decide +kernel
theorem dX4_allTurnsBack_1 : decode cX4_allTurnsBack 1 = .ok (.istore_n 1, 1) := by decide +kernel
theorem dX4_allTurnsBack_2 : decode cX4_allTurnsBack 2 = .ok (.iconst 0, 1) := by decide +kernel
theorem dX4_allTurnsBack_3 : decode cX4_allTurnsBack 3 = .ok (.istore_n 2, 1) := by decide +kernel
theorem dX4_allTurnsBack_4 : decode cX4_allTurnsBack 4 = .ok (.iload_n 2, 1) := by decide +kernel
theorem dX4_allTurnsBack_5 : decode cX4_allTurnsBack 5 = .ok (.aload_n 0, 1) := by decide +kernel
theorem dX4_allTurnsBack_6 : decode cX4_allTurnsBack 6 = .ok (.getfield 119, 3) := by decide +kernel
theorem dX4_allTurnsBack_9 : decode cX4_allTurnsBack 9 = .ok (.if_icmp .ge 27, 3) := by decide +kernel
theorem dX4_allTurnsBack_12 : decode cX4_allTurnsBack 12 = .ok (.aload_n 0, 1) := by decide +kernel
theorem dX4_allTurnsBack_13 : decode cX4_allTurnsBack 13 = .ok (.getfield 24, 3) := by decide +kernel
theorem dX4_allTurnsBack_16 : decode cX4_allTurnsBack 16 = .ok (.iload_n 2, 1) := by decide +kernel
theorem dX4_allTurnsBack_17 : decode cX4_allTurnsBack 17 = .ok (.aaload, 1) := by decide +kernel
theorem dX4_allTurnsBack_18 : decode cX4_allTurnsBack 18 = .ok (.astore_n 3, 1) := by decide +kernel
theorem dX4_allTurnsBack_19 : decode cX4_allTurnsBack 19 = .ok (.aload_n 3, 1) := by decide +kernel
theorem dX4_allTurnsBack_20 : decode cX4_allTurnsBack 20 = .ok (.ifnull 10, 3) := by decide +kernel
theorem dX4_allTurnsBack_23 : decode cX4_allTurnsBack 23 = .ok (.iload_n 1, 1) := by decide +kernel
theorem dX4_allTurnsBack_24 : decode cX4_allTurnsBack 24 = .ok (.aload_n 3, 1) := by decide +kernel
theorem dX4_allTurnsBack_25 : decode cX4_allTurnsBack 25 = .ok (.getfield 144, 3) := by decide +kernel
theorem dX4_allTurnsBack_28 : decode cX4_allTurnsBack 28 = .ok (.iadd, 1) := by decide +kernel
theorem dX4_allTurnsBack_29 : decode cX4_allTurnsBack 29 = .ok (.istore_n 1, 1) := by decide +kernel
theorem dX4_allTurnsBack_30 : decode cX4_allTurnsBack 30 = .ok (.iinc 2 1, 3) := by decide +kernel
theorem dX4_allTurnsBack_33 : decode cX4_allTurnsBack 33 = .ok (.goto (-29), 3) := by decide +kernel
theorem dX4_allTurnsBack_36 : decode cX4_allTurnsBack 36 = .ok (.iload_n 1, 1) := by decide +kernel
theorem dX4_allTurnsBack_37 : decode cX4_allTurnsBack 37 = .ok (.ireturn, 1) := by decide +kernel
set_option maxRecDepth 20000 in
theorem ggX4_allLate_X1_isGone : GoodIn wsX4_allLate wsX1_isGone := goodIn_r _ [7, 8, 34, 35, 36, 37, 38, 39, 40, 41, 42, 43, 44] (by decide +kernel) (by decide +kernel)
set_option maxRecDepth 20000 in
theorem gX4_allLate_X1_isGone : GoodIn wsX4_allLate (wsV RX4 150 RX1 yX1_isGone wsX1_isGone) := goodIn_app (goodIn_of _ (by decide +kernel)) ggX4_allLate_X1_isGone
set_option maxRecDepth 20000 in
theorem ggX4_allLate_X1_late : GoodIn wsX4_allLate wsX1_late := goodIn_r _ [12, 8, 13, 14, 15, 16, 17, 6, 18, 19, 34, 35, 36, 37, 38, 39, 40, 41, 42, 43, 44] (by decide +kernel) (by decide +kernel)
set_option maxRecDepth 20000 in
theorem gX4_allLate_X1_late : GoodIn wsX4_allLate (wsV RX4 154 RX1 yX1_late wsX1_late) := goodIn_app (goodIn_of _ (by decide +kernel)) ggX4_allLate_X1_late
theorem dX4_allLate_0 : decode cX4_allLate 0 = .ok (.iconst 0, 1) := by decide +kernel
theorem dX4_allLate_1 : decode cX4_allLate 1 = .ok (.istore_n 1, 1) := by decide +kernel
theorem dX4_allLate_2 : decode cX4_allLate 2 = .ok (.iconst 0, 1) := by decide +kernel
theorem dX4_allLate_3 : decode cX4_allLate 3 = .ok (.istore_n 2, 1) := by decide +kernel
theorem dX4_allLate_4 : decode cX4_allLate 4 = .ok (.iload_n 2, 1) := by decide +kernel
theorem dX4_allLate_5 : decode cX4_allLate 5 = .ok (.aload_n 0, 1) := by decide +kernel
theorem dX4_allLate_6 : decode cX4_allLate 6 = .ok (.getfield 119, 3) := by decide +kernel
theorem dX4_allLate_9 : decode cX4_allLate 9 = .ok (.if_icmp .ge 34, 3) := by decide +kernel
theorem dX4_allLate_12 : decode cX4_allLate 12 = .ok (.aload_n 0, 1) := by decide +kernel
theorem dX4_allLate_13 : decode cX4_allLate 13 = .ok (.getfield 24, 3) := by decide +kernel
theorem dX4_allLate_16 : decode cX4_allLate 16 = .ok (.iload_n 2, 1) := by decide +kernel
theorem dX4_allLate_17 : decode cX4_allLate 17 = .ok (.aaload, 1) := by decide +kernel
theorem dX4_allLate_18 : decode cX4_allLate 18 = .ok (.astore_n 3, 1) := by decide +kernel
theorem dX4_allLate_19 : decode cX4_allLate 19 = .ok (.aload_n 3, 1) := by decide +kernel
theorem dX4_allLate_20 : decode cX4_allLate 20 = .ok (.ifnull 17, 3) := by decide +kernel
theorem dX4_allLate_23 : decode cX4_allLate 23 = .ok (.aload_n 3, 1) := by decide +kernel
theorem dX4_allLate_24 : decode cX4_allLate 24 = .ok (.invokevirtual 150, 3) := by decide +kernel
theorem dX4_allLate_27 : decode cX4_allLate 27 = .ok (.ifCond .eq 10, 3) := by decide +kernel
theorem dX4_allLate_30 : decode cX4_allLate 30 = .ok (.iload_n 1, 1) := by decide +kernel
theorem dX4_allLate_31 : decode cX4_allLate 31 = .ok (.aload_n 3, 1) := by decide +kernel
theorem dX4_allLate_32 : decode cX4_allLate 32 = .ok (.invokevirtual 154, 3) := by decide +kernel
theorem dX4_allLate_35 : decode cX4_allLate 35 = .ok (.iadd, 1) := by decide +kernel
theorem dX4_allLate_36 : decode cX4_allLate 36 = .ok (.istore_n 1, 1) := by decide +kernel
theorem dX4_allLate_37 : decode cX4_allLate 37 = .ok (.iinc 2 1, 3) := by decide +kernel
theorem dX4_allLate_40 : decode cX4_allLate 40 = .ok (.goto (-36), 3) := by decide +kernel
theorem dX4_allLate_43 : decode cX4_allLate 43 = .ok (.iload_n 1, 1) := by decide +kernel
theorem dX4_allLate_44 : decode cX4_allLate 44 = .ok (.ireturn, 1) := by decide +kernel
theorem dX5_init_0 : decode cX5_init 0 = .ok (.aload_n 0, 1) := by decide +kernel
theorem dX5_init_1 : decode cX5_init 1 = .ok (.invokespecial 1, 3) := by decide +kernel
theorem dX5_init_4 : decode cX5_init 4 = .ok (.aload_n 0, 1) := by decide +kernel
theorem dX5_init_5 : decode cX5_init 5 = .ok (.sipush 300, 3) := by decide +kernel
theorem dX5_init_8 : decode cX5_init 8 = .ok (.newarray .boolean, 2) := by decide +kernel
theorem dX5_init_10 : decode cX5_init 10 = .ok (.putfield 7, 3) := by decide +kernel
theorem dX5_init_13 : decode cX5_init 13 = .ok (.aload_n 0, 1) := by decide +kernel
theorem dX5_init_14 : decode cX5_init 14 = .ok (.sipush 300, 3) := by decide +kernel
theorem dX5_init_17 : decode cX5_init 17 = .ok (.newarray .int, 2) := by decide +kernel
theorem dX5_init_19 : decode cX5_init 19 = .ok (.putfield 13, 3) := by decide +kernel
theorem dX5_init_22 : decode cX5_init 22 = .ok (.aload_n 0, 1) := by decide +kernel
theorem dX5_init_23 : decode cX5_init 23 = .ok (.sipush 300, 3) := by decide +kernel
theorem dX5_init_26 : decode cX5_init 26 = .ok (.newarray .int, 2) := by decide +kernel
theorem dX5_init_28 : decode cX5_init 28 = .ok (.putfield 17, 3) := by decide +kernel
theorem dX5_init_31 : decode cX5_init 31 = .ok (.aload_n 0, 1) := by decide +kernel
theorem dX5_init_32 : decode cX5_init 32 = .ok (.iconst 4, 1) := by decide +kernel
theorem dX5_init_33 : decode cX5_init 33 = .ok (.newarray .int, 2) := by decide +kernel
theorem dX5_init_35 : decode cX5_init 35 = .ok (.putfield 20, 3) := by decide +kernel
theorem dX5_init_38 : decode cX5_init 38 = .ok (.aload_n 0, 1) := by decide +kernel
theorem dX5_init_39 : decode cX5_init 39 = .ok (.bipush 16, 2) := by decide +kernel
theorem dX5_init_41 : decode cX5_init 41 = .ok (.newarray .int, 2) := by decide +kernel
theorem dX5_init_43 : decode cX5_init 43 = .ok (.putfield 23, 3) := by decide +kernel
theorem dX5_init_46 : decode cX5_init 46 = .ok (.aload_n 0, 1) := by decide +kernel
theorem dX5_init_47 : decode cX5_init 47 = .ok (.iconst 4, 1) := by decide +kernel
theorem dX5_init_48 : decode cX5_init 48 = .ok (.newarray .int, 2) := by decide +kernel
theorem dX5_init_50 : decode cX5_init 50 = .ok (.putfield 26, 3) := by decide +kernel
theorem dX5_init_53 : decode cX5_init 53 = .ok (.aload_n 0, 1) := by decide +kernel
theorem dX5_init_54 : decode cX5_init 54 = .ok (.iconst 4, 1) := by decide +kernel
theorem dX5_init_55 : decode cX5_init 55 = .ok (.newarray .int, 2) := by decide +kernel
theorem dX5_init_57 : decode cX5_init 57 = .ok (.putfield 29, 3) := by decide +kernel
theorem dX5_init_60 : decode cX5_init 60 = .ok (.aload_n 0, 1) := by decide +kernel
theorem dX5_init_61 : decode cX5_init 61 = .ok (.iconst 4, 1) := by decide +kernel
theorem dX5_init_62 : decode cX5_init 62 = .ok (.newarray .int, 2) := by decide +kernel
theorem dX5_init_64 : decode cX5_init 64 = .ok (.putfield 32, 3) := by decide +kernel
theorem dX5_init_67 : decode cX5_init 67 = .ok (.aload_n 0, 1) := by decide +kernel
theorem dX5_init_68 : decode cX5_init 68 = .ok (.iconst 1, 1) := by decide +kernel
theorem dX5_init_69 : decode cX5_init 69 = .ok (.putfield 35, 3) := by decide +kernel
theorem dX5_init_72 : decode cX5_init 72 = .ok (.aload_n 0, 1) := by decide +kernel
theorem dX5_init_73 : decode cX5_init 73 = .ok (.sipush 200, 3) := by decide +kernel
theorem dX5_init_76 : decode cX5_init 76 = .ok (.putfield 39, 3) := by decide +kernel
theorem dX5_init_79 : decode cX5_init 79 = .ok (.aload_n 0, 1) := by decide +kernel
theorem dX5_init_80 : decode cX5_init 80 = .ok (.iconst 5, 1) := by decide +kernel
theorem dX5_init_81 : decode cX5_init 81 = .ok (.putfield 42, 3) := by decide +kernel
theorem dX5_init_84 : decode cX5_init 84 = .ok (.aload_n 0, 1) := by decide +kernel
theorem dX5_init_85 : decode cX5_init 85 = .ok (.iconst 3, 1) := by decide +kernel
theorem dX5_init_86 : decode cX5_init 86 = .ok (.newarray .int, 2) := by decide +kernel
theorem dX5_init_88 : decode cX5_init 88 = .ok (.putfield 45, 3) := by decide +kernel
theorem dX5_init_91 : decode cX5_init 91 = .ok (.aload_n 0, 1) := by decide +kernel
theorem dX5_init_92 : decode cX5_init 92 = .ok (.bipush 12, 2) := by decide +kernel
theorem dX5_init_94 : decode cX5_init 94 = .ok (.newarray .int, 2) := by decide +kernel
theorem dX5_init_96 : decode cX5_init 96 = .ok (.putfield 48, 3) := by decide +kernel
theorem dX5_init_99 : decode cX5_init 99 = .ok (.aload_n 0, 1) := by decide +kernel
theorem dX5_init_100 : decode cX5_init 100 = .ok (.bipush 12, 2) := by decide +kernel
theorem dX5_init_102 : decode cX5_init 102 = .ok (.newarray .int, 2) := by decide +kernel
theorem dX5_init_104 : decode cX5_init 104 = .ok (.putfield 51, 3) := by decide +kernel
theorem dX5_init_107 : decode cX5_init 107 = .ok (.aload_n 0, 1) := by decide +kernel
theorem dX5_init_108 : decode cX5_init 108 = .ok (.bipush 12, 2) := by decide +kernel
theorem dX5_init_110 : decode cX5_init 110 = .ok (.newarray .int, 2) := by decide +kernel
theorem dX5_init_112 : decode cX5_init 112 = .ok (.putfield 54, 3) := by decide +kernel
theorem dX5_init_115 : decode cX5_init 115 = .ok (.aload_n 0, 1) := by decide +kernel
theorem dX5_init_116 : decode cX5_init 116 = .ok (.bipush 12, 2) := by decide +kernel
theorem dX5_init_118 : decode cX5_init 118 = .ok (.newarray .int, 2) := by decide +kernel
theorem dX5_init_120 : decode cX5_init 120 = .ok (.putfield 57, 3) := by decide +kernel
theorem dX5_init_123 : decode cX5_init 123 = .ok (.aload_n 0, 1) := by decide +kernel
theorem dX5_init_124 : decode cX5_init 124 = .ok (.bipush 12, 2) := by decide +kernel
theorem dX5_init_126 : decode cX5_init 126 = .ok (.newarray .int, 2) := by decide +kernel
theorem dX5_init_128 : decode cX5_init 128 = .ok (.putfield 60, 3) := by decide +kernel
theorem dX5_init_131 : decode cX5_init 131 = .ok (.aload_n 0, 1) := by decide +kernel
theorem dX5_init_132 : decode cX5_init 132 = .ok (.bipush 12, 2) := by decide +kernel
theorem dX5_init_134 : decode cX5_init 134 = .ok (.newarray .int, 2) := by decide +kernel
theorem dX5_init_136 : decode cX5_init 136 = .ok (.putfield 63, 3) := by decide +kernel
theorem dX5_init_139 : decode cX5_init 139 = .ok (.aload_n 0, 1) := by decide +kernel
theorem dX5_init_140 : decode cX5_init 140 = .ok (.bipush 12, 2) := by decide +kernel
theorem dX5_init_142 : decode cX5_init 142 = .ok (.newarray .int, 2) := by decide +kernel
theorem dX5_init_144 : decode cX5_init 144 = .ok (.putfield 66, 3) := by decide +kernel
theorem dX5_init_147 : decode cX5_init 147 = .ok (.aload_n 0, 1) := by decide +kernel
theorem dX5_init_148 : decode cX5_init 148 = .ok (.bipush 12, 2) := by decide +kernel
theorem dX5_init_150 : decode cX5_init 150 = .ok (.newarray .int, 2) := by decide +kernel
theorem dX5_init_152 : decode cX5_init 152 = .ok (.putfield 69, 3) := by decide +kernel
theorem dX5_init_155 : decode cX5_init 155 = .ok (.aload_n 0, 1) := by decide +kernel
theorem dX5_init_156 : decode cX5_init 156 = .ok (.bipush 12, 2) := by decide +kernel
theorem dX5_init_158 : decode cX5_init 158 = .ok (.newarray .int, 2) := by decide +kernel
theorem dX5_init_160 : decode cX5_init 160 = .ok (.putfield 72, 3) := by decide +kernel
theorem dX5_init_163 : decode cX5_init 163 = .ok (.aload_n 0, 1) := by decide +kernel
theorem dX5_init_164 : decode cX5_init 164 = .ok (.bipush 12, 2) := by decide +kernel
theorem dX5_init_166 : decode cX5_init 166 = .ok (.newarray .int, 2) := by decide +kernel
theorem dX5_init_168 : decode cX5_init 168 = .ok (.putfield 75, 3) := by decide +kernel
theorem dX5_init_171 : decode cX5_init 171 = .ok (.aload_n 0, 1) := by decide +kernel
theorem dX5_init_172 : decode cX5_init 172 = .ok (.iconst 5, 1) := by decide +kernel
theorem dX5_init_173 : decode cX5_init 173 = .ok (.newarray .int, 2) := by decide +kernel
theorem dX5_init_175 : decode cX5_init 175 = .ok (.putfield 78, 3) := by decide +kernel
theorem dX5_init_178 : decode cX5_init 178 = .ok (.aload_n 0, 1) := by decide +kernel
theorem dX5_init_179 : decode cX5_init 179 = .ok (.iconst 5, 1) := by decide +kernel
theorem dX5_init_180 : decode cX5_init 180 = .ok (.newarray .int, 2) := by decide +kernel
theorem dX5_init_182 : decode cX5_init 182 = .ok (.putfield 81, 3) := by decide +kernel
theorem dX5_init_185 : decode cX5_init 185 = .ok (.aload_n 0, 1) := by decide +kernel
theorem dX5_init_186 : decode cX5_init 186 = .ok (.iconst 5, 1) := by decide +kernel
theorem dX5_init_187 : decode cX5_init 187 = .ok (.newarray .int, 2) := by decide +kernel
theorem dX5_init_189 : decode cX5_init 189 = .ok (.putfield 84, 3) := by decide +kernel
theorem dX5_init_192 : decode cX5_init 192 = .ok (.aload_n 0, 1) := by decide +kernel
theorem dX5_init_193 : decode cX5_init 193 = .ok (.iconst 0, 1) := by decide +kernel
theorem dX5_init_194 : decode cX5_init 194 = .ok (.putfield 87, 3) := by decide +kernel
theorem dX5_init_197 : decode cX5_init 197 = .ok (.return_, 1) := by decide +kernel
theorem dX5_in_0 : decode cX5_in 0 = .ok (.iload_n 0, 1) := by decide +kernel
theorem dX5_in_1 : decode cX5_in 1 = .ok (.iload_n 1, 1) := by decide +kernel
theorem dX5_in_2 : decode cX5_in 2 = .ok (.if_icmp .lt 12, 3) := by decide +kernel
theorem dX5_in_5 : decode cX5_in 5 = .ok (.iload_n 0, 1) := by decide +kernel
theorem dX5_in_6 : decode cX5_in 6 = .ok (.iload_n 2, 1) := by decide +kernel
theorem dX5_in_7 : decode cX5_in 7 = .ok (.if_icmp .gt 7, 3) := by decide +kernel
theorem dX5_in_10 : decode cX5_in 10 = .ok (.iconst 1, 1) := by decide +kernel
theorem dX5_in_11 : decode cX5_in 11 = .ok (.goto 4, 3) := by decide +kernel
theorem dX5_in_14 : decode cX5_in 14 = .ok (.iconst 0, 1) := by decide +kernel
theorem dX5_in_15 : decode cX5_in 15 = .ok (.ireturn, 1) := by decide +kernel
set_option maxRecDepth 20000 in
theorem ggX5_weather_X5_in : GoodIn wsX5_weather wsX5_in := goodIn_r _ [8] (by decide +kernel) (by decide +kernel)
set_option maxRecDepth 20000 in
theorem gX5_weather_X5_in : GoodIn wsX5_weather (va_wsS RX5 90 yX5_in wsX5_in) := goodIn_app (goodIn_of _ (by decide +kernel)) ggX5_weather_X5_in
theorem dX5_weather_0 : decode cX5_weather 0 = .ok (.iload_n 1, 1) := by decide +kernel
theorem dX5_weather_1 : decode cX5_weather 1 = .ok (.iconst 0, 1) := by decide +kernel
theorem dX5_weather_2 : decode cX5_weather 2 = .ok (.sipush 299, 3) := by decide +kernel
theorem dX5_weather_5 : decode cX5_weather 5 = .ok (.invokestatic 90, 3) := by decide +kernel
theorem dX5_weather_8 : decode cX5_weather 8 = .ok (.ifCond .eq 22, 3) := by decide +kernel
theorem dX5_weather_11 : decode cX5_weather 11 = .ok (.iload_n 2, 1) := by decide +kernel
theorem dX5_weather_12 : decode cX5_weather 12 = .ok (.bipush (-30), 2) := by decide +kernel
theorem dX5_weather_14 : decode cX5_weather 14 = .ok (.iconst 5, 1) := by decide +kernel
theorem dX5_weather_15 : decode cX5_weather 15 = .ok (.invokestatic 90, 3) := by decide +kernel
theorem dX5_weather_18 : decode cX5_weather 18 = .ok (.ifCond .eq 12, 3) := by decide +kernel
theorem dX5_weather_21 : decode cX5_weather 21 = .ok (.iload_n 3, 1) := by decide +kernel
theorem dX5_weather_22 : decode cX5_weather 22 = .ok (.iconst 0, 1) := by decide +kernel
theorem dX5_weather_23 : decode cX5_weather 23 = .ok (.iconst 3, 1) := by decide +kernel
theorem dX5_weather_24 : decode cX5_weather 24 = .ok (.invokestatic 90, 3) := by decide +kernel
theorem dX5_weather_27 : decode cX5_weather 27 = .ok (.ifCond .ne 6, 3) := by decide +kernel
theorem dX5_weather_30 : decode cX5_weather 30 = .ok (.bipush (-100), 2) := by decide +kernel
theorem dX5_weather_32 : decode cX5_weather 32 = .ok (.ireturn, 1) := by decide +kernel
theorem dX5_weather_33 : decode cX5_weather 33 = .ok (.iload_n 1, 1) := by decide +kernel
theorem dX5_weather_34 : decode cX5_weather 34 = .ok (.aload_n 0, 1) := by decide +kernel
theorem dX5_weather_35 : decode cX5_weather 35 = .ok (.getfield 87, 3) := by decide +kernel
theorem dX5_weather_38 : decode cX5_weather 38 = .ok (.if_icmp .ge 7, 3) := by decide +kernel
theorem dX5_weather_41 : decode cX5_weather 41 = .ok (.sipush (-200), 3) := by decide +kernel
theorem dX5_weather_44 : decode cX5_weather 44 = .ok (.ireturn, 1) := by decide +kernel
theorem dX5_weather_45 : decode cX5_weather 45 = .ok (.aload_n 0, 1) := by decide +kernel
theorem dX5_weather_46 : decode cX5_weather 46 = .ok (.getfield 7, 3) := by decide +kernel
theorem dX5_weather_49 : decode cX5_weather 49 = .ok (.iload_n 1, 1) := by decide +kernel
theorem dX5_weather_50 : decode cX5_weather 50 = .ok (.iconst 1, 1) := by decide +kernel
theorem dX5_weather_51 : decode cX5_weather 51 = .ok (.bastore, 1) := by decide +kernel
theorem dX5_weather_52 : decode cX5_weather 52 = .ok (.aload_n 0, 1) := by decide +kernel
theorem dX5_weather_53 : decode cX5_weather 53 = .ok (.getfield 13, 3) := by decide +kernel
theorem dX5_weather_56 : decode cX5_weather 56 = .ok (.iload_n 1, 1) := by decide +kernel
theorem dX5_weather_57 : decode cX5_weather 57 = .ok (.iload_n 2, 1) := by decide +kernel
theorem dX5_weather_58 : decode cX5_weather 58 = .ok (.iastore, 1) := by decide +kernel
theorem dX5_weather_59 : decode cX5_weather 59 = .ok (.aload_n 0, 1) := by decide +kernel
theorem dX5_weather_60 : decode cX5_weather 60 = .ok (.getfield 17, 3) := by decide +kernel
theorem dX5_weather_63 : decode cX5_weather 63 = .ok (.iload_n 1, 1) := by decide +kernel
theorem dX5_weather_64 : decode cX5_weather 64 = .ok (.iload_n 3, 1) := by decide +kernel
theorem dX5_weather_65 : decode cX5_weather 65 = .ok (.iastore, 1) := by decide +kernel
theorem dX5_weather_66 : decode cX5_weather 66 = .ok (.iconst 1, 1) := by decide +kernel
theorem dX5_weather_67 : decode cX5_weather 67 = .ok (.ireturn, 1) := by decide +kernel
set_option maxRecDepth 20000 in
theorem ggX5_loses_X5_in : GoodIn wsX5_loses wsX5_in := goodIn_r _ [6] (by decide +kernel) (by decide +kernel)
set_option maxRecDepth 20000 in
theorem gX5_loses_X5_in : GoodIn wsX5_loses (va_wsS RX5 90 yX5_in wsX5_in) := goodIn_app (goodIn_of _ (by decide +kernel)) ggX5_loses_X5_in
theorem dX5_loses_0 : decode cX5_loses 0 = .ok (.iload_n 1, 1) := by decide +kernel
theorem dX5_loses_1 : decode cX5_loses 1 = .ok (.iconst 0, 1) := by decide +kernel
theorem dX5_loses_2 : decode cX5_loses 2 = .ok (.sipush 299, 3) := by decide +kernel
theorem dX5_loses_5 : decode cX5_loses 5 = .ok (.invokestatic 90, 3) := by decide +kernel
theorem dX5_loses_8 : decode cX5_loses 8 = .ok (.ifCond .ne 6, 3) := by decide +kernel
theorem dX5_loses_11 : decode cX5_loses 11 = .ok (.bipush (-100), 2) := by decide +kernel
theorem dX5_loses_13 : decode cX5_loses 13 = .ok (.ireturn, 1) := by decide +kernel
theorem dX5_loses_14 : decode cX5_loses 14 = .ok (.iload_n 1, 1) := by decide +kernel
theorem dX5_loses_15 : decode cX5_loses 15 = .ok (.aload_n 0, 1) := by decide +kernel
theorem dX5_loses_16 : decode cX5_loses 16 = .ok (.getfield 87, 3) := by decide +kernel
theorem dX5_loses_19 : decode cX5_loses 19 = .ok (.if_icmp .ge 7, 3) := by decide +kernel
theorem dX5_loses_22 : decode cX5_loses 22 = .ok (.sipush (-200), 3) := by decide +kernel
theorem dX5_loses_25 : decode cX5_loses 25 = .ok (.ireturn, 1) := by decide +kernel
theorem dX5_loses_26 : decode cX5_loses 26 = .ok (.aload_n 0, 1) := by decide +kernel
theorem dX5_loses_27 : decode cX5_loses 27 = .ok (.getfield 7, 3) := by decide +kernel
theorem dX5_loses_30 : decode cX5_loses 30 = .ok (.iload_n 1, 1) := by decide +kernel
theorem dX5_loses_31 : decode cX5_loses 31 = .ok (.baload, 1) := by decide +kernel
theorem dX5_loses_32 : decode cX5_loses 32 = .ok (.ifCond .eq 7, 3) := by decide +kernel
theorem dX5_loses_35 : decode cX5_loses 35 = .ok (.iconst 1, 1) := by decide +kernel
theorem dX5_loses_36 : decode cX5_loses 36 = .ok (.goto 4, 3) := by decide +kernel
theorem dX5_loses_39 : decode cX5_loses 39 = .ok (.iconst 0, 1) := by decide +kernel
theorem dX5_loses_40 : decode cX5_loses 40 = .ok (.istore_n 2, 1) := by decide +kernel
theorem dX5_loses_41 : decode cX5_loses 41 = .ok (.aload_n 0, 1) := by decide +kernel
theorem dX5_loses_42 : decode cX5_loses 42 = .ok (.getfield 7, 3) := by decide +kernel
theorem dX5_loses_45 : decode cX5_loses 45 = .ok (.iload_n 1, 1) := by decide +kernel
theorem dX5_loses_46 : decode cX5_loses 46 = .ok (.iconst 0, 1) := by decide +kernel
theorem dX5_loses_47 : decode cX5_loses 47 = .ok (.bastore, 1) := by decide +kernel
theorem dX5_loses_48 : decode cX5_loses 48 = .ok (.iload_n 2, 1) := by decide +kernel
theorem dX5_loses_49 : decode cX5_loses 49 = .ok (.ireturn, 1) := by decide +kernel
theorem dX5_coldOf_0 : decode cX5_coldOf 0 = .ok (.aload_n 0, 1) := by decide +kernel
theorem dX5_coldOf_1 : decode cX5_coldOf 1 = .ok (.getfield 7, 3) := by decide +kernel
theorem dX5_coldOf_4 : decode cX5_coldOf 4 = .ok (.iload_n 1, 1) := by decide +kernel
theorem dX5_coldOf_5 : decode cX5_coldOf 5 = .ok (.baload, 1) := by decide +kernel
theorem dX5_coldOf_6 : decode cX5_coldOf 6 = .ok (.ifCond .eq 10, 3) := by decide +kernel
theorem dX5_coldOf_9 : decode cX5_coldOf 9 = .ok (.aload_n 0, 1) := by decide +kernel
theorem dX5_coldOf_10 : decode cX5_coldOf 10 = .ok (.getfield 13, 3) := by decide +kernel
theorem dX5_coldOf_13 : decode cX5_coldOf 13 = .ok (.iload_n 1, 1) := by decide +kernel
theorem dX5_coldOf_14 : decode cX5_coldOf 14 = .ok (.iaload, 1) := by decide +kernel
theorem dX5_coldOf_15 : decode cX5_coldOf 15 = .ok (.ireturn, 1) := by decide +kernel
theorem dX5_coldOf_16 : decode cX5_coldOf 16 = .ok (.bipush 100, 2) := by decide +kernel
theorem dX5_coldOf_18 : decode cX5_coldOf 18 = .ok (.istore_n 2, 1) := by decide +kernel
theorem dX5_coldOf_19 : decode cX5_coldOf 19 = .ok (.iload_n 1, 1) := by decide +kernel
theorem dX5_coldOf_20 : decode cX5_coldOf 20 = .ok (.iconst 1, 1) := by decide +kernel
theorem dX5_coldOf_21 : decode cX5_coldOf 21 = .ok (.isub, 1) := by decide +kernel
theorem dX5_coldOf_22 : decode cX5_coldOf 22 = .ok (.istore_n 3, 1) := by decide +kernel
theorem dX5_coldOf_23 : decode cX5_coldOf 23 = .ok (.iload_n 3, 1) := by decide +kernel
theorem dX5_coldOf_24 : decode cX5_coldOf 24 = .ok (.ifCond .lt 47, 3) := by decide +kernel
theorem dX5_coldOf_27 : decode cX5_coldOf 27 = .ok (.iload_n 3, 1) := by decide +kernel
theorem dX5_coldOf_28 : decode cX5_coldOf 28 = .ok (.iload_n 1, 1) := by decide +kernel
theorem dX5_coldOf_29 : decode cX5_coldOf 29 = .ok (.bipush 30, 2) := by decide +kernel
theorem dX5_coldOf_31 : decode cX5_coldOf 31 = .ok (.isub, 1) := by decide +kernel
theorem dX5_coldOf_32 : decode cX5_coldOf 32 = .ok (.if_icmp .lt 39, 3) := by decide +kernel
theorem dX5_coldOf_35 : decode cX5_coldOf 35 = .ok (.aload_n 0, 1) := by decide +kernel
theorem dX5_coldOf_36 : decode cX5_coldOf 36 = .ok (.getfield 7, 3) := by decide +kernel
theorem dX5_coldOf_39 : decode cX5_coldOf 39 = .ok (.iload_n 3, 1) := by decide +kernel
theorem dX5_coldOf_40 : decode cX5_coldOf 40 = .ok (.baload, 1) := by decide +kernel
theorem dX5_coldOf_41 : decode cX5_coldOf 41 = .ok (.ifCond .eq 22, 3) := by decide +kernel
theorem dX5_coldOf_44 : decode cX5_coldOf 44 = .ok (.aload_n 0, 1) := by decide +kernel
theorem dX5_coldOf_45 : decode cX5_coldOf 45 = .ok (.getfield 13, 3) := by decide +kernel
theorem dX5_coldOf_48 : decode cX5_coldOf 48 = .ok (.iload_n 3, 1) := by decide +kernel
theorem dX5_coldOf_49 : decode cX5_coldOf 49 = .ok (.iaload, 1) := by decide +kernel
theorem dX5_coldOf_50 : decode cX5_coldOf 50 = .ok (.iload_n 2, 1) := by decide +kernel
theorem dX5_coldOf_51 : decode cX5_coldOf 51 = .ok (.if_icmp .ge 12, 3) := by decide +kernel
theorem dX5_coldOf_54 : decode cX5_coldOf 54 = .ok (.aload_n 0, 1) := by decide +kernel
theorem dX5_coldOf_55 : decode cX5_coldOf 55 = .ok (.getfield 13, 3) := by decide +kernel
theorem dX5_coldOf_58 : decode cX5_coldOf 58 = .ok (.iload_n 3, 1) := by decide +kernel
theorem dX5_coldOf_59 : decode cX5_coldOf 59 = .ok (.iaload, 1) := by decide +kernel
theorem dX5_coldOf_60 : decode cX5_coldOf 60 = .ok (.goto 4, 3) := by decide +kernel
theorem dX5_coldOf_63 : decode cX5_coldOf 63 = .ok (.iload_n 2, 1) := by decide +kernel
theorem dX5_coldOf_64 : decode cX5_coldOf 64 = .ok (.istore_n 2, 1) := by decide +kernel
theorem dX5_coldOf_65 : decode cX5_coldOf 65 = .ok (.iinc 3 (-1), 3) := by decide +kernel
theorem dX5_coldOf_68 : decode cX5_coldOf 68 = .ok (.goto (-45), 3) := by decide +kernel
theorem dX5_coldOf_71 : decode cX5_coldOf 71 = .ok (.iload_n 2, 1) := by decide +kernel
theorem dX5_coldOf_72 : decode cX5_coldOf 72 = .ok (.bipush 100, 2) := by decide +kernel
theorem dX5_coldOf_74 : decode cX5_coldOf 74 = .ok (.if_icmp .ne 7, 3) := by decide +kernel
theorem dX5_coldOf_77 : decode cX5_coldOf 77 = .ok (.iconst 0, 1) := by decide +kernel
theorem dX5_coldOf_78 : decode cX5_coldOf 78 = .ok (.goto 4, 3) := by decide +kernel
theorem dX5_coldOf_81 : decode cX5_coldOf 81 = .ok (.iload_n 2, 1) := by decide +kernel
theorem dX5_coldOf_82 : decode cX5_coldOf 82 = .ok (.ireturn, 1) := by decide +kernel
theorem dX5_fallOf_0 : decode cX5_fallOf 0 = .ok (.aload_n 0, 1) := by decide +kernel
theorem dX5_fallOf_1 : decode cX5_fallOf 1 = .ok (.getfield 7, 3) := by decide +kernel
theorem dX5_fallOf_4 : decode cX5_fallOf 4 = .ok (.iload_n 1, 1) := by decide +kernel
theorem dX5_fallOf_5 : decode cX5_fallOf 5 = .ok (.baload, 1) := by decide +kernel
theorem dX5_fallOf_6 : decode cX5_fallOf 6 = .ok (.ifCond .eq 10, 3) := by decide +kernel
theorem dX5_fallOf_9 : decode cX5_fallOf 9 = .ok (.aload_n 0, 1) := by decide +kernel
theorem dX5_fallOf_10 : decode cX5_fallOf 10 = .ok (.getfield 17, 3) := by decide +kernel
theorem dX5_fallOf_13 : decode cX5_fallOf 13 = .ok (.iload_n 1, 1) := by decide +kernel
theorem dX5_fallOf_14 : decode cX5_fallOf 14 = .ok (.iaload, 1) := by decide +kernel
theorem dX5_fallOf_15 : decode cX5_fallOf 15 = .ok (.ireturn, 1) := by decide +kernel
theorem dX5_fallOf_16 : decode cX5_fallOf 16 = .ok (.iconst 0, 1) := by decide +kernel
theorem dX5_fallOf_17 : decode cX5_fallOf 17 = .ok (.istore_n 2, 1) := by decide +kernel
theorem dX5_fallOf_18 : decode cX5_fallOf 18 = .ok (.iload_n 1, 1) := by decide +kernel
theorem dX5_fallOf_19 : decode cX5_fallOf 19 = .ok (.iconst 1, 1) := by decide +kernel
theorem dX5_fallOf_20 : decode cX5_fallOf 20 = .ok (.isub, 1) := by decide +kernel
theorem dX5_fallOf_21 : decode cX5_fallOf 21 = .ok (.istore_n 3, 1) := by decide +kernel
theorem dX5_fallOf_22 : decode cX5_fallOf 22 = .ok (.iload_n 3, 1) := by decide +kernel
theorem dX5_fallOf_23 : decode cX5_fallOf 23 = .ok (.ifCond .lt 47, 3) := by decide +kernel
theorem dX5_fallOf_26 : decode cX5_fallOf 26 = .ok (.iload_n 3, 1) := by decide +kernel
theorem dX5_fallOf_27 : decode cX5_fallOf 27 = .ok (.iload_n 1, 1) := by decide +kernel
theorem dX5_fallOf_28 : decode cX5_fallOf 28 = .ok (.bipush 30, 2) := by decide +kernel
theorem dX5_fallOf_30 : decode cX5_fallOf 30 = .ok (.isub, 1) := by decide +kernel
theorem dX5_fallOf_31 : decode cX5_fallOf 31 = .ok (.if_icmp .lt 39, 3) := by decide +kernel
theorem dX5_fallOf_34 : decode cX5_fallOf 34 = .ok (.aload_n 0, 1) := by decide +kernel
theorem dX5_fallOf_35 : decode cX5_fallOf 35 = .ok (.getfield 7, 3) := by decide +kernel
theorem dX5_fallOf_38 : decode cX5_fallOf 38 = .ok (.iload_n 3, 1) := by decide +kernel
theorem dX5_fallOf_39 : decode cX5_fallOf 39 = .ok (.baload, 1) := by decide +kernel
theorem dX5_fallOf_40 : decode cX5_fallOf 40 = .ok (.ifCond .eq 22, 3) := by decide +kernel
theorem dX5_fallOf_43 : decode cX5_fallOf 43 = .ok (.aload_n 0, 1) := by decide +kernel
theorem dX5_fallOf_44 : decode cX5_fallOf 44 = .ok (.getfield 17, 3) := by decide +kernel
theorem dX5_fallOf_47 : decode cX5_fallOf 47 = .ok (.iload_n 3, 1) := by decide +kernel
theorem dX5_fallOf_48 : decode cX5_fallOf 48 = .ok (.iaload, 1) := by decide +kernel
theorem dX5_fallOf_49 : decode cX5_fallOf 49 = .ok (.iload_n 2, 1) := by decide +kernel
theorem dX5_fallOf_50 : decode cX5_fallOf 50 = .ok (.if_icmp .le 12, 3) := by decide +kernel
theorem dX5_fallOf_53 : decode cX5_fallOf 53 = .ok (.aload_n 0, 1) := by decide +kernel
theorem dX5_fallOf_54 : decode cX5_fallOf 54 = .ok (.getfield 17, 3) := by decide +kernel
theorem dX5_fallOf_57 : decode cX5_fallOf 57 = .ok (.iload_n 3, 1) := by decide +kernel
theorem dX5_fallOf_58 : decode cX5_fallOf 58 = .ok (.iaload, 1) := by decide +kernel
theorem dX5_fallOf_59 : decode cX5_fallOf 59 = .ok (.goto 4, 3) := by decide +kernel
theorem dX5_fallOf_62 : decode cX5_fallOf 62 = .ok (.iload_n 2, 1) := by decide +kernel
theorem dX5_fallOf_63 : decode cX5_fallOf 63 = .ok (.istore_n 2, 1) := by decide +kernel
theorem dX5_fallOf_64 : decode cX5_fallOf 64 = .ok (.iinc 3 (-1), 3) := by decide +kernel
theorem dX5_fallOf_67 : decode cX5_fallOf 67 = .ok (.goto (-45), 3) := by decide +kernel
theorem dX5_fallOf_70 : decode cX5_fallOf 70 = .ok (.iload_n 2, 1) := by decide +kernel
theorem dX5_fallOf_71 : decode cX5_fallOf 71 = .ok (.ireturn, 1) := by decide +kernel
set_option maxRecDepth 20000 in
theorem ggX5_known_X5_in : GoodIn wsX5_known wsX5_in := goodIn_r _ [5] (by decide +kernel) (by decide +kernel)
set_option maxRecDepth 20000 in
theorem gX5_known_X5_in : GoodIn wsX5_known (va_wsS RX5 90 yX5_in wsX5_in) := goodIn_app (goodIn_of _ (by decide +kernel)) ggX5_known_X5_in
set_option maxRecDepth 20000 in
theorem ggX5_known_X5_coldOf : GoodIn wsX5_known wsX5_coldOf := goodIn_r _ [9, 1, 10, 16, 17, 18, 19, 20, 21, 22, 23, 24, 25, 26, 27, 28, 29, 30, 31, 32, 33, 34, 35, 36, 37, 38, 39, 40, 41, 42, 43, 44, 45, 46, 47] (by decide +kernel) (by decide +kernel)
set_option maxRecDepth 20000 in
theorem gX5_known_X5_coldOf : GoodIn wsX5_known (wsV RX5 94 RX5 yX5_coldOf wsX5_coldOf) := goodIn_app (goodIn_of _ (by decide +kernel)) ggX5_known_X5_coldOf
set_option maxRecDepth 20000 in
theorem ggX5_known_X5_fallOf : GoodIn wsX5_known wsX5_fallOf := goodIn_r _ [14, 1, 15, 16, 17, 18, 19, 20, 21, 22, 23, 24, 25, 26, 27, 28, 29, 30, 31, 32, 33, 34, 35, 36, 37, 38, 39, 40, 41, 42, 43, 44, 45, 46, 47] (by decide +kernel) (by decide +kernel)
set_option maxRecDepth 20000 in
theorem gX5_known_X5_fallOf : GoodIn wsX5_known (wsV RX5 98 RX5 yX5_fallOf wsX5_fallOf) := goodIn_app (goodIn_of _ (by decide +kernel)) ggX5_known_X5_fallOf
theorem dX5_known_0 : decode cX5_known 0 = .ok (.iload_n 1, 1) := by decide +kernel
theorem dX5_known_1 : decode cX5_known 1 = .ok (.iconst 0, 1) := by decide +kernel
theorem dX5_known_2 : decode cX5_known 2 = .ok (.sipush 299, 3) := by decide +kernel
theorem dX5_known_5 : decode cX5_known 5 = .ok (.invokestatic 90, 3) := by decide +kernel
theorem dX5_known_8 : decode cX5_known 8 = .ok (.ifCond .eq 12, 3) := by decide +kernel
theorem dX5_known_11 : decode cX5_known 11 = .ok (.iload_n 2, 1) := by decide +kernel
theorem dX5_known_12 : decode cX5_known 12 = .ok (.iconst 0, 1) := by decide +kernel
theorem dX5_known_13 : decode cX5_known 13 = .ok (.iconst 2, 1) := by decide +kernel
theorem dX5_known_14 : decode cX5_known 14 = .ok (.invokestatic 90, 3) := by decide +kernel
theorem dX5_known_17 : decode cX5_known 17 = .ok (.ifCond .ne 6, 3) := by decide +kernel
theorem dX5_known_20 : decode cX5_known 20 = .ok (.bipush (-100), 2) := by decide +kernel
theorem dX5_known_22 : decode cX5_known 22 = .ok (.ireturn, 1) := by decide +kernel
theorem dX5_known_23 : decode cX5_known 23 = .ok (.iload_n 2, 1) := by decide +kernel
theorem dX5_known_24 : decode cX5_known 24 = .ok (.ifCond .ne 11, 3) := by decide +kernel
theorem dX5_known_27 : decode cX5_known 27 = .ok (.aload_n 0, 1) := by decide +kernel
theorem dX5_known_28 : decode cX5_known 28 = .ok (.iload_n 1, 1) := by decide +kernel
theorem dX5_known_29 : decode cX5_known 29 = .ok (.invokevirtual 94, 3) := by decide +kernel
theorem dX5_known_32 : decode cX5_known 32 = .ok (.goto 30, 3) := by decide +kernel
theorem dX5_known_35 : decode cX5_known 35 = .ok (.iload_n 2, 1) := by decide +kernel
theorem dX5_known_36 : decode cX5_known 36 = .ok (.iconst 1, 1) := by decide +kernel
theorem dX5_known_37 : decode cX5_known 37 = .ok (.if_icmp .ne 11, 3) := by decide +kernel
theorem dX5_known_40 : decode cX5_known 40 = .ok (.aload_n 0, 1) := by decide +kernel
theorem dX5_known_41 : decode cX5_known 41 = .ok (.iload_n 1, 1) := by decide +kernel
theorem dX5_known_42 : decode cX5_known 42 = .ok (.invokevirtual 98, 3) := by decide +kernel
theorem dX5_known_45 : decode cX5_known 45 = .ok (.goto 17, 3) := by decide +kernel
theorem dX5_known_48 : decode cX5_known 48 = .ok (.aload_n 0, 1) := by decide +kernel
theorem dX5_known_49 : decode cX5_known 49 = .ok (.getfield 7, 3) := by decide +kernel
theorem dX5_known_52 : decode cX5_known 52 = .ok (.iload_n 1, 1) := by decide +kernel
theorem dX5_known_53 : decode cX5_known 53 = .ok (.baload, 1) := by decide +kernel
theorem dX5_known_54 : decode cX5_known 54 = .ok (.ifCond .eq 7, 3) := by decide +kernel
theorem dX5_known_57 : decode cX5_known 57 = .ok (.iconst 1, 1) := by decide +kernel
theorem dX5_known_58 : decode cX5_known 58 = .ok (.goto 4, 3) := by decide +kernel
theorem dX5_known_61 : decode cX5_known 61 = .ok (.iconst 0, 1) := by decide +kernel
theorem dX5_known_62 : decode cX5_known 62 = .ok (.ireturn, 1) := by decide +kernel
set_option maxRecDepth 20000 in
theorem ggX5_fluid_X5_in : GoodIn wsX5_fluid wsX5_in := goodIn_r _ [10] (by decide +kernel) (by decide +kernel)
set_option maxRecDepth 20000 in
theorem gX5_fluid_X5_in : GoodIn wsX5_fluid (va_wsS RX5 90 yX5_in wsX5_in) := goodIn_app (goodIn_of _ (by decide +kernel)) ggX5_fluid_X5_in
theorem dX5_fluid_0 : decode cX5_fluid 0 = .ok (.iload_n 2, 1) := by decide +kernel
theorem dX5_fluid_1 : decode cX5_fluid 1 = .ok (.bipush 100, 2) := by decide +kernel
theorem dX5_fluid_3 : decode cX5_fluid 3 = .ok (.if_icmp .gt 30, 3) := by decide +kernel
theorem dX5_fluid_6 : decode cX5_fluid 6 = .ok (.iload_n 3, 1) := by decide +kernel
theorem dX5_fluid_7 : decode cX5_fluid 7 = .ok (.iload_n 2, 1) := by decide +kernel
theorem dX5_fluid_8 : decode cX5_fluid 8 = .ok (.if_icmp .gt 25, 3) := by decide +kernel
theorem dX5_fluid_11 : decode cX5_fluid 11 = .ok (.iload 4, 2) := by decide +kernel
theorem dX5_fluid_13 : decode cX5_fluid 13 = .ok (.iload_n 3, 1) := by decide +kernel
theorem dX5_fluid_14 : decode cX5_fluid 14 = .ok (.if_icmp .gt 19, 3) := by decide +kernel
theorem dX5_fluid_17 : decode cX5_fluid 17 = .ok (.iload 5, 2) := by decide +kernel
theorem dX5_fluid_19 : decode cX5_fluid 19 = .ok (.iload 4, 2) := by decide +kernel
theorem dX5_fluid_21 : decode cX5_fluid 21 = .ok (.if_icmp .gt 12, 3) := by decide +kernel
theorem dX5_fluid_24 : decode cX5_fluid 24 = .ok (.iload 5, 2) := by decide +kernel
theorem dX5_fluid_26 : decode cX5_fluid 26 = .ok (.ifCond .lt 7, 3) := by decide +kernel
theorem dX5_fluid_29 : decode cX5_fluid 29 = .ok (.iconst 1, 1) := by decide +kernel
theorem dX5_fluid_30 : decode cX5_fluid 30 = .ok (.goto 4, 3) := by decide +kernel
theorem dX5_fluid_33 : decode cX5_fluid 33 = .ok (.iconst 0, 1) := by decide +kernel
theorem dX5_fluid_34 : decode cX5_fluid 34 = .ok (.istore 9, 2) := by decide +kernel
theorem dX5_fluid_36 : decode cX5_fluid 36 = .ok (.iload_n 1, 1) := by decide +kernel
theorem dX5_fluid_37 : decode cX5_fluid 37 = .ok (.iconst 0, 1) := by decide +kernel
theorem dX5_fluid_38 : decode cX5_fluid 38 = .ok (.iconst 2, 1) := by decide +kernel
theorem dX5_fluid_39 : decode cX5_fluid 39 = .ok (.invokestatic 90, 3) := by decide +kernel
theorem dX5_fluid_42 : decode cX5_fluid 42 = .ok (.ifCond .eq 50, 3) := by decide +kernel
theorem dX5_fluid_45 : decode cX5_fluid 45 = .ok (.iload 9, 2) := by decide +kernel
theorem dX5_fluid_47 : decode cX5_fluid 47 = .ok (.ifCond .eq 45, 3) := by decide +kernel
theorem dX5_fluid_50 : decode cX5_fluid 50 = .ok (.iload_n 1, 1) := by decide +kernel
theorem dX5_fluid_51 : decode cX5_fluid 51 = .ok (.ifCond .le 13, 3) := by decide +kernel
theorem dX5_fluid_54 : decode cX5_fluid 54 = .ok (.iload 6, 2) := by decide +kernel
theorem dX5_fluid_56 : decode cX5_fluid 56 = .ok (.iconst 1, 1) := by decide +kernel
theorem dX5_fluid_57 : decode cX5_fluid 57 = .ok (.iconst 4, 1) := by decide +kernel
theorem dX5_fluid_58 : decode cX5_fluid 58 = .ok (.invokestatic 90, 3) := by decide +kernel
theorem dX5_fluid_61 : decode cX5_fluid 61 = .ok (.ifCond .eq 31, 3) := by decide +kernel
theorem dX5_fluid_64 : decode cX5_fluid 64 = .ok (.iload_n 1, 1) := by decide +kernel
theorem dX5_fluid_65 : decode cX5_fluid 65 = .ok (.iconst 2, 1) := by decide +kernel
theorem dX5_fluid_66 : decode cX5_fluid 66 = .ok (.if_icmp .ne 14, 3) := by decide +kernel
theorem dX5_fluid_69 : decode cX5_fluid 69 = .ok (.iload 7, 2) := by decide +kernel
theorem dX5_fluid_71 : decode cX5_fluid 71 = .ok (.iconst 1, 1) := by decide +kernel
theorem dX5_fluid_72 : decode cX5_fluid 72 = .ok (.bipush 10, 2) := by decide +kernel
theorem dX5_fluid_74 : decode cX5_fluid 74 = .ok (.invokestatic 90, 3) := by decide +kernel
theorem dX5_fluid_77 : decode cX5_fluid 77 = .ok (.ifCond .eq 15, 3) := by decide +kernel
theorem dX5_fluid_80 : decode cX5_fluid 80 = .ok (.iload 8, 2) := by decide +kernel
theorem dX5_fluid_82 : decode cX5_fluid 82 = .ok (.iconst 0, 1) := by decide +kernel
theorem dX5_fluid_83 : decode cX5_fluid 83 = .ok (.sipush 2000, 3) := by decide +kernel
theorem dX5_fluid_86 : decode cX5_fluid 86 = .ok (.invokestatic 90, 3) := by decide +kernel
theorem dX5_fluid_89 : decode cX5_fluid 89 = .ok (.ifCond .ne 6, 3) := by decide +kernel
theorem dX5_fluid_92 : decode cX5_fluid 92 = .ok (.bipush (-100), 2) := by decide +kernel
theorem dX5_fluid_94 : decode cX5_fluid 94 = .ok (.ireturn, 1) := by decide +kernel
theorem dX5_fluid_95 : decode cX5_fluid 95 = .ok (.aload_n 0, 1) := by decide +kernel
theorem dX5_fluid_96 : decode cX5_fluid 96 = .ok (.getfield 101, 3) := by decide +kernel
theorem dX5_fluid_99 : decode cX5_fluid 99 = .ok (.iconst 4, 1) := by decide +kernel
theorem dX5_fluid_100 : decode cX5_fluid 100 = .ok (.if_icmp .ne 7, 3) := by decide +kernel
theorem dX5_fluid_103 : decode cX5_fluid 103 = .ok (.sipush (-300), 3) := by decide +kernel
theorem dX5_fluid_106 : decode cX5_fluid 106 = .ok (.ireturn, 1) := by decide +kernel
theorem dX5_fluid_107 : decode cX5_fluid 107 = .ok (.aload_n 0, 1) := by decide +kernel
theorem dX5_fluid_108 : decode cX5_fluid 108 = .ok (.getfield 20, 3) := by decide +kernel
theorem dX5_fluid_111 : decode cX5_fluid 111 = .ok (.aload_n 0, 1) := by decide +kernel
theorem dX5_fluid_112 : decode cX5_fluid 112 = .ok (.getfield 101, 3) := by decide +kernel
theorem dX5_fluid_115 : decode cX5_fluid 115 = .ok (.iload_n 1, 1) := by decide +kernel
theorem dX5_fluid_116 : decode cX5_fluid 116 = .ok (.iastore, 1) := by decide +kernel
theorem dX5_fluid_117 : decode cX5_fluid 117 = .ok (.aload_n 0, 1) := by decide +kernel
theorem dX5_fluid_118 : decode cX5_fluid 118 = .ok (.getfield 23, 3) := by decide +kernel
theorem dX5_fluid_121 : decode cX5_fluid 121 = .ok (.iconst 4, 1) := by decide +kernel
theorem dX5_fluid_122 : decode cX5_fluid 122 = .ok (.aload_n 0, 1) := by decide +kernel
theorem dX5_fluid_123 : decode cX5_fluid 123 = .ok (.getfield 101, 3) := by decide +kernel
theorem dX5_fluid_126 : decode cX5_fluid 126 = .ok (.imul, 1) := by decide +kernel
theorem dX5_fluid_127 : decode cX5_fluid 127 = .ok (.iload_n 2, 1) := by decide +kernel
theorem dX5_fluid_128 : decode cX5_fluid 128 = .ok (.iastore, 1) := by decide +kernel
theorem dX5_fluid_129 : decode cX5_fluid 129 = .ok (.aload_n 0, 1) := by decide +kernel
theorem dX5_fluid_130 : decode cX5_fluid 130 = .ok (.getfield 23, 3) := by decide +kernel
theorem dX5_fluid_133 : decode cX5_fluid 133 = .ok (.iconst 4, 1) := by decide +kernel
theorem dX5_fluid_134 : decode cX5_fluid 134 = .ok (.aload_n 0, 1) := by decide +kernel
theorem dX5_fluid_135 : decode cX5_fluid 135 = .ok (.getfield 101, 3) := by decide +kernel
theorem dX5_fluid_138 : decode cX5_fluid 138 = .ok (.imul, 1) := by decide +kernel
theorem dX5_fluid_139 : decode cX5_fluid 139 = .ok (.iconst 1, 1) := by decide +kernel
theorem dX5_fluid_140 : decode cX5_fluid 140 = .ok (.iadd, 1) := by decide +kernel
theorem dX5_fluid_141 : decode cX5_fluid 141 = .ok (.iload_n 3, 1) := by decide +kernel
theorem dX5_fluid_142 : decode cX5_fluid 142 = .ok (.iastore, 1) := by decide +kernel
theorem dX5_fluid_143 : decode cX5_fluid 143 = .ok (.aload_n 0, 1) := by decide +kernel
theorem dX5_fluid_144 : decode cX5_fluid 144 = .ok (.getfield 23, 3) := by decide +kernel
theorem dX5_fluid_147 : decode cX5_fluid 147 = .ok (.iconst 4, 1) := by decide +kernel
theorem dX5_fluid_148 : decode cX5_fluid 148 = .ok (.aload_n 0, 1) := by decide +kernel
theorem dX5_fluid_149 : decode cX5_fluid 149 = .ok (.getfield 101, 3) := by decide +kernel
theorem dX5_fluid_152 : decode cX5_fluid 152 = .ok (.imul, 1) := by decide +kernel
theorem dX5_fluid_153 : decode cX5_fluid 153 = .ok (.iconst 2, 1) := by decide +kernel
theorem dX5_fluid_154 : decode cX5_fluid 154 = .ok (.iadd, 1) := by decide +kernel
theorem dX5_fluid_155 : decode cX5_fluid 155 = .ok (.iload 4, 2) := by decide +kernel
theorem dX5_fluid_157 : decode cX5_fluid 157 = .ok (.iastore, 1) := by decide +kernel
theorem dX5_fluid_158 : decode cX5_fluid 158 = .ok (.aload_n 0, 1) := by decide +kernel
theorem dX5_fluid_159 : decode cX5_fluid 159 = .ok (.getfield 23, 3) := by decide +kernel
theorem dX5_fluid_162 : decode cX5_fluid 162 = .ok (.iconst 4, 1) := by decide +kernel
theorem dX5_fluid_163 : decode cX5_fluid 163 = .ok (.aload_n 0, 1) := by decide +kernel
theorem dX5_fluid_164 : decode cX5_fluid 164 = .ok (.getfield 101, 3) := by decide +kernel
theorem dX5_fluid_167 : decode cX5_fluid 167 = .ok (.imul, 1) := by decide +kernel
theorem dX5_fluid_168 : decode cX5_fluid 168 = .ok (.iconst 3, 1) := by decide +kernel
theorem dX5_fluid_169 : decode cX5_fluid 169 = .ok (.iadd, 1) := by decide +kernel
theorem dX5_fluid_170 : decode cX5_fluid 170 = .ok (.iload 5, 2) := by decide +kernel
theorem dX5_fluid_172 : decode cX5_fluid 172 = .ok (.iastore, 1) := by decide +kernel
theorem dX5_fluid_173 : decode cX5_fluid 173 = .ok (.aload_n 0, 1) := by decide +kernel
theorem dX5_fluid_174 : decode cX5_fluid 174 = .ok (.getfield 26, 3) := by decide +kernel
theorem dX5_fluid_177 : decode cX5_fluid 177 = .ok (.aload_n 0, 1) := by decide +kernel
theorem dX5_fluid_178 : decode cX5_fluid 178 = .ok (.getfield 101, 3) := by decide +kernel
theorem dX5_fluid_181 : decode cX5_fluid 181 = .ok (.iload 6, 2) := by decide +kernel
theorem dX5_fluid_183 : decode cX5_fluid 183 = .ok (.iastore, 1) := by decide +kernel
theorem dX5_fluid_184 : decode cX5_fluid 184 = .ok (.aload_n 0, 1) := by decide +kernel
theorem dX5_fluid_185 : decode cX5_fluid 185 = .ok (.getfield 29, 3) := by decide +kernel
theorem dX5_fluid_188 : decode cX5_fluid 188 = .ok (.aload_n 0, 1) := by decide +kernel
theorem dX5_fluid_189 : decode cX5_fluid 189 = .ok (.getfield 101, 3) := by decide +kernel
theorem dX5_fluid_192 : decode cX5_fluid 192 = .ok (.iload 7, 2) := by decide +kernel
theorem dX5_fluid_194 : decode cX5_fluid 194 = .ok (.iastore, 1) := by decide +kernel
theorem dX5_fluid_195 : decode cX5_fluid 195 = .ok (.aload_n 0, 1) := by decide +kernel
theorem dX5_fluid_196 : decode cX5_fluid 196 = .ok (.getfield 32, 3) := by decide +kernel
theorem dX5_fluid_199 : decode cX5_fluid 199 = .ok (.aload_n 0, 1) := by decide +kernel
theorem dX5_fluid_200 : decode cX5_fluid 200 = .ok (.getfield 101, 3) := by decide +kernel
theorem dX5_fluid_203 : decode cX5_fluid 203 = .ok (.iload 8, 2) := by decide +kernel
theorem dX5_fluid_205 : decode cX5_fluid 205 = .ok (.iastore, 1) := by decide +kernel
theorem dX5_fluid_206 : decode cX5_fluid 206 = .ok (.aload_n 0, 1) := by decide +kernel
theorem dX5_fluid_207 : decode cX5_fluid 207 = .ok (.dup, 1) := by decide +kernel
theorem dX5_fluid_208 : decode cX5_fluid 208 = .ok (.getfield 101, 3) := by decide +kernel
theorem dX5_fluid_211 : decode cX5_fluid 211 = .ok (.iconst 1, 1) := by decide +kernel
theorem dX5_fluid_212 : decode cX5_fluid 212 = .ok (.iadd, 1) := by decide +kernel
theorem dX5_fluid_213 : decode cX5_fluid 213 = .ok (.putfield 101, 3) := by decide +kernel
theorem dX5_fluid_216 : decode cX5_fluid 216 = .ok (.aload_n 0, 1) := by decide +kernel
theorem dX5_fluid_217 : decode cX5_fluid 217 = .ok (.getfield 101, 3) := by decide +kernel
theorem dX5_fluid_220 : decode cX5_fluid 220 = .ok (.iconst 1, 1) := by decide +kernel
theorem dX5_fluid_221 : decode cX5_fluid 221 = .ok (.isub, 1) := by decide +kernel
theorem dX5_fluid_222 : decode cX5_fluid 222 = .ok (.ireturn, 1) := by decide +kernel
set_option maxRecDepth 20000 in
theorem ggX5_holdOf_X5_fallOf : GoodIn wsX5_holdOf wsX5_fallOf := goodIn_r _ [9, 10, 11, 17, 18, 19, 20, 21, 22, 23, 24, 25, 26, 27, 28, 29, 30, 31, 32, 33, 34, 35, 36, 37, 38, 39, 40, 41, 42, 43, 44, 45, 46, 47, 48] (by decide +kernel) (by decide +kernel)
set_option maxRecDepth 20000 in
theorem gX5_holdOf_X5_fallOf : GoodIn wsX5_holdOf (wsV RX5 98 RX5 yX5_fallOf wsX5_fallOf) := goodIn_app (goodIn_of _ (by decide +kernel)) ggX5_holdOf_X5_fallOf
set_option maxRecDepth 20000 in
theorem ggX5_holdOf_X5_coldOf : GoodIn wsX5_holdOf wsX5_coldOf := goodIn_r _ [15, 10, 16, 17, 18, 19, 20, 21, 22, 23, 24, 25, 26, 27, 28, 29, 30, 31, 32, 33, 34, 35, 36, 37, 38, 39, 40, 41, 42, 43, 44, 45, 46, 47, 48] (by decide +kernel) (by decide +kernel)
set_option maxRecDepth 20000 in
theorem gX5_holdOf_X5_coldOf : GoodIn wsX5_holdOf (wsV RX5 94 RX5 yX5_coldOf wsX5_coldOf) := goodIn_app (goodIn_of _ (by decide +kernel)) ggX5_holdOf_X5_coldOf
theorem dX5_holdOf_0 : decode cX5_holdOf 0 = .ok (.aload_n 0, 1) := by decide +kernel
theorem dX5_holdOf_1 : decode cX5_holdOf 1 = .ok (.getfield 23, 3) := by decide +kernel
theorem dX5_holdOf_4 : decode cX5_holdOf 4 = .ok (.iconst 4, 1) := by decide +kernel
theorem dX5_holdOf_5 : decode cX5_holdOf 5 = .ok (.iload_n 1, 1) := by decide +kernel
theorem dX5_holdOf_6 : decode cX5_holdOf 6 = .ok (.imul, 1) := by decide +kernel
theorem dX5_holdOf_7 : decode cX5_holdOf 7 = .ok (.aload_n 0, 1) := by decide +kernel
theorem dX5_holdOf_8 : decode cX5_holdOf 8 = .ok (.iload_n 2, 1) := by decide +kernel
theorem dX5_holdOf_9 : decode cX5_holdOf 9 = .ok (.invokevirtual 98, 3) := by decide +kernel
theorem dX5_holdOf_12 : decode cX5_holdOf 12 = .ok (.iadd, 1) := by decide +kernel
theorem dX5_holdOf_13 : decode cX5_holdOf 13 = .ok (.iaload, 1) := by decide +kernel
theorem dX5_holdOf_14 : decode cX5_holdOf 14 = .ok (.istore_n 3, 1) := by decide +kernel
theorem dX5_holdOf_15 : decode cX5_holdOf 15 = .ok (.aload_n 0, 1) := by decide +kernel
theorem dX5_holdOf_16 : decode cX5_holdOf 16 = .ok (.iload_n 2, 1) := by decide +kernel
theorem dX5_holdOf_17 : decode cX5_holdOf 17 = .ok (.invokevirtual 94, 3) := by decide +kernel
theorem dX5_holdOf_20 : decode cX5_holdOf 20 = .ok (.bipush (-10), 2) := by decide +kernel
theorem dX5_holdOf_22 : decode cX5_holdOf 22 = .ok (.if_icmp .ge 9, 3) := by decide +kernel
theorem dX5_holdOf_25 : decode cX5_holdOf 25 = .ok (.iload_n 3, 1) := by decide +kernel
theorem dX5_holdOf_26 : decode cX5_holdOf 26 = .ok (.iconst 2, 1) := by decide +kernel
theorem dX5_holdOf_27 : decode cX5_holdOf 27 = .ok (.idiv, 1) := by decide +kernel
theorem dX5_holdOf_28 : decode cX5_holdOf 28 = .ok (.goto 4, 3) := by decide +kernel
theorem dX5_holdOf_31 : decode cX5_holdOf 31 = .ok (.iload_n 3, 1) := by decide +kernel
theorem dX5_holdOf_32 : decode cX5_holdOf 32 = .ok (.istore_n 3, 1) := by decide +kernel
theorem dX5_holdOf_33 : decode cX5_holdOf 33 = .ok (.aload_n 0, 1) := by decide +kernel
theorem dX5_holdOf_34 : decode cX5_holdOf 34 = .ok (.getfield 20, 3) := by decide +kernel
theorem dX5_holdOf_37 : decode cX5_holdOf 37 = .ok (.iload_n 1, 1) := by decide +kernel
theorem dX5_holdOf_38 : decode cX5_holdOf 38 = .ok (.iaload, 1) := by decide +kernel
theorem dX5_holdOf_39 : decode cX5_holdOf 39 = .ok (.ifCond .le 14, 3) := by decide +kernel
theorem dX5_holdOf_42 : decode cX5_holdOf 42 = .ok (.iload_n 3, 1) := by decide +kernel
theorem dX5_holdOf_43 : decode cX5_holdOf 43 = .ok (.aload_n 0, 1) := by decide +kernel
theorem dX5_holdOf_44 : decode cX5_holdOf 44 = .ok (.getfield 26, 3) := by decide +kernel
theorem dX5_holdOf_47 : decode cX5_holdOf 47 = .ok (.iload_n 1, 1) := by decide +kernel
theorem dX5_holdOf_48 : decode cX5_holdOf 48 = .ok (.iaload, 1) := by decide +kernel
theorem dX5_holdOf_49 : decode cX5_holdOf 49 = .ok (.imul, 1) := by decide +kernel
theorem dX5_holdOf_50 : decode cX5_holdOf 50 = .ok (.goto 4, 3) := by decide +kernel
theorem dX5_holdOf_53 : decode cX5_holdOf 53 = .ok (.iload_n 3, 1) := by decide +kernel
theorem dX5_holdOf_54 : decode cX5_holdOf 54 = .ok (.istore_n 3, 1) := by decide +kernel
theorem dX5_holdOf_55 : decode cX5_holdOf 55 = .ok (.aload_n 0, 1) := by decide +kernel
theorem dX5_holdOf_56 : decode cX5_holdOf 56 = .ok (.getfield 20, 3) := by decide +kernel
theorem dX5_holdOf_59 : decode cX5_holdOf 59 = .ok (.iload_n 1, 1) := by decide +kernel
theorem dX5_holdOf_60 : decode cX5_holdOf 60 = .ok (.iaload, 1) := by decide +kernel
theorem dX5_holdOf_61 : decode cX5_holdOf 61 = .ok (.iconst 2, 1) := by decide +kernel
theorem dX5_holdOf_62 : decode cX5_holdOf 62 = .ok (.if_icmp .ne 17, 3) := by decide +kernel
theorem dX5_holdOf_65 : decode cX5_holdOf 65 = .ok (.iload_n 3, 1) := by decide +kernel
theorem dX5_holdOf_66 : decode cX5_holdOf 66 = .ok (.aload_n 0, 1) := by decide +kernel
theorem dX5_holdOf_67 : decode cX5_holdOf 67 = .ok (.getfield 29, 3) := by decide +kernel
theorem dX5_holdOf_70 : decode cX5_holdOf 70 = .ok (.iload_n 1, 1) := by decide +kernel
theorem dX5_holdOf_71 : decode cX5_holdOf 71 = .ok (.iaload, 1) := by decide +kernel
theorem dX5_holdOf_72 : decode cX5_holdOf 72 = .ok (.imul, 1) := by decide +kernel
theorem dX5_holdOf_73 : decode cX5_holdOf 73 = .ok (.bipush 10, 2) := by decide +kernel
theorem dX5_holdOf_75 : decode cX5_holdOf 75 = .ok (.idiv, 1) := by decide +kernel
theorem dX5_holdOf_76 : decode cX5_holdOf 76 = .ok (.goto 4, 3) := by decide +kernel
theorem dX5_holdOf_79 : decode cX5_holdOf 79 = .ok (.iload_n 3, 1) := by decide +kernel
theorem dX5_holdOf_80 : decode cX5_holdOf 80 = .ok (.ireturn, 1) := by decide +kernel
set_option maxRecDepth 20000 in
theorem ggX5_isFluid_X5_in : GoodIn wsX5_isFluid wsX5_in := goodIn_r _ [5] (by decide +kernel) (by decide +kernel)
set_option maxRecDepth 20000 in
theorem gX5_isFluid_X5_in : GoodIn wsX5_isFluid (va_wsS RX5 90 yX5_in wsX5_in) := goodIn_app (goodIn_of _ (by decide +kernel)) ggX5_isFluid_X5_in
theorem dX5_isFluid_0 : decode cX5_isFluid 0 = .ok (.iload_n 1, 1) := by decide +kernel
theorem dX5_isFluid_1 : decode cX5_isFluid 1 = .ok (.iconst 0, 1) := by decide +kernel
theorem dX5_isFluid_2 : decode cX5_isFluid 2 = .ok (.aload_n 0, 1) := by decide +kernel
theorem dX5_isFluid_3 : decode cX5_isFluid 3 = .ok (.getfield 101, 3) := by decide +kernel
theorem dX5_isFluid_6 : decode cX5_isFluid 6 = .ok (.iconst 1, 1) := by decide +kernel
theorem dX5_isFluid_7 : decode cX5_isFluid 7 = .ok (.isub, 1) := by decide +kernel
theorem dX5_isFluid_8 : decode cX5_isFluid 8 = .ok (.invokestatic 90, 3) := by decide +kernel
theorem dX5_isFluid_11 : decode cX5_isFluid 11 = .ok (.ireturn, 1) := by decide +kernel
set_option maxRecDepth 20000 in
theorem ggX5_hold_X5_isFluid : GoodIn wsX5_hold wsX5_isFluid := goodIn_r _ [9, 10, 11, 12, 8, 13, 32, 33, 34, 35, 36, 37, 38, 39, 40, 41, 42, 43, 44, 45, 46, 47, 48, 49, 50, 51, 52, 53, 54, 55, 56, 57, 58, 59, 60, 61, 62, 63] (by decide +kernel) (by decide +kernel)
set_option maxRecDepth 20000 in
theorem gX5_hold_X5_isFluid : GoodIn wsX5_hold (wsV RX5 104 RX5 yX5_isFluid wsX5_isFluid) := goodIn_app (goodIn_of _ (by decide +kernel)) ggX5_hold_X5_isFluid
set_option maxRecDepth 20000 in
theorem ggX5_hold_X5_in : GoodIn wsX5_hold wsX5_in := goodIn_r _ [13] (by decide +kernel) (by decide +kernel)
set_option maxRecDepth 20000 in
theorem gX5_hold_X5_in : GoodIn wsX5_hold (va_wsS RX5 90 yX5_in wsX5_in) := goodIn_app (goodIn_of _ (by decide +kernel)) ggX5_hold_X5_in
set_option maxRecDepth 20000 in
theorem ggX5_hold_X5_holdOf : GoodIn wsX5_hold wsX5_holdOf := goodIn_r _ [17, 18, 2, 19, 20, 21, 22, 23, 8, 24, 25, 26, 27, 28, 29, 30, 31, 32, 33, 34, 35, 36, 37, 38, 39, 40, 41, 42, 43, 44, 45, 46, 47, 48, 49, 50, 51, 52, 53, 54, 55, 56, 57, 58, 59, 60, 61, 62, 63] (by decide +kernel) (by decide +kernel)
set_option maxRecDepth 20000 in
theorem gX5_hold_X5_holdOf : GoodIn wsX5_hold (wsV RX5 116 RX5 yX5_holdOf wsX5_holdOf) := goodIn_app (goodIn_of _ (by decide +kernel)) ggX5_hold_X5_holdOf
theorem dX5_hold_0 : decode cX5_hold 0 = .ok (.aload_n 0, 1) := by decide +kernel
theorem dX5_hold_1 : decode cX5_hold 1 = .ok (.iload_n 1, 1) := by decide +kernel
theorem dX5_hold_2 : decode cX5_hold 2 = .ok (.invokevirtual 104, 3) := by decide +kernel
theorem dX5_hold_5 : decode cX5_hold 5 = .ok (.ifCond .eq 14, 3) := by decide +kernel
theorem dX5_hold_8 : decode cX5_hold 8 = .ok (.iload_n 2, 1) := by decide +kernel
theorem dX5_hold_9 : decode cX5_hold 9 = .ok (.iconst 0, 1) := by decide +kernel
theorem dX5_hold_10 : decode cX5_hold 10 = .ok (.sipush 299, 3) := by decide +kernel
theorem dX5_hold_13 : decode cX5_hold 13 = .ok (.invokestatic 90, 3) := by decide +kernel
theorem dX5_hold_16 : decode cX5_hold 16 = .ok (.ifCond .ne 6, 3) := by decide +kernel
theorem dX5_hold_19 : decode cX5_hold 19 = .ok (.bipush (-100), 2) := by decide +kernel
theorem dX5_hold_21 : decode cX5_hold 21 = .ok (.ireturn, 1) := by decide +kernel
theorem dX5_hold_22 : decode cX5_hold 22 = .ok (.aload_n 0, 1) := by decide +kernel
theorem dX5_hold_23 : decode cX5_hold 23 = .ok (.dup, 1) := by decide +kernel
theorem dX5_hold_24 : decode cX5_hold 24 = .ok (.getfield 108, 3) := by decide +kernel
theorem dX5_hold_27 : decode cX5_hold 27 = .ok (.aload_n 0, 1) := by decide +kernel
theorem dX5_hold_28 : decode cX5_hold 28 = .ok (.getfield 20, 3) := by decide +kernel
theorem dX5_hold_31 : decode cX5_hold 31 = .ok (.iload_n 1, 1) := by decide +kernel
theorem dX5_hold_32 : decode cX5_hold 32 = .ok (.iaload, 1) := by decide +kernel
theorem dX5_hold_33 : decode cX5_hold 33 = .ok (.ifCond .ne 7, 3) := by decide +kernel
theorem dX5_hold_36 : decode cX5_hold 36 = .ok (.lconst 1, 1) := by decide +kernel
theorem dX5_hold_37 : decode cX5_hold 37 = .ok (.goto 22, 3) := by decide +kernel
theorem dX5_hold_40 : decode cX5_hold 40 = .ok (.aload_n 0, 1) := by decide +kernel
theorem dX5_hold_41 : decode cX5_hold 41 = .ok (.getfield 20, 3) := by decide +kernel
theorem dX5_hold_44 : decode cX5_hold 44 = .ok (.iload_n 1, 1) := by decide +kernel
theorem dX5_hold_45 : decode cX5_hold 45 = .ok (.iaload, 1) := by decide +kernel
theorem dX5_hold_46 : decode cX5_hold 46 = .ok (.iconst 1, 1) := by decide +kernel
theorem dX5_hold_47 : decode cX5_hold 47 = .ok (.if_icmp .ne 9, 3) := by decide +kernel
theorem dX5_hold_50 : decode cX5_hold 50 = .ok (.ldc2_w 112, 3) := by decide +kernel
theorem dX5_hold_53 : decode cX5_hold 53 = .ok (.goto 6, 3) := by decide +kernel
theorem dX5_hold_56 : decode cX5_hold 56 = .ok (.ldc2_w 114, 3) := by decide +kernel
theorem dX5_hold_59 : decode cX5_hold 59 = .ok (.ladd, 1) := by decide +kernel
theorem dX5_hold_60 : decode cX5_hold 60 = .ok (.putfield 108, 3) := by decide +kernel
theorem dX5_hold_63 : decode cX5_hold 63 = .ok (.aload_n 0, 1) := by decide +kernel
theorem dX5_hold_64 : decode cX5_hold 64 = .ok (.iload_n 1, 1) := by decide +kernel
theorem dX5_hold_65 : decode cX5_hold 65 = .ok (.iload_n 2, 1) := by decide +kernel
theorem dX5_hold_66 : decode cX5_hold 66 = .ok (.invokevirtual 116, 3) := by decide +kernel
theorem dX5_hold_69 : decode cX5_hold 69 = .ok (.ireturn, 1) := by decide +kernel
set_option maxRecDepth 20000 in
theorem ggX5_fill_X5_isFluid : GoodIn wsX5_fill wsX5_isFluid := goodIn_r _ [6, 7, 8, 9, 5, 10, 11, 12, 13, 14, 15, 16, 17, 18, 19, 20, 21, 22, 23, 24, 25, 26, 27, 28, 29, 30, 31, 32, 33, 34, 35, 36, 37, 38, 39, 40, 41, 42] (by decide +kernel) (by decide +kernel)
set_option maxRecDepth 20000 in
theorem gX5_fill_X5_isFluid : GoodIn wsX5_fill (wsV RX5 104 RX5 yX5_isFluid wsX5_isFluid) := goodIn_app (goodIn_of _ (by decide +kernel)) ggX5_fill_X5_isFluid
set_option maxRecDepth 20000 in
theorem ggX5_fill_X5_in : GoodIn wsX5_fill wsX5_in := goodIn_r _ [10] (by decide +kernel) (by decide +kernel)
set_option maxRecDepth 20000 in
theorem gX5_fill_X5_in : GoodIn wsX5_fill (va_wsS RX5 90 yX5_in wsX5_in) := goodIn_app (goodIn_of _ (by decide +kernel)) ggX5_fill_X5_in
theorem dX5_fill_0 : decode cX5_fill 0 = .ok (.aload_n 0, 1) := by decide +kernel
theorem dX5_fill_1 : decode cX5_fill 1 = .ok (.iload_n 1, 1) := by decide +kernel
theorem dX5_fill_2 : decode cX5_fill 2 = .ok (.invokevirtual 104, 3) := by decide +kernel
theorem dX5_fill_5 : decode cX5_fill 5 = .ok (.ifCond .eq 14, 3) := by decide +kernel
theorem dX5_fill_8 : decode cX5_fill 8 = .ok (.iload_n 2, 1) := by decide +kernel
theorem dX5_fill_9 : decode cX5_fill 9 = .ok (.iconst 0, 1) := by decide +kernel
theorem dX5_fill_10 : decode cX5_fill 10 = .ok (.sipush 2000, 3) := by decide +kernel
theorem dX5_fill_13 : decode cX5_fill 13 = .ok (.invokestatic 90, 3) := by decide +kernel
theorem dX5_fill_16 : decode cX5_fill 16 = .ok (.ifCond .ne 6, 3) := by decide +kernel
theorem dX5_fill_19 : decode cX5_fill 19 = .ok (.bipush (-100), 2) := by decide +kernel
theorem dX5_fill_21 : decode cX5_fill 21 = .ok (.ireturn, 1) := by decide +kernel
theorem dX5_fill_22 : decode cX5_fill 22 = .ok (.aload_n 0, 1) := by decide +kernel
theorem dX5_fill_23 : decode cX5_fill 23 = .ok (.getfield 32, 3) := by decide +kernel
theorem dX5_fill_26 : decode cX5_fill 26 = .ok (.iload_n 1, 1) := by decide +kernel
theorem dX5_fill_27 : decode cX5_fill 27 = .ok (.iaload, 1) := by decide +kernel
theorem dX5_fill_28 : decode cX5_fill 28 = .ok (.istore_n 3, 1) := by decide +kernel
theorem dX5_fill_29 : decode cX5_fill 29 = .ok (.aload_n 0, 1) := by decide +kernel
theorem dX5_fill_30 : decode cX5_fill 30 = .ok (.getfield 32, 3) := by decide +kernel
theorem dX5_fill_33 : decode cX5_fill 33 = .ok (.iload_n 1, 1) := by decide +kernel
theorem dX5_fill_34 : decode cX5_fill 34 = .ok (.iload_n 2, 1) := by decide +kernel
theorem dX5_fill_35 : decode cX5_fill 35 = .ok (.iastore, 1) := by decide +kernel
theorem dX5_fill_36 : decode cX5_fill 36 = .ok (.iload_n 3, 1) := by decide +kernel
theorem dX5_fill_37 : decode cX5_fill 37 = .ok (.ireturn, 1) := by decide +kernel
set_option maxRecDepth 20000 in
theorem ggX5_litres_X5_isFluid : GoodIn wsX5_litres wsX5_isFluid := goodIn_r _ [6, 7, 8, 9, 5, 10, 11, 12, 13, 14, 15, 16, 17, 18, 19, 20, 21, 22, 23, 24, 25, 26, 27, 28, 29, 30, 31, 32, 33, 34, 35, 36, 37, 38, 39, 40, 41, 42] (by decide +kernel) (by decide +kernel)
set_option maxRecDepth 20000 in
theorem gX5_litres_X5_isFluid : GoodIn wsX5_litres (wsV RX5 104 RX5 yX5_isFluid wsX5_isFluid) := goodIn_app (goodIn_of _ (by decide +kernel)) ggX5_litres_X5_isFluid
theorem dX5_litres_0 : decode cX5_litres 0 = .ok (.aload_n 0, 1) := by decide +kernel
theorem dX5_litres_1 : decode cX5_litres 1 = .ok (.iload_n 1, 1) := by decide +kernel
theorem dX5_litres_2 : decode cX5_litres 2 = .ok (.invokevirtual 104, 3) := by decide +kernel
theorem dX5_litres_5 : decode cX5_litres 5 = .ok (.ifCond .eq 12, 3) := by decide +kernel
theorem dX5_litres_8 : decode cX5_litres 8 = .ok (.aload_n 0, 1) := by decide +kernel
theorem dX5_litres_9 : decode cX5_litres 9 = .ok (.getfield 32, 3) := by decide +kernel
theorem dX5_litres_12 : decode cX5_litres 12 = .ok (.iload_n 1, 1) := by decide +kernel
theorem dX5_litres_13 : decode cX5_litres 13 = .ok (.iaload, 1) := by decide +kernel
theorem dX5_litres_14 : decode cX5_litres 14 = .ok (.goto 5, 3) := by decide +kernel
theorem dX5_litres_17 : decode cX5_litres 17 = .ok (.bipush (-100), 2) := by decide +kernel
theorem dX5_litres_19 : decode cX5_litres 19 = .ok (.ireturn, 1) := by decide +kernel
set_option maxRecDepth 20000 in
theorem ggX5_set_X5_in : GoodIn wsX5_set wsX5_in := goodIn_r _ [8] (by decide +kernel) (by decide +kernel)
set_option maxRecDepth 20000 in
theorem gX5_set_X5_in : GoodIn wsX5_set (va_wsS RX5 90 yX5_in wsX5_in) := goodIn_app (goodIn_of _ (by decide +kernel)) ggX5_set_X5_in
theorem dX5_set_0 : decode cX5_set 0 = .ok (.bipush (-100), 2) := by decide +kernel
theorem dX5_set_2 : decode cX5_set 2 = .ok (.istore_n 3, 1) := by decide +kernel
theorem dX5_set_3 : decode cX5_set 3 = .ok (.iload_n 1, 1) := by decide +kernel
theorem dX5_set_4 : decode cX5_set 4 = .ok (.ifCond .ne 52, 3) := by decide +kernel
theorem dX5_set_7 : decode cX5_set 7 = .ok (.iload_n 2, 1) := by decide +kernel
theorem dX5_set_8 : decode cX5_set 8 = .ok (.iconst 1, 1) := by decide +kernel
theorem dX5_set_9 : decode cX5_set 9 = .ok (.iconst 3, 1) := by decide +kernel
theorem dX5_set_10 : decode cX5_set 10 = .ok (.invokestatic 90, 3) := by decide +kernel
theorem dX5_set_13 : decode cX5_set 13 = .ok (.ifCond .eq 43, 3) := by decide +kernel
theorem dX5_set_16 : decode cX5_set 16 = .ok (.aload_n 0, 1) := by decide +kernel
theorem dX5_set_17 : decode cX5_set 17 = .ok (.getfield 45, 3) := by decide +kernel
theorem dX5_set_20 : decode cX5_set 20 = .ok (.iconst 0, 1) := by decide +kernel
theorem dX5_set_21 : decode cX5_set 21 = .ok (.iaload, 1) := by decide +kernel
theorem dX5_set_22 : decode cX5_set 22 = .ok (.aload_n 0, 1) := by decide +kernel
theorem dX5_set_23 : decode cX5_set 23 = .ok (.getfield 45, 3) := by decide +kernel
theorem dX5_set_26 : decode cX5_set 26 = .ok (.iconst 1, 1) := by decide +kernel
theorem dX5_set_27 : decode cX5_set 27 = .ok (.iaload, 1) := by decide +kernel
theorem dX5_set_28 : decode cX5_set 28 = .ok (.iadd, 1) := by decide +kernel
theorem dX5_set_29 : decode cX5_set 29 = .ok (.aload_n 0, 1) := by decide +kernel
theorem dX5_set_30 : decode cX5_set 30 = .ok (.getfield 45, 3) := by decide +kernel
theorem dX5_set_33 : decode cX5_set 33 = .ok (.iconst 2, 1) := by decide +kernel
theorem dX5_set_34 : decode cX5_set 34 = .ok (.iaload, 1) := by decide +kernel
theorem dX5_set_35 : decode cX5_set 35 = .ok (.iadd, 1) := by decide +kernel
theorem dX5_set_36 : decode cX5_set 36 = .ok (.ifCond .le 7, 3) := by decide +kernel
theorem dX5_set_39 : decode cX5_set 39 = .ok (.sipush (-200), 3) := by decide +kernel
theorem dX5_set_42 : decode cX5_set 42 = .ok (.ireturn, 1) := by decide +kernel
theorem dX5_set_43 : decode cX5_set 43 = .ok (.aload_n 0, 1) := by decide +kernel
theorem dX5_set_44 : decode cX5_set 44 = .ok (.getfield 35, 3) := by decide +kernel
theorem dX5_set_47 : decode cX5_set 47 = .ok (.istore_n 3, 1) := by decide +kernel
theorem dX5_set_48 : decode cX5_set 48 = .ok (.aload_n 0, 1) := by decide +kernel
theorem dX5_set_49 : decode cX5_set 49 = .ok (.iload_n 2, 1) := by decide +kernel
theorem dX5_set_50 : decode cX5_set 50 = .ok (.putfield 35, 3) := by decide +kernel
theorem dX5_set_53 : decode cX5_set 53 = .ok (.goto 58, 3) := by decide +kernel
theorem dX5_set_56 : decode cX5_set 56 = .ok (.iload_n 1, 1) := by decide +kernel
theorem dX5_set_57 : decode cX5_set 57 = .ok (.iconst 1, 1) := by decide +kernel
theorem dX5_set_58 : decode cX5_set 58 = .ok (.if_icmp .ne 28, 3) := by decide +kernel
theorem dX5_set_61 : decode cX5_set 61 = .ok (.iload_n 2, 1) := by decide +kernel
theorem dX5_set_62 : decode cX5_set 62 = .ok (.bipush 10, 2) := by decide +kernel
theorem dX5_set_64 : decode cX5_set 64 = .ok (.sipush 1000, 3) := by decide +kernel
theorem dX5_set_67 : decode cX5_set 67 = .ok (.invokestatic 90, 3) := by decide +kernel
theorem dX5_set_70 : decode cX5_set 70 = .ok (.ifCond .eq 16, 3) := by decide +kernel
theorem dX5_set_73 : decode cX5_set 73 = .ok (.aload_n 0, 1) := by decide +kernel
theorem dX5_set_74 : decode cX5_set 74 = .ok (.getfield 39, 3) := by decide +kernel
theorem dX5_set_77 : decode cX5_set 77 = .ok (.istore_n 3, 1) := by decide +kernel
theorem dX5_set_78 : decode cX5_set 78 = .ok (.aload_n 0, 1) := by decide +kernel
theorem dX5_set_79 : decode cX5_set 79 = .ok (.iload_n 2, 1) := by decide +kernel
theorem dX5_set_80 : decode cX5_set 80 = .ok (.putfield 39, 3) := by decide +kernel
theorem dX5_set_83 : decode cX5_set 83 = .ok (.goto 28, 3) := by decide +kernel
theorem dX5_set_86 : decode cX5_set 86 = .ok (.iload_n 1, 1) := by decide +kernel
theorem dX5_set_87 : decode cX5_set 87 = .ok (.iconst 2, 1) := by decide +kernel
theorem dX5_set_88 : decode cX5_set 88 = .ok (.if_icmp .ne 23, 3) := by decide +kernel
theorem dX5_set_91 : decode cX5_set 91 = .ok (.iload_n 2, 1) := by decide +kernel
theorem dX5_set_92 : decode cX5_set 92 = .ok (.iconst 0, 1) := by decide +kernel
theorem dX5_set_93 : decode cX5_set 93 = .ok (.bipush 50, 2) := by decide +kernel
theorem dX5_set_95 : decode cX5_set 95 = .ok (.invokestatic 90, 3) := by decide +kernel
theorem dX5_set_98 : decode cX5_set 98 = .ok (.ifCond .eq 13, 3) := by decide +kernel
theorem dX5_set_101 : decode cX5_set 101 = .ok (.aload_n 0, 1) := by decide +kernel
theorem dX5_set_102 : decode cX5_set 102 = .ok (.getfield 42, 3) := by decide +kernel
theorem dX5_set_105 : decode cX5_set 105 = .ok (.istore_n 3, 1) := by decide +kernel
theorem dX5_set_106 : decode cX5_set 106 = .ok (.aload_n 0, 1) := by decide +kernel
theorem dX5_set_107 : decode cX5_set 107 = .ok (.iload_n 2, 1) := by decide +kernel
theorem dX5_set_108 : decode cX5_set 108 = .ok (.putfield 42, 3) := by decide +kernel
theorem dX5_set_111 : decode cX5_set 111 = .ok (.iload_n 3, 1) := by decide +kernel
theorem dX5_set_112 : decode cX5_set 112 = .ok (.ireturn, 1) := by decide +kernel
set_option maxRecDepth 20000 in
theorem ggX5_jet_X5_in : GoodIn wsX5_jet wsX5_in := goodIn_r _ [15] (by decide +kernel) (by decide +kernel)
set_option maxRecDepth 20000 in
theorem gX5_jet_X5_in : GoodIn wsX5_jet (va_wsS RX5 90 yX5_in wsX5_in) := goodIn_app (goodIn_of _ (by decide +kernel)) ggX5_jet_X5_in
set_option maxRecDepth 20000 in
theorem ggX5_jet_X5_isFluid : GoodIn wsX5_jet wsX5_isFluid := goodIn_r _ [19, 20, 12, 13, 14, 15, 21, 22, 23, 24, 25, 26, 27, 28, 29, 30, 31, 32, 33, 34, 35, 36, 37, 38, 39, 40, 41, 42, 43, 44, 45, 46, 47, 48, 49, 50, 51, 52] (by decide +kernel) (by decide +kernel)
set_option maxRecDepth 20000 in
theorem gX5_jet_X5_isFluid : GoodIn wsX5_jet (wsV RX5 104 RX5 yX5_isFluid wsX5_isFluid) := goodIn_app (goodIn_of _ (by decide +kernel)) ggX5_jet_X5_isFluid
theorem dX5_jet_0 : decode cX5_jet 0 = .ok (.iload_n 1, 1) := by decide +kernel
theorem dX5_jet_1 : decode cX5_jet 1 = .ok (.iconst 1, 1) := by decide +kernel
theorem dX5_jet_2 : decode cX5_jet 2 = .ok (.iconst 5, 1) := by decide +kernel
theorem dX5_jet_3 : decode cX5_jet 3 = .ok (.invokestatic 90, 3) := by decide +kernel
theorem dX5_jet_6 : decode cX5_jet 6 = .ok (.ifCond .eq 36, 3) := by decide +kernel
theorem dX5_jet_9 : decode cX5_jet 9 = .ok (.iload_n 2, 1) := by decide +kernel
theorem dX5_jet_10 : decode cX5_jet 10 = .ok (.aload_n 0, 1) := by decide +kernel
theorem dX5_jet_11 : decode cX5_jet 11 = .ok (.getfield 87, 3) := by decide +kernel
theorem dX5_jet_14 : decode cX5_jet 14 = .ok (.sipush 299, 3) := by decide +kernel
theorem dX5_jet_17 : decode cX5_jet 17 = .ok (.invokestatic 90, 3) := by decide +kernel
theorem dX5_jet_20 : decode cX5_jet 20 = .ok (.ifCond .eq 22, 3) := by decide +kernel
theorem dX5_jet_23 : decode cX5_jet 23 = .ok (.iload_n 3, 1) := by decide +kernel
theorem dX5_jet_24 : decode cX5_jet 24 = .ok (.iconst 1, 1) := by decide +kernel
theorem dX5_jet_25 : decode cX5_jet 25 = .ok (.bipush 20, 2) := by decide +kernel
theorem dX5_jet_27 : decode cX5_jet 27 = .ok (.invokestatic 90, 3) := by decide +kernel
theorem dX5_jet_30 : decode cX5_jet 30 = .ok (.ifCond .eq 12, 3) := by decide +kernel
theorem dX5_jet_33 : decode cX5_jet 33 = .ok (.aload_n 0, 1) := by decide +kernel
theorem dX5_jet_34 : decode cX5_jet 34 = .ok (.iload 4, 2) := by decide +kernel
theorem dX5_jet_36 : decode cX5_jet 36 = .ok (.invokevirtual 104, 3) := by decide +kernel
theorem dX5_jet_39 : decode cX5_jet 39 = .ok (.ifCond .ne 6, 3) := by decide +kernel
theorem dX5_jet_42 : decode cX5_jet 42 = .ok (.bipush (-100), 2) := by decide +kernel
theorem dX5_jet_44 : decode cX5_jet 44 = .ok (.ireturn, 1) := by decide +kernel
theorem dX5_jet_45 : decode cX5_jet 45 = .ok (.aload_n 0, 1) := by decide +kernel
theorem dX5_jet_46 : decode cX5_jet 46 = .ok (.getfield 120, 3) := by decide +kernel
theorem dX5_jet_49 : decode cX5_jet 49 = .ok (.bipush 12, 2) := by decide +kernel
theorem dX5_jet_51 : decode cX5_jet 51 = .ok (.if_icmp .ne 7, 3) := by decide +kernel
theorem dX5_jet_54 : decode cX5_jet 54 = .ok (.sipush (-300), 3) := by decide +kernel
theorem dX5_jet_57 : decode cX5_jet 57 = .ok (.ireturn, 1) := by decide +kernel
theorem dX5_jet_58 : decode cX5_jet 58 = .ok (.aload_n 0, 1) := by decide +kernel
theorem dX5_jet_59 : decode cX5_jet 59 = .ok (.getfield 48, 3) := by decide +kernel
theorem dX5_jet_62 : decode cX5_jet 62 = .ok (.aload_n 0, 1) := by decide +kernel
theorem dX5_jet_63 : decode cX5_jet 63 = .ok (.getfield 120, 3) := by decide +kernel
theorem dX5_jet_66 : decode cX5_jet 66 = .ok (.iload_n 1, 1) := by decide +kernel
theorem dX5_jet_67 : decode cX5_jet 67 = .ok (.iastore, 1) := by decide +kernel
theorem dX5_jet_68 : decode cX5_jet 68 = .ok (.aload_n 0, 1) := by decide +kernel
theorem dX5_jet_69 : decode cX5_jet 69 = .ok (.getfield 51, 3) := by decide +kernel
theorem dX5_jet_72 : decode cX5_jet 72 = .ok (.aload_n 0, 1) := by decide +kernel
theorem dX5_jet_73 : decode cX5_jet 73 = .ok (.getfield 120, 3) := by decide +kernel
theorem dX5_jet_76 : decode cX5_jet 76 = .ok (.iload_n 2, 1) := by decide +kernel
theorem dX5_jet_77 : decode cX5_jet 77 = .ok (.iastore, 1) := by decide +kernel
theorem dX5_jet_78 : decode cX5_jet 78 = .ok (.aload_n 0, 1) := by decide +kernel
theorem dX5_jet_79 : decode cX5_jet 79 = .ok (.getfield 54, 3) := by decide +kernel
theorem dX5_jet_82 : decode cX5_jet 82 = .ok (.aload_n 0, 1) := by decide +kernel
theorem dX5_jet_83 : decode cX5_jet 83 = .ok (.getfield 120, 3) := by decide +kernel
theorem dX5_jet_86 : decode cX5_jet 86 = .ok (.iload_n 2, 1) := by decide +kernel
theorem dX5_jet_87 : decode cX5_jet 87 = .ok (.iastore, 1) := by decide +kernel
theorem dX5_jet_88 : decode cX5_jet 88 = .ok (.aload_n 0, 1) := by decide +kernel
theorem dX5_jet_89 : decode cX5_jet 89 = .ok (.getfield 57, 3) := by decide +kernel
theorem dX5_jet_92 : decode cX5_jet 92 = .ok (.aload_n 0, 1) := by decide +kernel
theorem dX5_jet_93 : decode cX5_jet 93 = .ok (.getfield 120, 3) := by decide +kernel
theorem dX5_jet_96 : decode cX5_jet 96 = .ok (.iload_n 3, 1) := by decide +kernel
theorem dX5_jet_97 : decode cX5_jet 97 = .ok (.iastore, 1) := by decide +kernel
theorem dX5_jet_98 : decode cX5_jet 98 = .ok (.aload_n 0, 1) := by decide +kernel
theorem dX5_jet_99 : decode cX5_jet 99 = .ok (.getfield 60, 3) := by decide +kernel
theorem dX5_jet_102 : decode cX5_jet 102 = .ok (.aload_n 0, 1) := by decide +kernel
theorem dX5_jet_103 : decode cX5_jet 103 = .ok (.getfield 120, 3) := by decide +kernel
theorem dX5_jet_106 : decode cX5_jet 106 = .ok (.iload 4, 2) := by decide +kernel
theorem dX5_jet_108 : decode cX5_jet 108 = .ok (.iastore, 1) := by decide +kernel
theorem dX5_jet_109 : decode cX5_jet 109 = .ok (.aload_n 0, 1) := by decide +kernel
theorem dX5_jet_110 : decode cX5_jet 110 = .ok (.getfield 63, 3) := by decide +kernel
theorem dX5_jet_113 : decode cX5_jet 113 = .ok (.aload_n 0, 1) := by decide +kernel
theorem dX5_jet_114 : decode cX5_jet 114 = .ok (.getfield 120, 3) := by decide +kernel
theorem dX5_jet_117 : decode cX5_jet 117 = .ok (.iconst 0, 1) := by decide +kernel
theorem dX5_jet_118 : decode cX5_jet 118 = .ok (.iastore, 1) := by decide +kernel
theorem dX5_jet_119 : decode cX5_jet 119 = .ok (.aload_n 0, 1) := by decide +kernel
theorem dX5_jet_120 : decode cX5_jet 120 = .ok (.getfield 66, 3) := by decide +kernel
theorem dX5_jet_123 : decode cX5_jet 123 = .ok (.aload_n 0, 1) := by decide +kernel
theorem dX5_jet_124 : decode cX5_jet 124 = .ok (.getfield 120, 3) := by decide +kernel
theorem dX5_jet_127 : decode cX5_jet 127 = .ok (.sipush (-900), 3) := by decide +kernel
theorem dX5_jet_130 : decode cX5_jet 130 = .ok (.iastore, 1) := by decide +kernel
theorem dX5_jet_131 : decode cX5_jet 131 = .ok (.aload_n 0, 1) := by decide +kernel
theorem dX5_jet_132 : decode cX5_jet 132 = .ok (.getfield 72, 3) := by decide +kernel
theorem dX5_jet_135 : decode cX5_jet 135 = .ok (.aload_n 0, 1) := by decide +kernel
theorem dX5_jet_136 : decode cX5_jet 136 = .ok (.getfield 120, 3) := by decide +kernel
theorem dX5_jet_139 : decode cX5_jet 139 = .ok (.iconst 0, 1) := by decide +kernel
theorem dX5_jet_140 : decode cX5_jet 140 = .ok (.iastore, 1) := by decide +kernel
theorem dX5_jet_141 : decode cX5_jet 141 = .ok (.aload_n 0, 1) := by decide +kernel
theorem dX5_jet_142 : decode cX5_jet 142 = .ok (.getfield 75, 3) := by decide +kernel
theorem dX5_jet_145 : decode cX5_jet 145 = .ok (.aload_n 0, 1) := by decide +kernel
theorem dX5_jet_146 : decode cX5_jet 146 = .ok (.getfield 120, 3) := by decide +kernel
theorem dX5_jet_149 : decode cX5_jet 149 = .ok (.sipush (-900), 3) := by decide +kernel
theorem dX5_jet_152 : decode cX5_jet 152 = .ok (.iastore, 1) := by decide +kernel
theorem dX5_jet_153 : decode cX5_jet 153 = .ok (.aload_n 0, 1) := by decide +kernel
theorem dX5_jet_154 : decode cX5_jet 154 = .ok (.dup, 1) := by decide +kernel
theorem dX5_jet_155 : decode cX5_jet 155 = .ok (.getfield 120, 3) := by decide +kernel
theorem dX5_jet_158 : decode cX5_jet 158 = .ok (.iconst 1, 1) := by decide +kernel
theorem dX5_jet_159 : decode cX5_jet 159 = .ok (.iadd, 1) := by decide +kernel
theorem dX5_jet_160 : decode cX5_jet 160 = .ok (.putfield 120, 3) := by decide +kernel
theorem dX5_jet_163 : decode cX5_jet 163 = .ok (.aload_n 0, 1) := by decide +kernel
theorem dX5_jet_164 : decode cX5_jet 164 = .ok (.getfield 120, 3) := by decide +kernel
theorem dX5_jet_167 : decode cX5_jet 167 = .ok (.iconst 1, 1) := by decide +kernel
theorem dX5_jet_168 : decode cX5_jet 168 = .ok (.isub, 1) := by decide +kernel
theorem dX5_jet_169 : decode cX5_jet 169 = .ok (.ireturn, 1) := by decide +kernel
theorem dX5_leaves_0 : decode cX5_leaves 0 = .ok (.aload_n 0, 1) := by decide +kernel
