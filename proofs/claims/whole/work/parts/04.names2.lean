theorem dX0_init_0 : decode cX0_init 0 = .ok (.aload_n 0, 1) := by decide +kernel
theorem dX0_init_1 : decode cX0_init 1 = .ok (.invokespecial 1, 3) := by decide +kernel
theorem dX0_init_4 : decode cX0_init 4 = .ok (.aload_n 0, 1) := by decide +kernel
theorem dX0_init_5 : decode cX0_init 5 = .ok (.iload_n 1, 1) := by decide +kernel
theorem dX0_init_6 : decode cX0_init 6 = .ok (.putfield 7, 3) := by decide +kernel
theorem dX0_init_9 : decode cX0_init 9 = .ok (.aload_n 0, 1) := by decide +kernel
theorem dX0_init_10 : decode cX0_init 10 = .ok (.aload_n 2, 1) := by decide +kernel
theorem dX0_init_11 : decode cX0_init 11 = .ok (.putfield 13, 3) := by decide +kernel
theorem dX0_init_14 : decode cX0_init 14 = .ok (.aload_n 0, 1) := by decide +kernel
theorem dX0_init_15 : decode cX0_init 15 = .ok (.iload_n 3, 1) := by decide +kernel
theorem dX0_init_16 : decode cX0_init 16 = .ok (.putfield 17, 3) := by decide +kernel
theorem dX0_init_19 : decode cX0_init 19 = .ok (.aload_n 0, 1) := by decide +kernel
theorem dX0_init_20 : decode cX0_init 20 = .ok (.iload 4, 2) := by decide +kernel
theorem dX0_init_22 : decode cX0_init 22 = .ok (.putfield 20, 3) := by decide +kernel
theorem dX0_init_25 : decode cX0_init 25 = .ok (.aload_n 0, 1) := by decide +kernel
theorem dX0_init_26 : decode cX0_init 26 = .ok (.iload 5, 2) := by decide +kernel
theorem dX0_init_28 : decode cX0_init 28 = .ok (.putfield 23, 3) := by decide +kernel
theorem dX0_init_31 : decode cX0_init 31 = .ok (.return_, 1) := by decide +kernel
set_option maxRecDepth 20000 in
theorem ggX0_holds_X0_thinHold : GoodIn wsX0_holds wsX0_thinHold := goodIn_r _ [8, 9, 10, 11, 12, 13, 14] (by decide +kernel) (by decide +kernel)
set_option maxRecDepth 20000 in
theorem gX0_holds_X0_thinHold : GoodIn wsX0_holds (wsV RX0 26 RX0 yX0_thinHold wsX0_thinHold) := goodIn_app (goodIn_of _ (by decide +kernel)) ggX0_holds_X0_thinHold
theorem dX0_holds_0 : decode cX0_holds 0 = .ok (.aload_n 0, 1) := by decide +kernel
theorem dX0_holds_1 : decode cX0_holds 1 = .ok (.iload_n 1, 1) := by decide +kernel
theorem dX0_holds_2 : decode cX0_holds 2 = .ok (.iload_n 2, 1) := by decide +kernel
theorem dX0_holds_3 : decode cX0_holds 3 = .ok (.invokevirtual 26, 3) := by decide +kernel
theorem dX0_holds_6 : decode cX0_holds 6 = .ok (.istore_n 3, 1) := by decide +kernel
theorem dX0_holds_7 : decode cX0_holds 7 = .ok (.aload_n 0, 1) := by decide +kernel
theorem dX0_holds_8 : decode cX0_holds 8 = .ok (.getfield 7, 3) := by decide +kernel
theorem dX0_holds_11 : decode cX0_holds 11 = .ok (.ifCond .ne 5, 3) := by decide +kernel
theorem dX0_holds_14 : decode cX0_holds 14 = .ok (.iload_n 3, 1) := by decide +kernel
theorem dX0_holds_15 : decode cX0_holds 15 = .ok (.ireturn, 1) := by decide +kernel
theorem dX0_holds_16 : decode cX0_holds 16 = .ok (.iload_n 3, 1) := by decide +kernel
theorem dX0_holds_17 : decode cX0_holds 17 = .ok (.aload_n 0, 1) := by decide +kernel
theorem dX0_holds_18 : decode cX0_holds 18 = .ok (.getfield 17, 3) := by decide +kernel
theorem dX0_holds_21 : decode cX0_holds 21 = .ok (.imul, 1) := by decide +kernel
theorem dX0_holds_22 : decode cX0_holds 22 = .ok (.istore 4, 2) := by decide +kernel
theorem dX0_holds_24 : decode cX0_holds 24 = .ok (.aload_n 0, 1) := by decide +kernel
theorem dX0_holds_25 : decode cX0_holds 25 = .ok (.getfield 7, 3) := by decide +kernel
theorem dX0_holds_28 : decode cX0_holds 28 = .ok (.iconst 1, 1) := by decide +kernel
theorem dX0_holds_29 : decode cX0_holds 29 = .ok (.if_icmp .ne 8, 3) := by decide +kernel
theorem dX0_holds_32 : decode cX0_holds 32 = .ok (.iload 4, 2) := by decide +kernel
theorem dX0_holds_34 : decode cX0_holds 34 = .ok (.goto 13, 3) := by decide +kernel
theorem dX0_holds_37 : decode cX0_holds 37 = .ok (.iload 4, 2) := by decide +kernel
theorem dX0_holds_39 : decode cX0_holds 39 = .ok (.aload_n 0, 1) := by decide +kernel
theorem dX0_holds_40 : decode cX0_holds 40 = .ok (.getfield 20, 3) := by decide +kernel
theorem dX0_holds_43 : decode cX0_holds 43 = .ok (.imul, 1) := by decide +kernel
theorem dX0_holds_44 : decode cX0_holds 44 = .ok (.bipush 10, 2) := by decide +kernel
theorem dX0_holds_46 : decode cX0_holds 46 = .ok (.idiv, 1) := by decide +kernel
theorem dX0_holds_47 : decode cX0_holds 47 = .ok (.ireturn, 1) := by decide +kernel
theorem dX0_traceOfBodies_0 : decode cX0_traceOfBodies 0 = .ok (.aload_n 0, 1) := by decide +kernel
theorem dX0_traceOfBodies_1 : decode cX0_traceOfBodies 1 = .ok (.getfield 7, 3) := by decide +kernel
theorem dX0_traceOfBodies_4 : decode cX0_traceOfBodies 4 = .ok (.ifCond .ne 5, 3) := by decide +kernel
theorem dX0_traceOfBodies_7 : decode cX0_traceOfBodies 7 = .ok (.iconst 1, 1) := by decide +kernel
theorem dX0_traceOfBodies_8 : decode cX0_traceOfBodies 8 = .ok (.ireturn, 1) := by decide +kernel
theorem dX0_traceOfBodies_9 : decode cX0_traceOfBodies 9 = .ok (.aload_n 0, 1) := by decide +kernel
theorem dX0_traceOfBodies_10 : decode cX0_traceOfBodies 10 = .ok (.getfield 7, 3) := by decide +kernel
theorem dX0_traceOfBodies_13 : decode cX0_traceOfBodies 13 = .ok (.iconst 1, 1) := by decide +kernel
theorem dX0_traceOfBodies_14 : decode cX0_traceOfBodies 14 = .ok (.if_icmp .ne 8, 3) := by decide +kernel
theorem dX0_traceOfBodies_17 : decode cX0_traceOfBodies 17 = .ok (.bipush 11, 2) := by decide +kernel
theorem dX0_traceOfBodies_19 : decode cX0_traceOfBodies 19 = .ok (.goto 5, 3) := by decide +kernel
theorem dX0_traceOfBodies_22 : decode cX0_traceOfBodies 22 = .ok (.bipush 111, 2) := by decide +kernel
theorem dX0_traceOfBodies_24 : decode cX0_traceOfBodies 24 = .ok (.ireturn, 1) := by decide +kernel
theorem dX0_thinHold_0 : decode cX0_thinHold 0 = .ok (.iload_n 2, 1) := by decide +kernel
theorem dX0_thinHold_1 : decode cX0_thinHold 1 = .ok (.ifCond .lt 12, 3) := by decide +kernel
theorem dX0_thinHold_4 : decode cX0_thinHold 4 = .ok (.iload_n 2, 1) := by decide +kernel
theorem dX0_thinHold_5 : decode cX0_thinHold 5 = .ok (.aload_n 0, 1) := by decide +kernel
theorem dX0_thinHold_6 : decode cX0_thinHold 6 = .ok (.getfield 13, 3) := by decide +kernel
theorem dX0_thinHold_9 : decode cX0_thinHold 9 = .ok (.arraylength, 1) := by decide +kernel
theorem dX0_thinHold_10 : decode cX0_thinHold 10 = .ok (.if_icmp .lt 5, 3) := by decide +kernel
theorem dX0_thinHold_13 : decode cX0_thinHold 13 = .ok (.iconst 0, 1) := by decide +kernel
theorem dX0_thinHold_14 : decode cX0_thinHold 14 = .ok (.ireturn, 1) := by decide +kernel
theorem dX0_thinHold_15 : decode cX0_thinHold 15 = .ok (.iload_n 1, 1) := by decide +kernel
theorem dX0_thinHold_16 : decode cX0_thinHold 16 = .ok (.bipush (-10), 2) := by decide +kernel
theorem dX0_thinHold_18 : decode cX0_thinHold 18 = .ok (.if_icmp .ge 14, 3) := by decide +kernel
theorem dX0_thinHold_21 : decode cX0_thinHold 21 = .ok (.aload_n 0, 1) := by decide +kernel
theorem dX0_thinHold_22 : decode cX0_thinHold 22 = .ok (.getfield 13, 3) := by decide +kernel
theorem dX0_thinHold_25 : decode cX0_thinHold 25 = .ok (.iload_n 2, 1) := by decide +kernel
theorem dX0_thinHold_26 : decode cX0_thinHold 26 = .ok (.iaload, 1) := by decide +kernel
theorem dX0_thinHold_27 : decode cX0_thinHold 27 = .ok (.iconst 2, 1) := by decide +kernel
theorem dX0_thinHold_28 : decode cX0_thinHold 28 = .ok (.idiv, 1) := by decide +kernel
theorem dX0_thinHold_29 : decode cX0_thinHold 29 = .ok (.goto 9, 3) := by decide +kernel
theorem dX0_thinHold_32 : decode cX0_thinHold 32 = .ok (.aload_n 0, 1) := by decide +kernel
theorem dX0_thinHold_33 : decode cX0_thinHold 33 = .ok (.getfield 13, 3) := by decide +kernel
theorem dX0_thinHold_36 : decode cX0_thinHold 36 = .ok (.iload_n 2, 1) := by decide +kernel
theorem dX0_thinHold_37 : decode cX0_thinHold 37 = .ok (.iaload, 1) := by decide +kernel
theorem dX0_thinHold_38 : decode cX0_thinHold 38 = .ok (.ireturn, 1) := by decide +kernel
theorem dX1_init_0 : decode cX1_init 0 = .ok (.aload_n 0, 1) := by decide +kernel
theorem dX1_init_1 : decode cX1_init 1 = .ok (.invokespecial 3, 3) := by decide +kernel
theorem dX1_init_4 : decode cX1_init 4 = .ok (.aload_n 0, 1) := by decide +kernel
theorem dX1_init_5 : decode cX1_init 5 = .ok (.sipush (-900), 3) := by decide +kernel
theorem dX1_init_8 : decode cX1_init 8 = .ok (.putfield 9, 3) := by decide +kernel
theorem dX1_init_11 : decode cX1_init 11 = .ok (.aload_n 0, 1) := by decide +kernel
theorem dX1_init_12 : decode cX1_init 12 = .ok (.sipush (-900), 3) := by decide +kernel
theorem dX1_init_15 : decode cX1_init 15 = .ok (.putfield 15, 3) := by decide +kernel
theorem dX1_init_18 : decode cX1_init 18 = .ok (.aload_n 0, 1) := by decide +kernel
theorem dX1_init_19 : decode cX1_init 19 = .ok (.sipush (-900), 3) := by decide +kernel
theorem dX1_init_22 : decode cX1_init 22 = .ok (.putfield 18, 3) := by decide +kernel
theorem dX1_init_25 : decode cX1_init 25 = .ok (.aload_n 0, 1) := by decide +kernel
theorem dX1_init_26 : decode cX1_init 26 = .ok (.iload_n 1, 1) := by decide +kernel
theorem dX1_init_27 : decode cX1_init 27 = .ok (.putfield 21, 3) := by decide +kernel
theorem dX1_init_30 : decode cX1_init 30 = .ok (.aload_n 0, 1) := by decide +kernel
theorem dX1_init_31 : decode cX1_init 31 = .ok (.iload_n 2, 1) := by decide +kernel
theorem dX1_init_32 : decode cX1_init 32 = .ok (.putfield 24, 3) := by decide +kernel
theorem dX1_init_35 : decode cX1_init 35 = .ok (.aload_n 0, 1) := by decide +kernel
theorem dX1_init_36 : decode cX1_init 36 = .ok (.iload_n 3, 1) := by decide +kernel
theorem dX1_init_37 : decode cX1_init 37 = .ok (.putfield 27, 3) := by decide +kernel
theorem dX1_init_40 : decode cX1_init 40 = .ok (.aload_n 0, 1) := by decide +kernel
theorem dX1_init_41 : decode cX1_init 41 = .ok (.iload_n 3, 1) := by decide +kernel
theorem dX1_init_42 : decode cX1_init 42 = .ok (.putfield 30, 3) := by decide +kernel
theorem dX1_init_45 : decode cX1_init 45 = .ok (.aload_n 0, 1) := by decide +kernel
theorem dX1_init_46 : decode cX1_init 46 = .ok (.iload 4, 2) := by decide +kernel
theorem dX1_init_48 : decode cX1_init 48 = .ok (.putfield 33, 3) := by decide +kernel
theorem dX1_init_51 : decode cX1_init 51 = .ok (.aload_n 0, 1) := by decide +kernel
theorem dX1_init_52 : decode cX1_init 52 = .ok (.aload 5, 2) := by decide +kernel
theorem dX1_init_54 : decode cX1_init 54 = .ok (.putfield 36, 3) := by decide +kernel
theorem dX1_init_57 : decode cX1_init 57 = .ok (.return_, 1) := by decide +kernel
set_option maxRecDepth 20000 in
theorem ggX1_state_X1_isGone : GoodIn wsX1_state wsX1_isGone := goodIn_r _ [6, 7, 8, 9, 10, 11, 12, 13, 14, 15, 16, 17, 18] (by decide +kernel) (by decide +kernel)
set_option maxRecDepth 20000 in
theorem gX1_state_X1_isGone : GoodIn wsX1_state (wsV RX1 40 RX1 yX1_isGone wsX1_isGone) := goodIn_app (goodIn_of _ (by decide +kernel)) ggX1_state_X1_isGone
theorem dX1_state_0 : decode cX1_state 0 = .ok (.aload_n 0, 1) := by decide +kernel
theorem dX1_state_1 : decode cX1_state 1 = .ok (.invokevirtual 40, 3) := by decide +kernel
theorem dX1_state_4 : decode cX1_state 4 = .ok (.ifCond .eq 5, 3) := by decide +kernel
theorem dX1_state_7 : decode cX1_state 7 = .ok (.iconst 2, 1) := by decide +kernel
theorem dX1_state_8 : decode cX1_state 8 = .ok (.ireturn, 1) := by decide +kernel
theorem dX1_state_9 : decode cX1_state 9 = .ok (.aload_n 0, 1) := by decide +kernel
theorem dX1_state_10 : decode cX1_state 10 = .ok (.getfield 9, 3) := by decide +kernel
theorem dX1_state_13 : decode cX1_state 13 = .ok (.sipush (-900), 3) := by decide +kernel
theorem dX1_state_16 : decode cX1_state 16 = .ok (.if_icmp .ne 7, 3) := by decide +kernel
theorem dX1_state_19 : decode cX1_state 19 = .ok (.iconst 0, 1) := by decide +kernel
theorem dX1_state_20 : decode cX1_state 20 = .ok (.goto 4, 3) := by decide +kernel
theorem dX1_state_23 : decode cX1_state 23 = .ok (.iconst 1, 1) := by decide +kernel
theorem dX1_state_24 : decode cX1_state 24 = .ok (.ireturn, 1) := by decide +kernel
theorem dX1_isGone_0 : decode cX1_isGone 0 = .ok (.aload_n 0, 1) := by decide +kernel
theorem dX1_isGone_1 : decode cX1_isGone 1 = .ok (.getfield 18, 3) := by decide +kernel
theorem dX1_isGone_4 : decode cX1_isGone 4 = .ok (.sipush (-900), 3) := by decide +kernel
theorem dX1_isGone_7 : decode cX1_isGone 7 = .ok (.if_icmp .eq 7, 3) := by decide +kernel
theorem dX1_isGone_10 : decode cX1_isGone 10 = .ok (.iconst 1, 1) := by decide +kernel
theorem dX1_isGone_11 : decode cX1_isGone 11 = .ok (.goto 4, 3) := by decide +kernel
theorem dX1_isGone_14 : decode cX1_isGone 14 = .ok (.iconst 0, 1) := by decide +kernel
theorem dX1_isGone_15 : decode cX1_isGone 15 = .ok (.ireturn, 1) := by decide +kernel
theorem dX1_treatment_0 : decode cX1_treatment 0 = .ok (.iconst 2, 1) := by decide +kernel
theorem dX1_treatment_1 : decode cX1_treatment 1 = .ok (.aload_n 0, 1) := by decide +kernel
theorem dX1_treatment_2 : decode cX1_treatment 2 = .ok (.getfield 24, 3) := by decide +kernel
theorem dX1_treatment_5 : decode cX1_treatment 5 = .ok (.imul, 1) := by decide +kernel
theorem dX1_treatment_6 : decode cX1_treatment 6 = .ok (.ireturn, 1) := by decide +kernel
theorem dX1_litresNeeded_0 : decode cX1_litresNeeded 0 = .ok (.bipush 10, 2) := by decide +kernel
theorem dX1_litresNeeded_2 : decode cX1_litresNeeded 2 = .ok (.aload_n 0, 1) := by decide +kernel
theorem dX1_litresNeeded_3 : decode cX1_litresNeeded 3 = .ok (.getfield 24, 3) := by decide +kernel
theorem dX1_litresNeeded_6 : decode cX1_litresNeeded 6 = .ok (.imul, 1) := by decide +kernel
theorem dX1_litresNeeded_7 : decode cX1_litresNeeded 7 = .ok (.ireturn, 1) := by decide +kernel
theorem dX1_drainNeeded_0 : decode cX1_drainNeeded 0 = .ok (.bipush 8, 2) := by decide +kernel
theorem dX1_drainNeeded_2 : decode cX1_drainNeeded 2 = .ok (.aload_n 0, 1) := by decide +kernel
theorem dX1_drainNeeded_3 : decode cX1_drainNeeded 3 = .ok (.getfield 24, 3) := by decide +kernel
theorem dX1_drainNeeded_6 : decode cX1_drainNeeded 6 = .ok (.imul, 1) := by decide +kernel
theorem dX1_drainNeeded_7 : decode cX1_drainNeeded 7 = .ok (.ireturn, 1) := by decide +kernel
theorem dX1_begin_0 : decode cX1_begin 0 = .ok (.aload_n 0, 1) := by decide +kernel
theorem dX1_begin_1 : decode cX1_begin 1 = .ok (.iload_n 1, 1) := by decide +kernel
theorem dX1_begin_2 : decode cX1_begin 2 = .ok (.putfield 9, 3) := by decide +kernel
theorem dX1_begin_5 : decode cX1_begin 5 = .ok (.aload_n 0, 1) := by decide +kernel
theorem dX1_begin_6 : decode cX1_begin 6 = .ok (.iload_n 2, 1) := by decide +kernel
theorem dX1_begin_7 : decode cX1_begin 7 = .ok (.putfield 15, 3) := by decide +kernel
theorem dX1_begin_10 : decode cX1_begin 10 = .ok (.aload_n 0, 1) := by decide +kernel
theorem dX1_begin_11 : decode cX1_begin 11 = .ok (.iload_n 2, 1) := by decide +kernel
theorem dX1_begin_12 : decode cX1_begin 12 = .ok (.iload_n 3, 1) := by decide +kernel
theorem dX1_begin_13 : decode cX1_begin 13 = .ok (.iadd, 1) := by decide +kernel
theorem dX1_begin_14 : decode cX1_begin 14 = .ok (.putfield 44, 3) := by decide +kernel
theorem dX1_begin_17 : decode cX1_begin 17 = .ok (.return_, 1) := by decide +kernel
theorem dX1_leave_0 : decode cX1_leave 0 = .ok (.iload_n 1, 1) := by decide +kernel
theorem dX1_leave_1 : decode cX1_leave 1 = .ok (.aload_n 0, 1) := by decide +kernel
theorem dX1_leave_2 : decode cX1_leave 2 = .ok (.getfield 33, 3) := by decide +kernel
theorem dX1_leave_5 : decode cX1_leave 5 = .ok (.iadd, 1) := by decide +kernel
theorem dX1_leave_6 : decode cX1_leave 6 = .ok (.istore_n 2, 1) := by decide +kernel
theorem dX1_leave_7 : decode cX1_leave 7 = .ok (.aload_n 0, 1) := by decide +kernel
theorem dX1_leave_8 : decode cX1_leave 8 = .ok (.sipush (-900), 3) := by decide +kernel
theorem dX1_leave_11 : decode cX1_leave 11 = .ok (.putfield 9, 3) := by decide +kernel
theorem dX1_leave_14 : decode cX1_leave 14 = .ok (.iload_n 2, 1) := by decide +kernel
theorem dX1_leave_15 : decode cX1_leave 15 = .ok (.aload_n 0, 1) := by decide +kernel
theorem dX1_leave_16 : decode cX1_leave 16 = .ok (.getfield 44, 3) := by decide +kernel
theorem dX1_leave_19 : decode cX1_leave 19 = .ok (.if_icmp .gt 11, 3) := by decide +kernel
theorem dX1_leave_22 : decode cX1_leave 22 = .ok (.aload_n 0, 1) := by decide +kernel
theorem dX1_leave_23 : decode cX1_leave 23 = .ok (.iload_n 2, 1) := by decide +kernel
theorem dX1_leave_24 : decode cX1_leave 24 = .ok (.putfield 18, 3) := by decide +kernel
theorem dX1_leave_27 : decode cX1_leave 27 = .ok (.goto 18, 3) := by decide +kernel
theorem dX1_leave_30 : decode cX1_leave 30 = .ok (.aload_n 0, 1) := by decide +kernel
theorem dX1_leave_31 : decode cX1_leave 31 = .ok (.iload_n 2, 1) := by decide +kernel
theorem dX1_leave_32 : decode cX1_leave 32 = .ok (.putfield 30, 3) := by decide +kernel
theorem dX1_leave_35 : decode cX1_leave 35 = .ok (.aload_n 0, 1) := by decide +kernel
theorem dX1_leave_36 : decode cX1_leave 36 = .ok (.dup, 1) := by decide +kernel
theorem dX1_leave_37 : decode cX1_leave 37 = .ok (.getfield 47, 3) := by decide +kernel
theorem dX1_leave_40 : decode cX1_leave 40 = .ok (.iconst 1, 1) := by decide +kernel
theorem dX1_leave_41 : decode cX1_leave 41 = .ok (.iadd, 1) := by decide +kernel
theorem dX1_leave_42 : decode cX1_leave 42 = .ok (.putfield 47, 3) := by decide +kernel
theorem dX1_leave_45 : decode cX1_leave 45 = .ok (.return_, 1) := by decide +kernel
set_option maxRecDepth 20000 in
theorem ggX1_late_X1_treatment : GoodIn wsX1_late wsX1_treatment := goodIn_r _ [8, 9, 10, 11, 12, 13, 14, 15, 16, 17, 18, 19, 20] (by decide +kernel) (by decide +kernel)
set_option maxRecDepth 20000 in
theorem gX1_late_X1_treatment : GoodIn wsX1_late (wsV RX1 50 RX1 yX1_treatment wsX1_treatment) := goodIn_app (goodIn_of _ (by decide +kernel)) ggX1_late_X1_treatment
theorem dX1_late_0 : decode cX1_late 0 = .ok (.aload_n 0, 1) := by decide +kernel
theorem dX1_late_1 : decode cX1_late 1 = .ok (.getfield 18, 3) := by decide +kernel
theorem dX1_late_4 : decode cX1_late 4 = .ok (.aload_n 0, 1) := by decide +kernel
theorem dX1_late_5 : decode cX1_late 5 = .ok (.getfield 27, 3) := by decide +kernel
theorem dX1_late_8 : decode cX1_late 8 = .ok (.isub, 1) := by decide +kernel
theorem dX1_late_9 : decode cX1_late 9 = .ok (.aload_n 0, 1) := by decide +kernel
theorem dX1_late_10 : decode cX1_late 10 = .ok (.invokevirtual 50, 3) := by decide +kernel
theorem dX1_late_13 : decode cX1_late 13 = .ok (.isub, 1) := by decide +kernel
theorem dX1_late_14 : decode cX1_late 14 = .ok (.aload_n 0, 1) := by decide +kernel
theorem dX1_late_15 : decode cX1_late 15 = .ok (.getfield 33, 3) := by decide +kernel
theorem dX1_late_18 : decode cX1_late 18 = .ok (.isub, 1) := by decide +kernel
theorem dX1_late_19 : decode cX1_late 19 = .ok (.ireturn, 1) := by decide +kernel
theorem dX2_init_0 : decode cX2_init 0 = .ok (.aload_n 0, 1) := by decide +kernel
theorem dX2_init_1 : decode cX2_init 1 = .ok (.invokespecial 3, 3) := by decide +kernel
theorem dX2_init_4 : decode cX2_init 4 = .ok (.aload_n 0, 1) := by decide +kernel
theorem dX2_init_5 : decode cX2_init 5 = .ok (.iconst 5, 1) := by decide +kernel
theorem dX2_init_6 : decode cX2_init 6 = .ok (.anewarray 9, 3) := by decide +kernel
theorem dX2_init_9 : decode cX2_init 9 = .ok (.putfield 11, 3) := by decide +kernel
theorem dX2_init_12 : decode cX2_init 12 = .ok (.aload_n 0, 1) := by decide +kernel
theorem dX2_init_13 : decode cX2_init 13 = .ok (.iconst 5, 1) := by decide +kernel
theorem dX2_init_14 : decode cX2_init 14 = .ok (.newarray .boolean, 2) := by decide +kernel
theorem dX2_init_16 : decode cX2_init 16 = .ok (.putfield 17, 3) := by decide +kernel
theorem dX2_init_19 : decode cX2_init 19 = .ok (.aload_n 0, 1) := by decide +kernel
theorem dX2_init_20 : decode cX2_init 20 = .ok (.iconst 5, 1) := by decide +kernel
theorem dX2_init_21 : decode cX2_init 21 = .ok (.newarray .int, 2) := by decide +kernel
theorem dX2_init_23 : decode cX2_init 23 = .ok (.putfield 21, 3) := by decide +kernel
theorem dX2_init_26 : decode cX2_init 26 = .ok (.aload_n 0, 1) := by decide +kernel
theorem dX2_init_27 : decode cX2_init 27 = .ok (.iconst 5, 1) := by decide +kernel
theorem dX2_init_28 : decode cX2_init 28 = .ok (.newarray .int, 2) := by decide +kernel
theorem dX2_init_30 : decode cX2_init 30 = .ok (.putfield 25, 3) := by decide +kernel
theorem dX2_init_33 : decode cX2_init 33 = .ok (.return_, 1) := by decide +kernel
set_option maxRecDepth 20000 in
theorem ggX2_gather_X1_state : GoodIn wsX2_gather wsX1_state := goodIn_r _ [7, 8, 9, 10, 11, 6, 12, 13, 20, 21, 22, 23, 24, 25, 26, 27, 28, 29, 30] (by decide +kernel) (by decide +kernel)
set_option maxRecDepth 20000 in
theorem gX2_gather_X1_state : GoodIn wsX2_gather (wsV RX2 32 RX1 yX1_state wsX1_state) := goodIn_app (goodIn_of _ (by decide +kernel)) ggX2_gather_X1_state
theorem dX2_gather_0 : decode cX2_gather 0 = .ok (.aload_n 0, 1) := by decide +kernel
theorem dX2_gather_1 : decode cX2_gather 1 = .ok (.iconst 0, 1) := by decide +kernel
theorem dX2_gather_2 : decode cX2_gather 2 = .ok (.putfield 28, 3) := by decide +kernel
theorem dX2_gather_5 : decode cX2_gather 5 = .ok (.iconst 0, 1) := by decide +kernel
theorem dX2_gather_6 : decode cX2_gather 6 = .ok (.istore_n 2, 1) := by decide +kernel
theorem dX2_gather_7 : decode cX2_gather 7 = .ok (.iload_n 2, 1) := by decide +kernel
theorem dX2_gather_8 : decode cX2_gather 8 = .ok (.aload_n 1, 1) := by decide +kernel
theorem dX2_gather_9 : decode cX2_gather 9 = .ok (.arraylength, 1) := by decide +kernel
theorem dX2_gather_10 : decode cX2_gather 10 = .ok (.if_icmp .ge 59, 3) := by decide +kernel
theorem dX2_gather_13 : decode cX2_gather 13 = .ok (.aload_n 0, 1) := by decide +kernel
theorem dX2_gather_14 : decode cX2_gather 14 = .ok (.getfield 28, 3) := by decide +kernel
theorem dX2_gather_17 : decode cX2_gather 17 = .ok (.aload_n 0, 1) := by decide +kernel
theorem dX2_gather_18 : decode cX2_gather 18 = .ok (.getfield 11, 3) := by decide +kernel
theorem dX2_gather_21 : decode cX2_gather 21 = .ok (.arraylength, 1) := by decide +kernel
theorem dX2_gather_22 : decode cX2_gather 22 = .ok (.if_icmp .ge 47, 3) := by decide +kernel
theorem dX2_gather_25 : decode cX2_gather 25 = .ok (.aload_n 1, 1) := by decide +kernel
theorem dX2_gather_26 : decode cX2_gather 26 = .ok (.iload_n 2, 1) := by decide +kernel
theorem dX2_gather_27 : decode cX2_gather 27 = .ok (.aaload, 1) := by decide +kernel
theorem dX2_gather_28 : decode cX2_gather 28 = .ok (.astore_n 3, 1) := by decide +kernel
theorem dX2_gather_29 : decode cX2_gather 29 = .ok (.aload_n 3, 1) := by decide +kernel
theorem dX2_gather_30 : decode cX2_gather 30 = .ok (.ifnull 33, 3) := by decide +kernel
theorem dX2_gather_33 : decode cX2_gather 33 = .ok (.aload_n 3, 1) := by decide +kernel
theorem dX2_gather_34 : decode cX2_gather 34 = .ok (.invokevirtual 32, 3) := by decide +kernel
theorem dX2_gather_37 : decode cX2_gather 37 = .ok (.ifCond .eq 6, 3) := by decide +kernel
theorem dX2_gather_40 : decode cX2_gather 40 = .ok (.goto 23, 3) := by decide +kernel
theorem dX2_gather_43 : decode cX2_gather 43 = .ok (.aload_n 0, 1) := by decide +kernel
theorem dX2_gather_44 : decode cX2_gather 44 = .ok (.getfield 11, 3) := by decide +kernel
theorem dX2_gather_47 : decode cX2_gather 47 = .ok (.aload_n 0, 1) := by decide +kernel
theorem dX2_gather_48 : decode cX2_gather 48 = .ok (.getfield 28, 3) := by decide +kernel
theorem dX2_gather_51 : decode cX2_gather 51 = .ok (.aload_n 3, 1) := by decide +kernel
theorem dX2_gather_52 : decode cX2_gather 52 = .ok (.aastore, 1) := by decide +kernel
theorem dX2_gather_53 : decode cX2_gather 53 = .ok (.aload_n 0, 1) := by decide +kernel
theorem dX2_gather_54 : decode cX2_gather 54 = .ok (.dup, 1) := by decide +kernel
theorem dX2_gather_55 : decode cX2_gather 55 = .ok (.getfield 28, 3) := by decide +kernel
theorem dX2_gather_58 : decode cX2_gather 58 = .ok (.iconst 1, 1) := by decide +kernel
theorem dX2_gather_59 : decode cX2_gather 59 = .ok (.iadd, 1) := by decide +kernel
theorem dX2_gather_60 : decode cX2_gather 60 = .ok (.putfield 28, 3) := by decide +kernel
theorem dX2_gather_63 : decode cX2_gather 63 = .ok (.iinc 2 1, 3) := by decide +kernel
theorem dX2_gather_66 : decode cX2_gather 66 = .ok (.goto (-59), 3) := by decide +kernel
theorem dX2_gather_69 : decode cX2_gather 69 = .ok (.return_, 1) := by decide +kernel
set_option maxRecDepth 20000 in
theorem ggX2_search_X2_place : GoodIn wsX2_search wsX2_place := goodIn_r _ [7, 2, 8, 9, 10, 11, 12, 13, 14, 15, 16, 17, 18, 19, 20, 21, 6, 22, 23, 24, 25, 26, 27, 28, 29, 3, 4, 5, 30, 31, 32, 33, 34, 35, 36, 37, 38, 39, 40, 41, 42, 43, 44, 45, 46] (by decide +kernel) (by decide +kernel)
set_option maxRecDepth 20000 in
theorem gX2_search_X2_place : GoodIn wsX2_search (wsV RX2 42 RX2 yX2_place wsX2_place) := goodIn_app (goodIn_of _ (by decide +kernel)) ggX2_search_X2_place
theorem dX2_search_0 : decode cX2_search 0 = .ok (.aload_n 0, 1) := by decide +kernel
theorem dX2_search_1 : decode cX2_search 1 = .ok (.ldc 38, 2) := by decide +kernel
theorem dX2_search_3 : decode cX2_search 3 = .ok (.putfield 39, 3) := by decide +kernel
theorem dX2_search_6 : decode cX2_search 6 = .ok (.aload_n 0, 1) := by decide +kernel
theorem dX2_search_7 : decode cX2_search 7 = .ok (.iconst 0, 1) := by decide +kernel
theorem dX2_search_8 : decode cX2_search 8 = .ok (.iload_n 1, 1) := by decide +kernel
theorem dX2_search_9 : decode cX2_search 9 = .ok (.iconst 0, 1) := by decide +kernel
theorem dX2_search_10 : decode cX2_search 10 = .ok (.invokevirtual 42, 3) := by decide +kernel
theorem dX2_search_13 : decode cX2_search 13 = .ok (.return_, 1) := by decide +kernel
set_option maxRecDepth 20000 in
theorem ggX2_numberAt_X4_within : GoodIn wsX2_numberAt wsX4_within := goodIn_r _ [5] (by decide +kernel) (by decide +kernel)
set_option maxRecDepth 20000 in
theorem gX2_numberAt_X4_within_n46 : GoodIn wsX2_numberAt (wsX4_within) := ggX2_numberAt_X4_within
theorem dX2_numberAt_0 : decode cX2_numberAt 0 = .ok (.iload_n 1, 1) := by decide +kernel
theorem dX2_numberAt_1 : decode cX2_numberAt 1 = .ok (.iconst 0, 1) := by decide +kernel
theorem dX2_numberAt_2 : decode cX2_numberAt 2 = .ok (.aload_n 0, 1) := by decide +kernel
theorem dX2_numberAt_3 : decode cX2_numberAt 3 = .ok (.getfield 28, 3) := by decide +kernel
theorem dX2_numberAt_6 : decode cX2_numberAt 6 = .ok (.iconst 1, 1) := by decide +kernel
theorem dX2_numberAt_7 : decode cX2_numberAt 7 = .ok (.isub, 1) := by decide +kernel
theorem dX2_numberAt_8 : decode cX2_numberAt 8 = .ok (.invokestatic 46, 3) := by decide +kernel
theorem dX2_numberAt_11 : decode cX2_numberAt 11 = .ok (.ifCond .eq 12, 3) := by decide +kernel
theorem dX2_numberAt_14 : decode cX2_numberAt 14 = .ok (.aload_n 0, 1) := by decide +kernel
theorem dX2_numberAt_15 : decode cX2_numberAt 15 = .ok (.getfield 25, 3) := by decide +kernel
theorem dX2_numberAt_18 : decode cX2_numberAt 18 = .ok (.iload_n 1, 1) := by decide +kernel
theorem dX2_numberAt_19 : decode cX2_numberAt 19 = .ok (.iaload, 1) := by decide +kernel
theorem dX2_numberAt_20 : decode cX2_numberAt 20 = .ok (.goto 6, 3) := by decide +kernel
theorem dX2_numberAt_23 : decode cX2_numberAt 23 = .ok (.sipush (-900), 3) := by decide +kernel
theorem dX2_numberAt_26 : decode cX2_numberAt 26 = .ok (.ireturn, 1) := by decide +kernel
set_option maxRecDepth 20000 in
theorem ggX2_place_X2_keep : GoodIn wsX2_place wsX2_keep := goodIn_r _ [17, 1, 2, 18, 10, 28, 29, 30, 31, 32, 33] (by decide +kernel) (by decide +kernel)
set_option maxRecDepth 20000 in
theorem gX2_place_X2_keep : GoodIn wsX2_place (wsV RX2 50 RX2 yX2_keep wsX2_keep) := goodIn_app (goodIn_of _ (by decide +kernel)) ggX2_place_X2_keep
set_option maxRecDepth 20000 in
theorem ggX2_place_X1_treatment : GoodIn wsX2_place wsX1_treatment := goodIn_r _ [23, 24, 34, 35, 36, 37, 38, 39, 40, 41, 42, 43, 44] (by decide +kernel) (by decide +kernel)
set_option maxRecDepth 20000 in
theorem gX2_place_X1_treatment : GoodIn wsX2_place (wsV RX2 66 RX1 yX1_treatment wsX1_treatment) := goodIn_app (goodIn_of _ (by decide +kernel)) ggX2_place_X1_treatment
set_option maxRecDepth 20000 in
theorem ggX2_place_X2_place : GoodIn wsX2_place wsX2_place := goodIn_r _ [0, 1, 2, 3, 4, 5, 6, 7, 8, 9, 10, 11, 12, 13, 14, 15, 16, 17, 18, 19, 20, 21, 22, 23, 24, 25, 26, 27, 28, 29, 30, 31, 32, 33, 34, 35, 36, 37, 38, 39, 40, 41, 42, 43, 44] (by decide +kernel) (by decide +kernel)
set_option maxRecDepth 20000 in
theorem gX2_place_X2_place : GoodIn wsX2_place (wsV RX2 42 RX2 yX2_place wsX2_place) := goodIn_app (goodIn_of _ (by decide +kernel)) ggX2_place_X2_place
theorem dX2_place_0 : decode cX2_place 0 = .ok (.iload_n 3, 1) := by decide +kernel
theorem dX2_place_1 : decode cX2_place 1 = .ok (.aload_n 0, 1) := by decide +kernel
theorem dX2_place_2 : decode cX2_place 2 = .ok (.getfield 39, 3) := by decide +kernel
theorem dX2_place_5 : decode cX2_place 5 = .ok (.if_icmp .lt 4, 3) := by decide +kernel
theorem dX2_place_8 : decode cX2_place 8 = .ok (.return_, 1) := by decide +kernel
theorem dX2_place_9 : decode cX2_place 9 = .ok (.iload_n 1, 1) := by decide +kernel
theorem dX2_place_10 : decode cX2_place 10 = .ok (.aload_n 0, 1) := by decide +kernel
theorem dX2_place_11 : decode cX2_place 11 = .ok (.getfield 28, 3) := by decide +kernel
theorem dX2_place_14 : decode cX2_place 14 = .ok (.if_icmp .lt 9, 3) := by decide +kernel
theorem dX2_place_17 : decode cX2_place 17 = .ok (.aload_n 0, 1) := by decide +kernel
theorem dX2_place_18 : decode cX2_place 18 = .ok (.iload_n 3, 1) := by decide +kernel
theorem dX2_place_19 : decode cX2_place 19 = .ok (.invokevirtual 50, 3) := by decide +kernel
theorem dX2_place_22 : decode cX2_place 22 = .ok (.return_, 1) := by decide +kernel
theorem dX2_place_23 : decode cX2_place 23 = .ok (.iconst 0, 1) := by decide +kernel
theorem dX2_place_24 : decode cX2_place 24 = .ok (.istore 4, 2) := by decide +kernel
theorem dX2_place_26 : decode cX2_place 26 = .ok (.iload 4, 2) := by decide +kernel
theorem dX2_place_28 : decode cX2_place 28 = .ok (.aload_n 0, 1) := by decide +kernel
theorem dX2_place_29 : decode cX2_place 29 = .ok (.getfield 28, 3) := by decide +kernel
theorem dX2_place_32 : decode cX2_place 32 = .ok (.if_icmp .ge 99, 3) := by decide +kernel
theorem dX2_place_35 : decode cX2_place 35 = .ok (.aload_n 0, 1) := by decide +kernel
theorem dX2_place_36 : decode cX2_place 36 = .ok (.getfield 11, 3) := by decide +kernel
theorem dX2_place_39 : decode cX2_place 39 = .ok (.iload 4, 2) := by decide +kernel
theorem dX2_place_41 : decode cX2_place 41 = .ok (.aaload, 1) := by decide +kernel
theorem dX2_place_42 : decode cX2_place 42 = .ok (.astore 5, 2) := by decide +kernel
theorem dX2_place_44 : decode cX2_place 44 = .ok (.aload 5, 2) := by decide +kernel
theorem dX2_place_46 : decode cX2_place 46 = .ok (.ifnull 79, 3) := by decide +kernel
theorem dX2_place_49 : decode cX2_place 49 = .ok (.aload_n 0, 1) := by decide +kernel
theorem dX2_place_50 : decode cX2_place 50 = .ok (.getfield 17, 3) := by decide +kernel
theorem dX2_place_53 : decode cX2_place 53 = .ok (.iload 4, 2) := by decide +kernel
theorem dX2_place_55 : decode cX2_place 55 = .ok (.baload, 1) := by decide +kernel
theorem dX2_place_56 : decode cX2_place 56 = .ok (.ifCond .eq 6, 3) := by decide +kernel
theorem dX2_place_59 : decode cX2_place 59 = .ok (.goto 66, 3) := by decide +kernel
theorem dX2_place_62 : decode cX2_place 62 = .ok (.iload_n 2, 1) := by decide +kernel
theorem dX2_place_63 : decode cX2_place 63 = .ok (.aload 5, 2) := by decide +kernel
theorem dX2_place_65 : decode cX2_place 65 = .ok (.getfield 54, 3) := by decide +kernel
theorem dX2_place_68 : decode cX2_place 68 = .ok (.invokestatic 57, 3) := by decide +kernel
theorem dX2_place_71 : decode cX2_place 71 = .ok (.istore 6, 2) := by decide +kernel
theorem dX2_place_73 : decode cX2_place 73 = .ok (.aload_n 0, 1) := by decide +kernel
theorem dX2_place_74 : decode cX2_place 74 = .ok (.getfield 17, 3) := by decide +kernel
theorem dX2_place_77 : decode cX2_place 77 = .ok (.iload 4, 2) := by decide +kernel
theorem dX2_place_79 : decode cX2_place 79 = .ok (.iconst 1, 1) := by decide +kernel
theorem dX2_place_80 : decode cX2_place 80 = .ok (.bastore, 1) := by decide +kernel
theorem dX2_place_81 : decode cX2_place 81 = .ok (.aload_n 0, 1) := by decide +kernel
theorem dX2_place_82 : decode cX2_place 82 = .ok (.getfield 21, 3) := by decide +kernel
theorem dX2_place_85 : decode cX2_place 85 = .ok (.iload_n 1, 1) := by decide +kernel
theorem dX2_place_86 : decode cX2_place 86 = .ok (.aload 5, 2) := by decide +kernel
theorem dX2_place_88 : decode cX2_place 88 = .ok (.getfield 63, 3) := by decide +kernel
theorem dX2_place_91 : decode cX2_place 91 = .ok (.iastore, 1) := by decide +kernel
theorem dX2_place_92 : decode cX2_place 92 = .ok (.aload_n 0, 1) := by decide +kernel
theorem dX2_place_93 : decode cX2_place 93 = .ok (.iload_n 1, 1) := by decide +kernel
theorem dX2_place_94 : decode cX2_place 94 = .ok (.iconst 1, 1) := by decide +kernel
theorem dX2_place_95 : decode cX2_place 95 = .ok (.iadd, 1) := by decide +kernel
theorem dX2_place_96 : decode cX2_place 96 = .ok (.iload 6, 2) := by decide +kernel
theorem dX2_place_98 : decode cX2_place 98 = .ok (.aload 5, 2) := by decide +kernel
theorem dX2_place_100 : decode cX2_place 100 = .ok (.invokevirtual 66, 3) := by decide +kernel
theorem dX2_place_103 : decode cX2_place 103 = .ok (.iadd, 1) := by decide +kernel
theorem dX2_place_104 : decode cX2_place 104 = .ok (.iload_n 3, 1) := by decide +kernel
theorem dX2_place_105 : decode cX2_place 105 = .ok (.iload 6, 2) := by decide +kernel
theorem dX2_place_107 : decode cX2_place 107 = .ok (.iadd, 1) := by decide +kernel
theorem dX2_place_108 : decode cX2_place 108 = .ok (.aload 5, 2) := by decide +kernel
theorem dX2_place_110 : decode cX2_place 110 = .ok (.getfield 69, 3) := by decide +kernel
theorem dX2_place_113 : decode cX2_place 113 = .ok (.isub, 1) := by decide +kernel
theorem dX2_place_114 : decode cX2_place 114 = .ok (.invokevirtual 42, 3) := by decide +kernel
theorem dX2_place_117 : decode cX2_place 117 = .ok (.aload_n 0, 1) := by decide +kernel
theorem dX2_place_118 : decode cX2_place 118 = .ok (.getfield 17, 3) := by decide +kernel
theorem dX2_place_121 : decode cX2_place 121 = .ok (.iload 4, 2) := by decide +kernel
theorem dX2_place_123 : decode cX2_place 123 = .ok (.iconst 0, 1) := by decide +kernel
theorem dX2_place_124 : decode cX2_place 124 = .ok (.bastore, 1) := by decide +kernel
theorem dX2_place_125 : decode cX2_place 125 = .ok (.iinc 4 1, 3) := by decide +kernel
theorem dX2_place_128 : decode cX2_place 128 = .ok (.goto (-102), 3) := by decide +kernel
theorem dX2_place_131 : decode cX2_place 131 = .ok (.return_, 1) := by decide +kernel
theorem dX2_keep_0 : decode cX2_keep 0 = .ok (.aload_n 0, 1) := by decide +kernel
theorem dX2_keep_1 : decode cX2_keep 1 = .ok (.iload_n 1, 1) := by decide +kernel
theorem dX2_keep_2 : decode cX2_keep 2 = .ok (.putfield 39, 3) := by decide +kernel
theorem dX2_keep_5 : decode cX2_keep 5 = .ok (.iconst 0, 1) := by decide +kernel
theorem dX2_keep_6 : decode cX2_keep 6 = .ok (.istore_n 2, 1) := by decide +kernel
theorem dX2_keep_7 : decode cX2_keep 7 = .ok (.iload_n 2, 1) := by decide +kernel
theorem dX2_keep_8 : decode cX2_keep 8 = .ok (.aload_n 0, 1) := by decide +kernel
theorem dX2_keep_9 : decode cX2_keep 9 = .ok (.getfield 28, 3) := by decide +kernel
theorem dX2_keep_12 : decode cX2_keep 12 = .ok (.if_icmp .ge 21, 3) := by decide +kernel
theorem dX2_keep_15 : decode cX2_keep 15 = .ok (.aload_n 0, 1) := by decide +kernel
theorem dX2_keep_16 : decode cX2_keep 16 = .ok (.getfield 25, 3) := by decide +kernel
theorem dX2_keep_19 : decode cX2_keep 19 = .ok (.iload_n 2, 1) := by decide +kernel
theorem dX2_keep_20 : decode cX2_keep 20 = .ok (.aload_n 0, 1) := by decide +kernel
theorem dX2_keep_21 : decode cX2_keep 21 = .ok (.getfield 21, 3) := by decide +kernel
theorem dX2_keep_24 : decode cX2_keep 24 = .ok (.iload_n 2, 1) := by decide +kernel
theorem dX2_keep_25 : decode cX2_keep 25 = .ok (.iaload, 1) := by decide +kernel
theorem dX2_keep_26 : decode cX2_keep 26 = .ok (.iastore, 1) := by decide +kernel
theorem dX2_keep_27 : decode cX2_keep 27 = .ok (.iinc 2 1, 3) := by decide +kernel
theorem dX2_keep_30 : decode cX2_keep 30 = .ok (.goto (-23), 3) := by decide +kernel
theorem dX2_keep_33 : decode cX2_keep 33 = .ok (.return_, 1) := by decide +kernel
theorem dX3_init_0 : decode cX3_init 0 = .ok (.aload_n 0, 1) := by decide +kernel
theorem dX3_init_1 : decode cX3_init 1 = .ok (.invokespecial 3, 3) := by decide +kernel
theorem dX3_init_4 : decode cX3_init 4 = .ok (.aload_n 0, 1) := by decide +kernel
theorem dX3_init_5 : decode cX3_init 5 = .ok (.sipush 300, 3) := by decide +kernel
theorem dX3_init_8 : decode cX3_init 8 = .ok (.newarray .int, 2) := by decide +kernel
theorem dX3_init_10 : decode cX3_init 10 = .ok (.putfield 9, 3) := by decide +kernel
theorem dX3_init_13 : decode cX3_init 13 = .ok (.aload_n 0, 1) := by decide +kernel
theorem dX3_init_14 : decode cX3_init 14 = .ok (.sipush 300, 3) := by decide +kernel
theorem dX3_init_17 : decode cX3_init 17 = .ok (.newarray .int, 2) := by decide +kernel
theorem dX3_init_19 : decode cX3_init 19 = .ok (.putfield 15, 3) := by decide +kernel
theorem dX3_init_22 : decode cX3_init 22 = .ok (.aload_n 0, 1) := by decide +kernel
theorem dX3_init_23 : decode cX3_init 23 = .ok (.sipush 300, 3) := by decide +kernel
theorem dX3_init_26 : decode cX3_init 26 = .ok (.newarray .boolean, 2) := by decide +kernel
theorem dX3_init_28 : decode cX3_init 28 = .ok (.putfield 18, 3) := by decide +kernel
theorem dX3_init_31 : decode cX3_init 31 = .ok (.return_, 1) := by decide +kernel
theorem dX3_isTold_0 : decode cX3_isTold 0 = .ok (.iload_n 1, 1) := by decide +kernel
theorem dX3_isTold_1 : decode cX3_isTold 1 = .ok (.ifCond .lt 25, 3) := by decide +kernel
theorem dX3_isTold_4 : decode cX3_isTold 4 = .ok (.iload_n 1, 1) := by decide +kernel
theorem dX3_isTold_5 : decode cX3_isTold 5 = .ok (.aload_n 0, 1) := by decide +kernel
theorem dX3_isTold_6 : decode cX3_isTold 6 = .ok (.getfield 18, 3) := by decide +kernel
theorem dX3_isTold_9 : decode cX3_isTold 9 = .ok (.arraylength, 1) := by decide +kernel
theorem dX3_isTold_10 : decode cX3_isTold 10 = .ok (.if_icmp .ge 16, 3) := by decide +kernel
theorem dX3_isTold_13 : decode cX3_isTold 13 = .ok (.aload_n 0, 1) := by decide +kernel
theorem dX3_isTold_14 : decode cX3_isTold 14 = .ok (.getfield 18, 3) := by decide +kernel
theorem dX3_isTold_17 : decode cX3_isTold 17 = .ok (.iload_n 1, 1) := by decide +kernel
theorem dX3_isTold_18 : decode cX3_isTold 18 = .ok (.baload, 1) := by decide +kernel
theorem dX3_isTold_19 : decode cX3_isTold 19 = .ok (.ifCond .eq 7, 3) := by decide +kernel
theorem dX3_isTold_22 : decode cX3_isTold 22 = .ok (.iconst 1, 1) := by decide +kernel
theorem dX3_isTold_23 : decode cX3_isTold 23 = .ok (.goto 4, 3) := by decide +kernel
theorem dX3_isTold_26 : decode cX3_isTold 26 = .ok (.iconst 0, 1) := by decide +kernel
theorem dX3_isTold_27 : decode cX3_isTold 27 = .ok (.ireturn, 1) := by decide +kernel
set_option maxRecDepth 20000 in
theorem ggX3_tell_X4_isMinute : GoodIn wsX3_tell wsX4_isMinute := goodIn_r _ [6, 7, 8, 5, 9] (by decide +kernel) (by decide +kernel)
set_option maxRecDepth 20000 in
theorem gX3_tell_X4_isMinute_n22 : GoodIn wsX3_tell (wsX4_isMinute) := ggX3_tell_X4_isMinute
theorem dX3_tell_0 : decode cX3_tell 0 = .ok (.iload_n 1, 1) := by decide +kernel
theorem dX3_tell_1 : decode cX3_tell 1 = .ok (.invokestatic 22, 3) := by decide +kernel
theorem dX3_tell_4 : decode cX3_tell 4 = .ok (.ifCond .ne 4, 3) := by decide +kernel
theorem dX3_tell_7 : decode cX3_tell 7 = .ok (.return_, 1) := by decide +kernel
theorem dX3_tell_8 : decode cX3_tell 8 = .ok (.aload_n 0, 1) := by decide +kernel
theorem dX3_tell_9 : decode cX3_tell 9 = .ok (.getfield 9, 3) := by decide +kernel
theorem dX3_tell_12 : decode cX3_tell 12 = .ok (.iload_n 1, 1) := by decide +kernel
theorem dX3_tell_13 : decode cX3_tell 13 = .ok (.iload_n 2, 1) := by decide +kernel
theorem dX3_tell_14 : decode cX3_tell 14 = .ok (.iastore, 1) := by decide +kernel
theorem dX3_tell_15 : decode cX3_tell 15 = .ok (.aload_n 0, 1) := by decide +kernel
theorem dX3_tell_16 : decode cX3_tell 16 = .ok (.getfield 15, 3) := by decide +kernel
theorem dX3_tell_19 : decode cX3_tell 19 = .ok (.iload_n 1, 1) := by decide +kernel
theorem dX3_tell_20 : decode cX3_tell 20 = .ok (.iload_n 3, 1) := by decide +kernel
theorem dX3_tell_21 : decode cX3_tell 21 = .ok (.iastore, 1) := by decide +kernel
theorem dX3_tell_22 : decode cX3_tell 22 = .ok (.aload_n 0, 1) := by decide +kernel
theorem dX3_tell_23 : decode cX3_tell 23 = .ok (.getfield 18, 3) := by decide +kernel
theorem dX3_tell_26 : decode cX3_tell 26 = .ok (.iload_n 1, 1) := by decide +kernel
theorem dX3_tell_27 : decode cX3_tell 27 = .ok (.iconst 1, 1) := by decide +kernel
theorem dX3_tell_28 : decode cX3_tell 28 = .ok (.bastore, 1) := by decide +kernel
theorem dX3_tell_29 : decode cX3_tell 29 = .ok (.return_, 1) := by decide +kernel
set_option maxRecDepth 20000 in
theorem ggX3_lose_X4_isMinute : GoodIn wsX3_lose wsX4_isMinute := goodIn_r _ [4, 5, 6, 3, 7] (by decide +kernel) (by decide +kernel)
set_option maxRecDepth 20000 in
theorem gX3_lose_X4_isMinute_n22 : GoodIn wsX3_lose (wsX4_isMinute) := ggX3_lose_X4_isMinute
theorem dX3_lose_0 : decode cX3_lose 0 = .ok (.iload_n 1, 1) := by decide +kernel
theorem dX3_lose_1 : decode cX3_lose 1 = .ok (.invokestatic 22, 3) := by decide +kernel
theorem dX3_lose_4 : decode cX3_lose 4 = .ok (.ifCond .eq 10, 3) := by decide +kernel
theorem dX3_lose_7 : decode cX3_lose 7 = .ok (.aload_n 0, 1) := by decide +kernel
theorem dX3_lose_8 : decode cX3_lose 8 = .ok (.getfield 18, 3) := by decide +kernel
theorem dX3_lose_11 : decode cX3_lose 11 = .ok (.iload_n 1, 1) := by decide +kernel
theorem dX3_lose_12 : decode cX3_lose 12 = .ok (.iconst 0, 1) := by decide +kernel
theorem dX3_lose_13 : decode cX3_lose 13 = .ok (.bastore, 1) := by decide +kernel
theorem dX3_lose_14 : decode cX3_lose 14 = .ok (.return_, 1) := by decide +kernel
set_option maxRecDepth 20000 in
theorem ggX3_coldIn_X3_isTold : GoodIn wsX3_coldIn wsX3_isTold := goodIn_r _ [10, 11, 12, 13, 14] (by decide +kernel) (by decide +kernel)
set_option maxRecDepth 20000 in
theorem gX3_coldIn_X3_isTold : GoodIn wsX3_coldIn (wsV RX3 26 RX3 yX3_isTold wsX3_isTold) := goodIn_app (goodIn_of _ (by decide +kernel)) ggX3_coldIn_X3_isTold
theorem dX3_coldIn_0 : decode cX3_coldIn 0 = .ok (.aload_n 0, 1) := by decide +kernel
theorem dX3_coldIn_1 : decode cX3_coldIn 1 = .ok (.iload_n 1, 1) := by decide +kernel
theorem dX3_coldIn_2 : decode cX3_coldIn 2 = .ok (.invokevirtual 26, 3) := by decide +kernel
theorem dX3_coldIn_5 : decode cX3_coldIn 5 = .ok (.ifCond .eq 10, 3) := by decide +kernel
theorem dX3_coldIn_8 : decode cX3_coldIn 8 = .ok (.aload_n 0, 1) := by decide +kernel
theorem dX3_coldIn_9 : decode cX3_coldIn 9 = .ok (.getfield 9, 3) := by decide +kernel
theorem dX3_coldIn_12 : decode cX3_coldIn 12 = .ok (.iload_n 1, 1) := by decide +kernel
theorem dX3_coldIn_13 : decode cX3_coldIn 13 = .ok (.iaload, 1) := by decide +kernel
theorem dX3_coldIn_14 : decode cX3_coldIn 14 = .ok (.ireturn, 1) := by decide +kernel
theorem dX3_coldIn_15 : decode cX3_coldIn 15 = .ok (.iconst 0, 1) := by decide +kernel
theorem dX3_coldIn_16 : decode cX3_coldIn 16 = .ok (.istore_n 2, 1) := by decide +kernel
theorem dX3_coldIn_17 : decode cX3_coldIn 17 = .ok (.iconst 0, 1) := by decide +kernel
theorem dX3_coldIn_18 : decode cX3_coldIn 18 = .ok (.istore_n 3, 1) := by decide +kernel
theorem dX3_coldIn_19 : decode cX3_coldIn 19 = .ok (.iconst 1, 1) := by decide +kernel
theorem dX3_coldIn_20 : decode cX3_coldIn 20 = .ok (.istore 4, 2) := by decide +kernel
theorem dX3_coldIn_22 : decode cX3_coldIn 22 = .ok (.iload 4, 2) := by decide +kernel
theorem dX3_coldIn_24 : decode cX3_coldIn 24 = .ok (.bipush 30, 2) := by decide +kernel
theorem dX3_coldIn_26 : decode cX3_coldIn 26 = .ok (.if_icmp .gt 55, 3) := by decide +kernel
theorem dX3_coldIn_29 : decode cX3_coldIn 29 = .ok (.iload_n 1, 1) := by decide +kernel
theorem dX3_coldIn_30 : decode cX3_coldIn 30 = .ok (.iload 4, 2) := by decide +kernel
theorem dX3_coldIn_32 : decode cX3_coldIn 32 = .ok (.isub, 1) := by decide +kernel
theorem dX3_coldIn_33 : decode cX3_coldIn 33 = .ok (.istore 5, 2) := by decide +kernel
theorem dX3_coldIn_35 : decode cX3_coldIn 35 = .ok (.aload_n 0, 1) := by decide +kernel
theorem dX3_coldIn_36 : decode cX3_coldIn 36 = .ok (.iload 5, 2) := by decide +kernel
theorem dX3_coldIn_38 : decode cX3_coldIn 38 = .ok (.invokevirtual 26, 3) := by decide +kernel
theorem dX3_coldIn_41 : decode cX3_coldIn 41 = .ok (.ifCond .ne 6, 3) := by decide +kernel
theorem dX3_coldIn_44 : decode cX3_coldIn 44 = .ok (.goto 31, 3) := by decide +kernel
theorem dX3_coldIn_47 : decode cX3_coldIn 47 = .ok (.iload_n 2, 1) := by decide +kernel
theorem dX3_coldIn_48 : decode cX3_coldIn 48 = .ok (.ifCond .eq 17, 3) := by decide +kernel
theorem dX3_coldIn_51 : decode cX3_coldIn 51 = .ok (.iload_n 3, 1) := by decide +kernel
theorem dX3_coldIn_52 : decode cX3_coldIn 52 = .ok (.aload_n 0, 1) := by decide +kernel
theorem dX3_coldIn_53 : decode cX3_coldIn 53 = .ok (.getfield 9, 3) := by decide +kernel
theorem dX3_coldIn_56 : decode cX3_coldIn 56 = .ok (.iload 5, 2) := by decide +kernel
theorem dX3_coldIn_58 : decode cX3_coldIn 58 = .ok (.iaload, 1) := by decide +kernel
theorem dX3_coldIn_59 : decode cX3_coldIn 59 = .ok (.invokestatic 29, 3) := by decide +kernel
theorem dX3_coldIn_62 : decode cX3_coldIn 62 = .ok (.goto 10, 3) := by decide +kernel
theorem dX3_coldIn_65 : decode cX3_coldIn 65 = .ok (.aload_n 0, 1) := by decide +kernel
theorem dX3_coldIn_66 : decode cX3_coldIn 66 = .ok (.getfield 9, 3) := by decide +kernel
theorem dX3_coldIn_69 : decode cX3_coldIn 69 = .ok (.iload 5, 2) := by decide +kernel
theorem dX3_coldIn_71 : decode cX3_coldIn 71 = .ok (.iaload, 1) := by decide +kernel
theorem dX3_coldIn_72 : decode cX3_coldIn 72 = .ok (.istore_n 3, 1) := by decide +kernel
theorem dX3_coldIn_73 : decode cX3_coldIn 73 = .ok (.iconst 1, 1) := by decide +kernel
theorem dX3_coldIn_74 : decode cX3_coldIn 74 = .ok (.istore_n 2, 1) := by decide +kernel
theorem dX3_coldIn_75 : decode cX3_coldIn 75 = .ok (.iinc 4 1, 3) := by decide +kernel
theorem dX3_coldIn_78 : decode cX3_coldIn 78 = .ok (.goto (-56), 3) := by decide +kernel
theorem dX3_coldIn_81 : decode cX3_coldIn 81 = .ok (.iload_n 3, 1) := by decide +kernel
theorem dX3_coldIn_82 : decode cX3_coldIn 82 = .ok (.ireturn, 1) := by decide +kernel
set_option maxRecDepth 20000 in
theorem ggX3_fallIn_X3_isTold : GoodIn wsX3_fallIn wsX3_isTold := goodIn_r _ [10, 11, 12, 13, 14] (by decide +kernel) (by decide +kernel)
set_option maxRecDepth 20000 in
theorem gX3_fallIn_X3_isTold : GoodIn wsX3_fallIn (wsV RX3 26 RX3 yX3_isTold wsX3_isTold) := goodIn_app (goodIn_of _ (by decide +kernel)) ggX3_fallIn_X3_isTold
theorem dX3_fallIn_0 : decode cX3_fallIn 0 = .ok (.aload_n 0, 1) := by decide +kernel
theorem dX3_fallIn_1 : decode cX3_fallIn 1 = .ok (.iload_n 1, 1) := by decide +kernel
theorem dX3_fallIn_2 : decode cX3_fallIn 2 = .ok (.invokevirtual 26, 3) := by decide +kernel
theorem dX3_fallIn_5 : decode cX3_fallIn 5 = .ok (.ifCond .eq 10, 3) := by decide +kernel
theorem dX3_fallIn_8 : decode cX3_fallIn 8 = .ok (.aload_n 0, 1) := by decide +kernel
theorem dX3_fallIn_9 : decode cX3_fallIn 9 = .ok (.getfield 15, 3) := by decide +kernel
theorem dX3_fallIn_12 : decode cX3_fallIn 12 = .ok (.iload_n 1, 1) := by decide +kernel
theorem dX3_fallIn_13 : decode cX3_fallIn 13 = .ok (.iaload, 1) := by decide +kernel
theorem dX3_fallIn_14 : decode cX3_fallIn 14 = .ok (.ireturn, 1) := by decide +kernel
theorem dX3_fallIn_15 : decode cX3_fallIn 15 = .ok (.iconst 0, 1) := by decide +kernel
theorem dX3_fallIn_16 : decode cX3_fallIn 16 = .ok (.istore_n 2, 1) := by decide +kernel
theorem dX3_fallIn_17 : decode cX3_fallIn 17 = .ok (.iconst 1, 1) := by decide +kernel
theorem dX3_fallIn_18 : decode cX3_fallIn 18 = .ok (.istore_n 3, 1) := by decide +kernel
theorem dX3_fallIn_19 : decode cX3_fallIn 19 = .ok (.iload_n 3, 1) := by decide +kernel
theorem dX3_fallIn_20 : decode cX3_fallIn 20 = .ok (.bipush 30, 2) := by decide +kernel
theorem dX3_fallIn_22 : decode cX3_fallIn 22 = .ok (.if_icmp .gt 35, 3) := by decide +kernel
theorem dX3_fallIn_25 : decode cX3_fallIn 25 = .ok (.iload_n 1, 1) := by decide +kernel
theorem dX3_fallIn_26 : decode cX3_fallIn 26 = .ok (.iload_n 3, 1) := by decide +kernel
theorem dX3_fallIn_27 : decode cX3_fallIn 27 = .ok (.isub, 1) := by decide +kernel
theorem dX3_fallIn_28 : decode cX3_fallIn 28 = .ok (.istore 4, 2) := by decide +kernel
theorem dX3_fallIn_30 : decode cX3_fallIn 30 = .ok (.aload_n 0, 1) := by decide +kernel
theorem dX3_fallIn_31 : decode cX3_fallIn 31 = .ok (.iload 4, 2) := by decide +kernel
theorem dX3_fallIn_33 : decode cX3_fallIn 33 = .ok (.invokevirtual 26, 3) := by decide +kernel
theorem dX3_fallIn_36 : decode cX3_fallIn 36 = .ok (.ifCond .eq 15, 3) := by decide +kernel
theorem dX3_fallIn_39 : decode cX3_fallIn 39 = .ok (.iload_n 2, 1) := by decide +kernel
theorem dX3_fallIn_40 : decode cX3_fallIn 40 = .ok (.aload_n 0, 1) := by decide +kernel
theorem dX3_fallIn_41 : decode cX3_fallIn 41 = .ok (.getfield 15, 3) := by decide +kernel
theorem dX3_fallIn_44 : decode cX3_fallIn 44 = .ok (.iload 4, 2) := by decide +kernel
theorem dX3_fallIn_46 : decode cX3_fallIn 46 = .ok (.iaload, 1) := by decide +kernel
theorem dX3_fallIn_47 : decode cX3_fallIn 47 = .ok (.invokestatic 35, 3) := by decide +kernel
theorem dX3_fallIn_50 : decode cX3_fallIn 50 = .ok (.istore_n 2, 1) := by decide +kernel
theorem dX3_fallIn_51 : decode cX3_fallIn 51 = .ok (.iinc 3 1, 3) := by decide +kernel
theorem dX3_fallIn_54 : decode cX3_fallIn 54 = .ok (.goto (-35), 3) := by decide +kernel
theorem dX3_fallIn_57 : decode cX3_fallIn 57 = .ok (.iload_n 2, 1) := by decide +kernel
theorem dX3_fallIn_58 : decode cX3_fallIn 58 = .ok (.ireturn, 1) := by decide +kernel
set_option maxRecDepth 20000 in
theorem ggX4_init_X3_init : GoodIn wsX4_init wsX3_init := goodIn_r _ [21, 22, 2, 3, 23, 24, 25, 26, 27, 36, 37, 38] (by decide +kernel) (by decide +kernel)
set_option maxRecDepth 20000 in
theorem gX4_init_X3_init_n9 : GoodIn wsX4_init (wsX3_init) := ggX4_init_X3_init
set_option maxRecDepth 20000 in
theorem ggX4_init_X2_init : GoodIn wsX4_init wsX2_init := goodIn_r _ [29, 30, 2, 3, 31, 32, 26, 33, 23, 34, 35, 53, 54, 55, 56, 57, 58] (by decide +kernel) (by decide +kernel)
set_option maxRecDepth 20000 in
theorem gX4_init_X2_init_n33 : GoodIn wsX4_init (wsX2_init) := ggX4_init_X2_init
theorem dX4_init_0 : decode cX4_init 0 = .ok (.aload_n 0, 1) := by decide +kernel
theorem dX4_init_1 : decode cX4_init 1 = .ok (.invokespecial 1, 3) := by decide +kernel
theorem dX4_init_4 : decode cX4_init 4 = .ok (.aload_n 0, 1) := by decide +kernel
theorem dX4_init_5 : decode cX4_init 5 = .ok (.new 7, 3) := by decide +kernel
theorem dX4_init_8 : decode cX4_init 8 = .ok (.dup, 1) := by decide +kernel
theorem dX4_init_9 : decode cX4_init 9 = .ok (.invokespecial 9, 3) := by decide +kernel
theorem dX4_init_12 : decode cX4_init 12 = .ok (.putfield 10, 3) := by decide +kernel
theorem dX4_init_15 : decode cX4_init 15 = .ok (.aload_n 0, 1) := by decide +kernel
theorem dX4_init_16 : decode cX4_init 16 = .ok (.iconst 4, 1) := by decide +kernel
theorem dX4_init_17 : decode cX4_init 17 = .ok (.anewarray 16, 3) := by decide +kernel
theorem dX4_init_20 : decode cX4_init 20 = .ok (.putfield 18, 3) := by decide +kernel
theorem dX4_init_23 : decode cX4_init 23 = .ok (.aload_n 0, 1) := by decide +kernel
theorem dX4_init_24 : decode cX4_init 24 = .ok (.bipush 12, 2) := by decide +kernel
theorem dX4_init_26 : decode cX4_init 26 = .ok (.anewarray 22, 3) := by decide +kernel
theorem dX4_init_29 : decode cX4_init 29 = .ok (.putfield 24, 3) := by decide +kernel
theorem dX4_init_32 : decode cX4_init 32 = .ok (.aload_n 0, 1) := by decide +kernel
theorem dX4_init_33 : decode cX4_init 33 = .ok (.iconst 3, 1) := by decide +kernel
theorem dX4_init_34 : decode cX4_init 34 = .ok (.anewarray 22, 3) := by decide +kernel
theorem dX4_init_37 : decode cX4_init 37 = .ok (.putfield 28, 3) := by decide +kernel
theorem dX4_init_40 : decode cX4_init 40 = .ok (.aload_n 0, 1) := by decide +kernel
theorem dX4_init_41 : decode cX4_init 41 = .ok (.new 31, 3) := by decide +kernel
theorem dX4_init_44 : decode cX4_init 44 = .ok (.dup, 1) := by decide +kernel
theorem dX4_init_45 : decode cX4_init 45 = .ok (.invokespecial 33, 3) := by decide +kernel
theorem dX4_init_48 : decode cX4_init 48 = .ok (.putfield 34, 3) := by decide +kernel
theorem dX4_init_51 : decode cX4_init 51 = .ok (.aload_n 0, 1) := by decide +kernel
theorem dX4_init_52 : decode cX4_init 52 = .ok (.iconst 1, 1) := by decide +kernel
theorem dX4_init_53 : decode cX4_init 53 = .ok (.putfield 38, 3) := by decide +kernel
theorem dX4_init_56 : decode cX4_init 56 = .ok (.aload_n 0, 1) := by decide +kernel
theorem dX4_init_57 : decode cX4_init 57 = .ok (.sipush 200, 3) := by decide +kernel
theorem dX4_init_60 : decode cX4_init 60 = .ok (.putfield 42, 3) := by decide +kernel
theorem dX4_init_63 : decode cX4_init 63 = .ok (.aload_n 0, 1) := by decide +kernel
theorem dX4_init_64 : decode cX4_init 64 = .ok (.iconst 5, 1) := by decide +kernel
theorem dX4_init_65 : decode cX4_init 65 = .ok (.putfield 45, 3) := by decide +kernel
theorem dX4_init_68 : decode cX4_init 68 = .ok (.return_, 1) := by decide +kernel
set_option maxRecDepth 20000 in
theorem ggX4_weather_X4_isMinute : GoodIn wsX4_weather wsX4_isMinute := goodIn_r _ [6, 7, 8, 5, 9] (by decide +kernel) (by decide +kernel)
set_option maxRecDepth 20000 in
theorem gX4_weather_X4_isMinute : GoodIn wsX4_weather (va_wsS RX4 48 yX4_isMinute wsX4_isMinute) := goodIn_app (goodIn_of _ (by decide +kernel)) ggX4_weather_X4_isMinute
set_option maxRecDepth 20000 in
theorem ggX4_weather_X4_within : GoodIn wsX4_weather wsX4_within := goodIn_r _ [9] (by decide +kernel) (by decide +kernel)
set_option maxRecDepth 20000 in
theorem gX4_weather_X4_within : GoodIn wsX4_weather (va_wsS RX4 52 yX4_within wsX4_within) := goodIn_app (goodIn_of _ (by decide +kernel)) ggX4_weather_X4_within
set_option maxRecDepth 20000 in
theorem ggX4_weather_X3_tell : GoodIn wsX4_weather wsX3_tell := goodIn_r _ [14, 15, 16, 17, 4, 5, 6, 7, 8, 9, 32, 33, 34] (by decide +kernel) (by decide +kernel)
set_option maxRecDepth 20000 in
theorem gX4_weather_X3_tell : GoodIn wsX4_weather (wsV RX4 59 RX3 yX3_tell wsX3_tell) := goodIn_app (goodIn_of _ (by decide +kernel)) ggX4_weather_X3_tell
theorem dX4_weather_0 : decode cX4_weather 0 = .ok (.iload_n 1, 1) := by decide +kernel
theorem dX4_weather_1 : decode cX4_weather 1 = .ok (.invokestatic 48, 3) := by decide +kernel
theorem dX4_weather_4 : decode cX4_weather 4 = .ok (.ifCond .eq 22, 3) := by decide +kernel
theorem dX4_weather_7 : decode cX4_weather 7 = .ok (.iload_n 2, 1) := by decide +kernel
theorem dX4_weather_8 : decode cX4_weather 8 = .ok (.bipush (-30), 2) := by decide +kernel
theorem dX4_weather_10 : decode cX4_weather 10 = .ok (.iconst 5, 1) := by decide +kernel
theorem dX4_weather_11 : decode cX4_weather 11 = .ok (.invokestatic 52, 3) := by decide +kernel
theorem dX4_weather_14 : decode cX4_weather 14 = .ok (.ifCond .eq 12, 3) := by decide +kernel
theorem dX4_weather_17 : decode cX4_weather 17 = .ok (.iload_n 3, 1) := by decide +kernel
theorem dX4_weather_18 : decode cX4_weather 18 = .ok (.iconst 0, 1) := by decide +kernel
theorem dX4_weather_19 : decode cX4_weather 19 = .ok (.iconst 3, 1) := by decide +kernel
theorem dX4_weather_20 : decode cX4_weather 20 = .ok (.invokestatic 52, 3) := by decide +kernel
theorem dX4_weather_23 : decode cX4_weather 23 = .ok (.ifCond .ne 6, 3) := by decide +kernel
theorem dX4_weather_26 : decode cX4_weather 26 = .ok (.bipush (-100), 2) := by decide +kernel
theorem dX4_weather_28 : decode cX4_weather 28 = .ok (.ireturn, 1) := by decide +kernel
theorem dX4_weather_29 : decode cX4_weather 29 = .ok (.iload_n 1, 1) := by decide +kernel
theorem dX4_weather_30 : decode cX4_weather 30 = .ok (.aload_n 0, 1) := by decide +kernel
theorem dX4_weather_31 : decode cX4_weather 31 = .ok (.getfield 56, 3) := by decide +kernel
theorem dX4_weather_34 : decode cX4_weather 34 = .ok (.if_icmp .ge 7, 3) := by decide +kernel
theorem dX4_weather_37 : decode cX4_weather 37 = .ok (.sipush (-200), 3) := by decide +kernel
theorem dX4_weather_40 : decode cX4_weather 40 = .ok (.ireturn, 1) := by decide +kernel
theorem dX4_weather_41 : decode cX4_weather 41 = .ok (.aload_n 0, 1) := by decide +kernel
theorem dX4_weather_42 : decode cX4_weather 42 = .ok (.getfield 10, 3) := by decide +kernel
theorem dX4_weather_45 : decode cX4_weather 45 = .ok (.iload_n 1, 1) := by decide +kernel
theorem dX4_weather_46 : decode cX4_weather 46 = .ok (.iload_n 2, 1) := by decide +kernel
theorem dX4_weather_47 : decode cX4_weather 47 = .ok (.iload_n 3, 1) := by decide +kernel
theorem dX4_weather_48 : decode cX4_weather 48 = .ok (.invokevirtual 59, 3) := by decide +kernel
theorem dX4_weather_51 : decode cX4_weather 51 = .ok (.iconst 1, 1) := by decide +kernel
theorem dX4_weather_52 : decode cX4_weather 52 = .ok (.ireturn, 1) := by decide +kernel
set_option maxRecDepth 20000 in
theorem ggX4_loses_X4_isMinute : GoodIn wsX4_loses wsX4_isMinute := goodIn_r _ [6, 7, 8, 5, 9] (by decide +kernel) (by decide +kernel)
set_option maxRecDepth 20000 in
theorem gX4_loses_X4_isMinute : GoodIn wsX4_loses (va_wsS RX4 48 yX4_isMinute wsX4_isMinute) := goodIn_app (goodIn_of _ (by decide +kernel)) ggX4_loses_X4_isMinute
set_option maxRecDepth 20000 in
theorem ggX4_loses_X3_isTold : GoodIn wsX4_loses wsX3_isTold := goodIn_r _ [14, 15, 37, 38, 39] (by decide +kernel) (by decide +kernel)
set_option maxRecDepth 20000 in
theorem gX4_loses_X3_isTold : GoodIn wsX4_loses (wsV RX4 63 RX3 yX3_isTold wsX3_isTold) := goodIn_app (goodIn_of _ (by decide +kernel)) ggX4_loses_X3_isTold
set_option maxRecDepth 20000 in
theorem ggX4_loses_X4_oneIf : GoodIn wsX4_loses wsX4_oneIf := goodIn_r _ [18] (by decide +kernel) (by decide +kernel)
set_option maxRecDepth 20000 in
theorem gX4_loses_X4_oneIf : GoodIn wsX4_loses (va_wsS RX4 66 yX4_oneIf wsX4_oneIf) := goodIn_app (goodIn_of _ (by decide +kernel)) ggX4_loses_X4_oneIf
set_option maxRecDepth 20000 in
theorem ggX4_loses_X3_lose : GoodIn wsX4_loses wsX3_lose := goodIn_r _ [22, 15, 4, 5, 6, 7, 8, 9, 37, 38, 39] (by decide +kernel) (by decide +kernel)
set_option maxRecDepth 20000 in
theorem gX4_loses_X3_lose : GoodIn wsX4_loses (wsV RX4 70 RX3 yX3_lose wsX3_lose) := goodIn_app (goodIn_of _ (by decide +kernel)) ggX4_loses_X3_lose
theorem dX4_loses_0 : decode cX4_loses 0 = .ok (.iload_n 1, 1) := by decide +kernel
theorem dX4_loses_1 : decode cX4_loses 1 = .ok (.invokestatic 48, 3) := by decide +kernel
theorem dX4_loses_4 : decode cX4_loses 4 = .ok (.ifCond .ne 6, 3) := by decide +kernel
theorem dX4_loses_7 : decode cX4_loses 7 = .ok (.bipush (-100), 2) := by decide +kernel
theorem dX4_loses_9 : decode cX4_loses 9 = .ok (.ireturn, 1) := by decide +kernel
theorem dX4_loses_10 : decode cX4_loses 10 = .ok (.iload_n 1, 1) := by decide +kernel
theorem dX4_loses_11 : decode cX4_loses 11 = .ok (.aload_n 0, 1) := by decide +kernel
theorem dX4_loses_12 : decode cX4_loses 12 = .ok (.getfield 56, 3) := by decide +kernel
theorem dX4_loses_15 : decode cX4_loses 15 = .ok (.if_icmp .ge 7, 3) := by decide +kernel
theorem dX4_loses_18 : decode cX4_loses 18 = .ok (.sipush (-200), 3) := by decide +kernel
theorem dX4_loses_21 : decode cX4_loses 21 = .ok (.ireturn, 1) := by decide +kernel
theorem dX4_loses_22 : decode cX4_loses 22 = .ok (.aload_n 0, 1) := by decide +kernel
theorem dX4_loses_23 : decode cX4_loses 23 = .ok (.getfield 10, 3) := by decide +kernel
theorem dX4_loses_26 : decode cX4_loses 26 = .ok (.iload_n 1, 1) := by decide +kernel
theorem dX4_loses_27 : decode cX4_loses 27 = .ok (.invokevirtual 63, 3) := by decide +kernel
theorem dX4_loses_30 : decode cX4_loses 30 = .ok (.invokestatic 66, 3) := by decide +kernel
theorem dX4_loses_33 : decode cX4_loses 33 = .ok (.istore_n 2, 1) := by decide +kernel
theorem dX4_loses_34 : decode cX4_loses 34 = .ok (.aload_n 0, 1) := by decide +kernel
theorem dX4_loses_35 : decode cX4_loses 35 = .ok (.getfield 10, 3) := by decide +kernel
theorem dX4_loses_38 : decode cX4_loses 38 = .ok (.iload_n 1, 1) := by decide +kernel
theorem dX4_loses_39 : decode cX4_loses 39 = .ok (.invokevirtual 70, 3) := by decide +kernel
theorem dX4_loses_42 : decode cX4_loses 42 = .ok (.iload_n 2, 1) := by decide +kernel
theorem dX4_loses_43 : decode cX4_loses 43 = .ok (.ireturn, 1) := by decide +kernel
set_option maxRecDepth 20000 in
theorem ggX4_known_X4_isMinute : GoodIn wsX4_known wsX4_isMinute := goodIn_r _ [5, 6, 7, 4, 8] (by decide +kernel) (by decide +kernel)
set_option maxRecDepth 20000 in
theorem gX4_known_X4_isMinute : GoodIn wsX4_known (va_wsS RX4 48 yX4_isMinute wsX4_isMinute) := goodIn_app (goodIn_of _ (by decide +kernel)) ggX4_known_X4_isMinute
set_option maxRecDepth 20000 in
theorem ggX4_known_X3_coldIn : GoodIn wsX4_known wsX3_coldIn := goodIn_r _ [13, 14, 15, 16, 17, 18, 19, 20, 21, 12, 22, 23, 50, 51, 52] (by decide +kernel) (by decide +kernel)
set_option maxRecDepth 20000 in
theorem gX4_known_X3_coldIn : GoodIn wsX4_known (wsV RX4 74 RX3 yX3_coldIn wsX3_coldIn) := goodIn_app (goodIn_of _ (by decide +kernel)) ggX4_known_X3_coldIn
set_option maxRecDepth 20000 in
theorem ggX4_known_X3_fallIn : GoodIn wsX4_known wsX3_fallIn := goodIn_r _ [27, 28, 29, 30, 17, 31, 19, 20, 21, 12, 22, 23, 50, 51, 52] (by decide +kernel) (by decide +kernel)
set_option maxRecDepth 20000 in
theorem gX4_known_X3_fallIn : GoodIn wsX4_known (wsV RX4 78 RX3 yX3_fallIn wsX3_fallIn) := goodIn_app (goodIn_of _ (by decide +kernel)) ggX4_known_X3_fallIn
set_option maxRecDepth 20000 in
theorem ggX4_known_X3_isTold : GoodIn wsX4_known wsX3_isTold := goodIn_r _ [22, 23, 50, 51, 52] (by decide +kernel) (by decide +kernel)
set_option maxRecDepth 20000 in
theorem gX4_known_X3_isTold : GoodIn wsX4_known (wsV RX4 63 RX3 yX3_isTold wsX3_isTold) := goodIn_app (goodIn_of _ (by decide +kernel)) ggX4_known_X3_isTold
set_option maxRecDepth 20000 in
theorem ggX4_known_X4_oneIf : GoodIn wsX4_known wsX4_oneIf := goodIn_r _ [35] (by decide +kernel) (by decide +kernel)
set_option maxRecDepth 20000 in
theorem gX4_known_X4_oneIf : GoodIn wsX4_known (va_wsS RX4 66 yX4_oneIf wsX4_oneIf) := goodIn_app (goodIn_of _ (by decide +kernel)) ggX4_known_X4_oneIf
theorem dX4_known_0 : decode cX4_known 0 = .ok (.iload_n 1, 1) := by decide +kernel
theorem dX4_known_1 : decode cX4_known 1 = .ok (.invokestatic 48, 3) := by decide +kernel
theorem dX4_known_4 : decode cX4_known 4 = .ok (.ifCond .ne 6, 3) := by decide +kernel
theorem dX4_known_7 : decode cX4_known 7 = .ok (.bipush (-100), 2) := by decide +kernel
theorem dX4_known_9 : decode cX4_known 9 = .ok (.ireturn, 1) := by decide +kernel
theorem dX4_known_10 : decode cX4_known 10 = .ok (.iload_n 2, 1) := by decide +kernel
theorem dX4_known_11 : decode cX4_known 11 = .ok (.tableswitch 55 0 2 #[25, 34, 43], 25) := by decide +kernel
theorem dX4_known_36 : decode cX4_known 36 = .ok (.aload_n 0, 1) := by decide +kernel
theorem dX4_known_37 : decode cX4_known 37 = .ok (.getfield 10, 3) := by decide +kernel
theorem dX4_known_40 : decode cX4_known 40 = .ok (.iload_n 1, 1) := by decide +kernel
theorem dX4_known_41 : decode cX4_known 41 = .ok (.invokevirtual 74, 3) := by decide +kernel
theorem dX4_known_44 : decode cX4_known 44 = .ok (.ireturn, 1) := by decide +kernel
theorem dX4_known_45 : decode cX4_known 45 = .ok (.aload_n 0, 1) := by decide +kernel
theorem dX4_known_46 : decode cX4_known 46 = .ok (.getfield 10, 3) := by decide +kernel
theorem dX4_known_49 : decode cX4_known 49 = .ok (.iload_n 1, 1) := by decide +kernel
theorem dX4_known_50 : decode cX4_known 50 = .ok (.invokevirtual 78, 3) := by decide +kernel
theorem dX4_known_53 : decode cX4_known 53 = .ok (.ireturn, 1) := by decide +kernel
theorem dX4_known_54 : decode cX4_known 54 = .ok (.aload_n 0, 1) := by decide +kernel
theorem dX4_known_55 : decode cX4_known 55 = .ok (.getfield 10, 3) := by decide +kernel
theorem dX4_known_58 : decode cX4_known 58 = .ok (.iload_n 1, 1) := by decide +kernel
theorem dX4_known_59 : decode cX4_known 59 = .ok (.invokevirtual 63, 3) := by decide +kernel
theorem dX4_known_62 : decode cX4_known 62 = .ok (.invokestatic 66, 3) := by decide +kernel
theorem dX4_known_65 : decode cX4_known 65 = .ok (.ireturn, 1) := by decide +kernel
theorem dX4_known_66 : decode cX4_known 66 = .ok (.bipush (-100), 2) := by decide +kernel
theorem dX4_known_68 : decode cX4_known 68 = .ok (.ireturn, 1) := by decide +kernel
set_option maxRecDepth 20000 in
theorem ggX4_fluid_X4_within : GoodIn wsX4_fluid wsX4_within := goodIn_r _ [10] (by decide +kernel) (by decide +kernel)
set_option maxRecDepth 20000 in
theorem gX4_fluid_X4_within : GoodIn wsX4_fluid (va_wsS RX4 52 yX4_within wsX4_within) := goodIn_app (goodIn_of _ (by decide +kernel)) ggX4_fluid_X4_within
set_option maxRecDepth 20000 in
theorem ggX4_fluid_X4_areSpans : GoodIn wsX4_fluid wsX4_areSpans := goodIn_r _ [13] (by decide +kernel) (by decide +kernel)
set_option maxRecDepth 20000 in
theorem gX4_fluid_X4_areSpans : GoodIn wsX4_fluid (va_wsS RX4 81 yX4_areSpans wsX4_areSpans) := goodIn_app (goodIn_of _ (by decide +kernel)) ggX4_fluid_X4_areSpans
set_option maxRecDepth 20000 in
theorem ggX4_fluid_X0_init : GoodIn wsX4_fluid wsX0_init := goodIn_r _ [16, 17, 18, 19, 20, 21, 22, 23, 24, 39, 40, 41, 42, 43] (by decide +kernel) (by decide +kernel)
set_option maxRecDepth 20000 in
theorem gX4_fluid_X0_init : GoodIn wsX4_fluid (wsX0_init) := ggX4_fluid_X0_init
theorem dX4_fluid_0 : decode cX4_fluid 0 = .ok (.iload_n 1, 1) := by decide +kernel
theorem dX4_fluid_1 : decode cX4_fluid 1 = .ok (.iconst 0, 1) := by decide +kernel
theorem dX4_fluid_2 : decode cX4_fluid 2 = .ok (.iconst 2, 1) := by decide +kernel
theorem dX4_fluid_3 : decode cX4_fluid 3 = .ok (.invokestatic 52, 3) := by decide +kernel
theorem dX4_fluid_6 : decode cX4_fluid 6 = .ok (.ifCond .eq 15, 3) := by decide +kernel
theorem dX4_fluid_9 : decode cX4_fluid 9 = .ok (.iload_n 2, 1) := by decide +kernel
theorem dX4_fluid_10 : decode cX4_fluid 10 = .ok (.iload_n 3, 1) := by decide +kernel
theorem dX4_fluid_11 : decode cX4_fluid 11 = .ok (.iload 4, 2) := by decide +kernel
theorem dX4_fluid_13 : decode cX4_fluid 13 = .ok (.iload 5, 2) := by decide +kernel
theorem dX4_fluid_15 : decode cX4_fluid 15 = .ok (.invokestatic 81, 3) := by decide +kernel
theorem dX4_fluid_18 : decode cX4_fluid 18 = .ok (.ifCond .ne 6, 3) := by decide +kernel
theorem dX4_fluid_21 : decode cX4_fluid 21 = .ok (.bipush (-100), 2) := by decide +kernel
theorem dX4_fluid_23 : decode cX4_fluid 23 = .ok (.ireturn, 1) := by decide +kernel
theorem dX4_fluid_24 : decode cX4_fluid 24 = .ok (.iload_n 1, 1) := by decide +kernel
theorem dX4_fluid_25 : decode cX4_fluid 25 = .ok (.ifCond .eq 16, 3) := by decide +kernel
theorem dX4_fluid_28 : decode cX4_fluid 28 = .ok (.iload 6, 2) := by decide +kernel
theorem dX4_fluid_30 : decode cX4_fluid 30 = .ok (.iconst 1, 1) := by decide +kernel
theorem dX4_fluid_31 : decode cX4_fluid 31 = .ok (.iconst 4, 1) := by decide +kernel
theorem dX4_fluid_32 : decode cX4_fluid 32 = .ok (.invokestatic 52, 3) := by decide +kernel
theorem dX4_fluid_35 : decode cX4_fluid 35 = .ok (.ifCond .ne 6, 3) := by decide +kernel
theorem dX4_fluid_38 : decode cX4_fluid 38 = .ok (.bipush (-100), 2) := by decide +kernel
theorem dX4_fluid_40 : decode cX4_fluid 40 = .ok (.ireturn, 1) := by decide +kernel
theorem dX4_fluid_41 : decode cX4_fluid 41 = .ok (.iload_n 1, 1) := by decide +kernel
theorem dX4_fluid_42 : decode cX4_fluid 42 = .ok (.iconst 2, 1) := by decide +kernel
theorem dX4_fluid_43 : decode cX4_fluid 43 = .ok (.if_icmp .ne 17, 3) := by decide +kernel
theorem dX4_fluid_46 : decode cX4_fluid 46 = .ok (.iload 7, 2) := by decide +kernel
theorem dX4_fluid_48 : decode cX4_fluid 48 = .ok (.iconst 1, 1) := by decide +kernel
theorem dX4_fluid_49 : decode cX4_fluid 49 = .ok (.bipush 10, 2) := by decide +kernel
theorem dX4_fluid_51 : decode cX4_fluid 51 = .ok (.invokestatic 52, 3) := by decide +kernel
theorem dX4_fluid_54 : decode cX4_fluid 54 = .ok (.ifCond .ne 6, 3) := by decide +kernel
theorem dX4_fluid_57 : decode cX4_fluid 57 = .ok (.bipush (-100), 2) := by decide +kernel
theorem dX4_fluid_59 : decode cX4_fluid 59 = .ok (.ireturn, 1) := by decide +kernel
theorem dX4_fluid_60 : decode cX4_fluid 60 = .ok (.iload 8, 2) := by decide +kernel
theorem dX4_fluid_62 : decode cX4_fluid 62 = .ok (.iconst 0, 1) := by decide +kernel
theorem dX4_fluid_63 : decode cX4_fluid 63 = .ok (.sipush 2000, 3) := by decide +kernel
theorem dX4_fluid_66 : decode cX4_fluid 66 = .ok (.invokestatic 52, 3) := by decide +kernel
theorem dX4_fluid_69 : decode cX4_fluid 69 = .ok (.ifCond .ne 6, 3) := by decide +kernel
theorem dX4_fluid_72 : decode cX4_fluid 72 = .ok (.bipush (-100), 2) := by decide +kernel
theorem dX4_fluid_74 : decode cX4_fluid 74 = .ok (.ireturn, 1) := by decide +kernel
theorem dX4_fluid_75 : decode cX4_fluid 75 = .ok (.aload_n 0, 1) := by decide +kernel
theorem dX4_fluid_76 : decode cX4_fluid 76 = .ok (.getfield 85, 3) := by decide +kernel
theorem dX4_fluid_79 : decode cX4_fluid 79 = .ok (.aload_n 0, 1) := by decide +kernel
theorem dX4_fluid_80 : decode cX4_fluid 80 = .ok (.getfield 18, 3) := by decide +kernel
theorem dX4_fluid_83 : decode cX4_fluid 83 = .ok (.arraylength, 1) := by decide +kernel
theorem dX4_fluid_84 : decode cX4_fluid 84 = .ok (.if_icmp .lt 7, 3) := by decide +kernel
theorem dX4_fluid_87 : decode cX4_fluid 87 = .ok (.sipush (-300), 3) := by decide +kernel
theorem dX4_fluid_90 : decode cX4_fluid 90 = .ok (.ireturn, 1) := by decide +kernel
theorem dX4_fluid_91 : decode cX4_fluid 91 = .ok (.aload_n 0, 1) := by decide +kernel
theorem dX4_fluid_92 : decode cX4_fluid 92 = .ok (.getfield 85, 3) := by decide +kernel
theorem dX4_fluid_95 : decode cX4_fluid 95 = .ok (.istore 9, 2) := by decide +kernel
theorem dX4_fluid_97 : decode cX4_fluid 97 = .ok (.iconst 4, 1) := by decide +kernel
theorem dX4_fluid_98 : decode cX4_fluid 98 = .ok (.newarray .int, 2) := by decide +kernel
theorem dX4_fluid_100 : decode cX4_fluid 100 = .ok (.dup, 1) := by decide +kernel
theorem dX4_fluid_101 : decode cX4_fluid 101 = .ok (.iconst 0, 1) := by decide +kernel
theorem dX4_fluid_102 : decode cX4_fluid 102 = .ok (.iload_n 2, 1) := by decide +kernel
theorem dX4_fluid_103 : decode cX4_fluid 103 = .ok (.iastore, 1) := by decide +kernel
theorem dX4_fluid_104 : decode cX4_fluid 104 = .ok (.dup, 1) := by decide +kernel
theorem dX4_fluid_105 : decode cX4_fluid 105 = .ok (.iconst 1, 1) := by decide +kernel
theorem dX4_fluid_106 : decode cX4_fluid 106 = .ok (.iload_n 3, 1) := by decide +kernel
theorem dX4_fluid_107 : decode cX4_fluid 107 = .ok (.iastore, 1) := by decide +kernel
theorem dX4_fluid_108 : decode cX4_fluid 108 = .ok (.dup, 1) := by decide +kernel
theorem dX4_fluid_109 : decode cX4_fluid 109 = .ok (.iconst 2, 1) := by decide +kernel
theorem dX4_fluid_110 : decode cX4_fluid 110 = .ok (.iload 4, 2) := by decide +kernel
theorem dX4_fluid_112 : decode cX4_fluid 112 = .ok (.iastore, 1) := by decide +kernel
theorem dX4_fluid_113 : decode cX4_fluid 113 = .ok (.dup, 1) := by decide +kernel
theorem dX4_fluid_114 : decode cX4_fluid 114 = .ok (.iconst 3, 1) := by decide +kernel
theorem dX4_fluid_115 : decode cX4_fluid 115 = .ok (.iload 5, 2) := by decide +kernel
theorem dX4_fluid_117 : decode cX4_fluid 117 = .ok (.iastore, 1) := by decide +kernel
theorem dX4_fluid_118 : decode cX4_fluid 118 = .ok (.astore 10, 2) := by decide +kernel
theorem dX4_fluid_120 : decode cX4_fluid 120 = .ok (.aload_n 0, 1) := by decide +kernel
theorem dX4_fluid_121 : decode cX4_fluid 121 = .ok (.getfield 18, 3) := by decide +kernel
theorem dX4_fluid_124 : decode cX4_fluid 124 = .ok (.iload 9, 2) := by decide +kernel
theorem dX4_fluid_126 : decode cX4_fluid 126 = .ok (.new 16, 3) := by decide +kernel
theorem dX4_fluid_129 : decode cX4_fluid 129 = .ok (.dup, 1) := by decide +kernel
theorem dX4_fluid_130 : decode cX4_fluid 130 = .ok (.iload_n 1, 1) := by decide +kernel
theorem dX4_fluid_131 : decode cX4_fluid 131 = .ok (.aload 10, 2) := by decide +kernel
theorem dX4_fluid_133 : decode cX4_fluid 133 = .ok (.iload 6, 2) := by decide +kernel
theorem dX4_fluid_135 : decode cX4_fluid 135 = .ok (.iload 7, 2) := by decide +kernel
theorem dX4_fluid_137 : decode cX4_fluid 137 = .ok (.iload 8, 2) := by decide +kernel
theorem dX4_fluid_139 : decode cX4_fluid 139 = .ok (.invokespecial 88, 3) := by decide +kernel
theorem dX4_fluid_142 : decode cX4_fluid 142 = .ok (.aastore, 1) := by decide +kernel
theorem dX4_fluid_143 : decode cX4_fluid 143 = .ok (.aload_n 0, 1) := by decide +kernel
theorem dX4_fluid_144 : decode cX4_fluid 144 = .ok (.dup, 1) := by decide +kernel
theorem dX4_fluid_145 : decode cX4_fluid 145 = .ok (.getfield 85, 3) := by decide +kernel
theorem dX4_fluid_148 : decode cX4_fluid 148 = .ok (.iconst 1, 1) := by decide +kernel
theorem dX4_fluid_149 : decode cX4_fluid 149 = .ok (.iadd, 1) := by decide +kernel
theorem dX4_fluid_150 : decode cX4_fluid 150 = .ok (.putfield 85, 3) := by decide +kernel
theorem dX4_fluid_153 : decode cX4_fluid 153 = .ok (.iload 9, 2) := by decide +kernel
theorem dX4_fluid_155 : decode cX4_fluid 155 = .ok (.ireturn, 1) := by decide +kernel
set_option maxRecDepth 20000 in
theorem ggX4_hold_X4_fluidAt : GoodIn wsX4_hold wsX4_fluidAt := goodIn_r _ [6, 7, 8, 9, 5, 10, 59, 60, 61, 62, 63, 64, 65, 66, 67, 68, 69, 70, 71, 72] (by decide +kernel) (by decide +kernel)
set_option maxRecDepth 20000 in
theorem gX4_hold_X4_fluidAt : GoodIn wsX4_hold (wsV RX4 91 RX4 yX4_fluidAt wsX4_fluidAt) := goodIn_app (goodIn_of _ (by decide +kernel)) ggX4_hold_X4_fluidAt
set_option maxRecDepth 20000 in
theorem ggX4_hold_X4_isMinute : GoodIn wsX4_hold wsX4_isMinute := goodIn_r _ [13, 8, 9, 5, 10] (by decide +kernel) (by decide +kernel)
set_option maxRecDepth 20000 in
theorem gX4_hold_X4_isMinute : GoodIn wsX4_hold (va_wsS RX4 48 yX4_isMinute wsX4_isMinute) := goodIn_app (goodIn_of _ (by decide +kernel)) ggX4_hold_X4_isMinute
set_option maxRecDepth 20000 in
theorem ggX4_hold_X0_traceOfBodies : GoodIn wsX4_hold wsX0_traceOfBodies := goodIn_r _ [18, 19, 73, 74, 75, 76, 77] (by decide +kernel) (by decide +kernel)
set_option maxRecDepth 20000 in
theorem gX4_hold_X0_traceOfBodies : GoodIn wsX4_hold (wsV RX4 99 RX0 yX0_traceOfBodies wsX0_traceOfBodies) := goodIn_app (goodIn_of _ (by decide +kernel)) ggX4_hold_X0_traceOfBodies
set_option maxRecDepth 20000 in
theorem ggX4_hold_X4_holdIn : GoodIn wsX4_hold wsX4_holdIn := goodIn_r _ [23, 24, 25, 26, 27, 28, 29, 30, 31, 32, 33, 34, 35, 36, 37, 38, 39, 40, 41, 42, 43, 44, 45, 46, 47, 48, 49, 50, 17, 51, 19, 52, 53, 54, 55, 56, 57, 58, 59, 60, 61, 62, 63, 64, 65, 66, 67, 68, 69, 70, 71, 72, 78, 79, 80, 73, 74, 75, 76, 77] (by decide +kernel) (by decide +kernel)
set_option maxRecDepth 20000 in
theorem gX4_hold_X4_holdIn : GoodIn wsX4_hold (wsV RX4 103 RX4 yX4_holdIn wsX4_holdIn) := goodIn_app (goodIn_of _ (by decide +kernel)) ggX4_hold_X4_holdIn
theorem dX4_hold_0 : decode cX4_hold 0 = .ok (.aload_n 0, 1) := by decide +kernel
theorem dX4_hold_1 : decode cX4_hold 1 = .ok (.iload_n 1, 1) := by decide +kernel
theorem dX4_hold_2 : decode cX4_hold 2 = .ok (.invokevirtual 91, 3) := by decide +kernel
theorem dX4_hold_5 : decode cX4_hold 5 = .ok (.astore_n 3, 1) := by decide +kernel
theorem dX4_hold_6 : decode cX4_hold 6 = .ok (.aload_n 3, 1) := by decide +kernel
theorem dX4_hold_7 : decode cX4_hold 7 = .ok (.ifnull 10, 3) := by decide +kernel
theorem dX4_hold_10 : decode cX4_hold 10 = .ok (.iload_n 2, 1) := by decide +kernel
theorem dX4_hold_11 : decode cX4_hold 11 = .ok (.invokestatic 48, 3) := by decide +kernel
theorem dX4_hold_14 : decode cX4_hold 14 = .ok (.ifCond .ne 6, 3) := by decide +kernel
theorem dX4_hold_17 : decode cX4_hold 17 = .ok (.bipush (-100), 2) := by decide +kernel
theorem dX4_hold_19 : decode cX4_hold 19 = .ok (.ireturn, 1) := by decide +kernel
theorem dX4_hold_20 : decode cX4_hold 20 = .ok (.aload_n 0, 1) := by decide +kernel
theorem dX4_hold_21 : decode cX4_hold 21 = .ok (.dup, 1) := by decide +kernel
theorem dX4_hold_22 : decode cX4_hold 22 = .ok (.getfield 95, 3) := by decide +kernel
theorem dX4_hold_25 : decode cX4_hold 25 = .ok (.aload_n 3, 1) := by decide +kernel
theorem dX4_hold_26 : decode cX4_hold 26 = .ok (.invokevirtual 99, 3) := by decide +kernel
theorem dX4_hold_29 : decode cX4_hold 29 = .ok (.i2l, 1) := by decide +kernel
theorem dX4_hold_30 : decode cX4_hold 30 = .ok (.ladd, 1) := by decide +kernel
theorem dX4_hold_31 : decode cX4_hold 31 = .ok (.putfield 95, 3) := by decide +kernel
theorem dX4_hold_34 : decode cX4_hold 34 = .ok (.aload_n 0, 1) := by decide +kernel
theorem dX4_hold_35 : decode cX4_hold 35 = .ok (.aload_n 3, 1) := by decide +kernel
theorem dX4_hold_36 : decode cX4_hold 36 = .ok (.iload_n 2, 1) := by decide +kernel
theorem dX4_hold_37 : decode cX4_hold 37 = .ok (.invokevirtual 103, 3) := by decide +kernel
theorem dX4_hold_40 : decode cX4_hold 40 = .ok (.ireturn, 1) := by decide +kernel
set_option maxRecDepth 20000 in
theorem ggX4_fill_X4_fluidAt : GoodIn wsX4_fill wsX4_fluidAt := goodIn_r _ [6, 7, 8, 9, 5, 10, 16, 17, 18, 19, 20, 21, 22, 23, 24, 25, 26, 27, 28, 29] (by decide +kernel) (by decide +kernel)
set_option maxRecDepth 20000 in
theorem gX4_fill_X4_fluidAt : GoodIn wsX4_fill (wsV RX4 91 RX4 yX4_fluidAt wsX4_fluidAt) := goodIn_app (goodIn_of _ (by decide +kernel)) ggX4_fill_X4_fluidAt
set_option maxRecDepth 20000 in
theorem ggX4_fill_X4_within : GoodIn wsX4_fill wsX4_within := goodIn_r _ [10] (by decide +kernel) (by decide +kernel)
set_option maxRecDepth 20000 in
theorem gX4_fill_X4_within : GoodIn wsX4_fill (va_wsS RX4 52 yX4_within wsX4_within) := goodIn_app (goodIn_of _ (by decide +kernel)) ggX4_fill_X4_within
theorem dX4_fill_0 : decode cX4_fill 0 = .ok (.aload_n 0, 1) := by decide +kernel
theorem dX4_fill_1 : decode cX4_fill 1 = .ok (.iload_n 1, 1) := by decide +kernel
theorem dX4_fill_2 : decode cX4_fill 2 = .ok (.invokevirtual 91, 3) := by decide +kernel
theorem dX4_fill_5 : decode cX4_fill 5 = .ok (.astore_n 3, 1) := by decide +kernel
theorem dX4_fill_6 : decode cX4_fill 6 = .ok (.aload_n 3, 1) := by decide +kernel
theorem dX4_fill_7 : decode cX4_fill 7 = .ok (.ifnull 14, 3) := by decide +kernel
theorem dX4_fill_10 : decode cX4_fill 10 = .ok (.iload_n 2, 1) := by decide +kernel
theorem dX4_fill_11 : decode cX4_fill 11 = .ok (.iconst 0, 1) := by decide +kernel
theorem dX4_fill_12 : decode cX4_fill 12 = .ok (.sipush 2000, 3) := by decide +kernel
theorem dX4_fill_15 : decode cX4_fill 15 = .ok (.invokestatic 52, 3) := by decide +kernel
theorem dX4_fill_18 : decode cX4_fill 18 = .ok (.ifCond .ne 6, 3) := by decide +kernel
theorem dX4_fill_21 : decode cX4_fill 21 = .ok (.bipush (-100), 2) := by decide +kernel
theorem dX4_fill_23 : decode cX4_fill 23 = .ok (.ireturn, 1) := by decide +kernel
theorem dX4_fill_24 : decode cX4_fill 24 = .ok (.aload_n 3, 1) := by decide +kernel
theorem dX4_fill_25 : decode cX4_fill 25 = .ok (.getfield 107, 3) := by decide +kernel
theorem dX4_fill_28 : decode cX4_fill 28 = .ok (.istore 4, 2) := by decide +kernel
theorem dX4_fill_30 : decode cX4_fill 30 = .ok (.aload_n 3, 1) := by decide +kernel
theorem dX4_fill_31 : decode cX4_fill 31 = .ok (.iload_n 2, 1) := by decide +kernel
theorem dX4_fill_32 : decode cX4_fill 32 = .ok (.putfield 107, 3) := by decide +kernel
theorem dX4_fill_35 : decode cX4_fill 35 = .ok (.iload 4, 2) := by decide +kernel
theorem dX4_fill_37 : decode cX4_fill 37 = .ok (.ireturn, 1) := by decide +kernel
set_option maxRecDepth 20000 in
theorem ggX4_set_X4_changePads : GoodIn wsX4_set wsX4_changePads := goodIn_r _ [5, 6, 7, 8, 4, 9, 10, 11, 12, 13, 14, 15, 16, 17, 18, 19, 20, 21, 22, 23, 24, 25, 26, 37, 38, 39, 40, 41, 42, 43, 44, 45, 46, 47, 48, 49, 50, 51, 52, 53, 54, 55, 56, 57, 58, 59, 60, 61] (by decide +kernel) (by decide +kernel)
set_option maxRecDepth 20000 in
theorem gX4_set_X4_changePads : GoodIn wsX4_set (wsV RX4 110 RX4 yX4_changePads wsX4_changePads) := goodIn_app (goodIn_of _ (by decide +kernel)) ggX4_set_X4_changePads
set_option maxRecDepth 20000 in
theorem ggX4_set_X4_changeLimit : GoodIn wsX4_set wsX4_changeLimit := goodIn_r _ [30, 31, 7, 8, 4, 9, 37, 38, 39, 40, 41, 42, 43, 44, 45, 46, 47, 48, 49, 50] (by decide +kernel) (by decide +kernel)
set_option maxRecDepth 20000 in
theorem gX4_set_X4_changeLimit : GoodIn wsX4_set (wsV RX4 113 RX4 yX4_changeLimit wsX4_changeLimit) := goodIn_app (goodIn_of _ (by decide +kernel)) ggX4_set_X4_changeLimit
set_option maxRecDepth 20000 in
theorem ggX4_set_X4_changeRate : GoodIn wsX4_set wsX4_changeRate := goodIn_r _ [35, 36, 7, 8, 4, 9, 37, 38, 39, 40, 41, 42, 43, 44, 45, 46, 47, 48, 49, 50] (by decide +kernel) (by decide +kernel)
set_option maxRecDepth 20000 in
theorem gX4_set_X4_changeRate : GoodIn wsX4_set (wsV RX4 116 RX4 yX4_changeRate wsX4_changeRate) := goodIn_app (goodIn_of _ (by decide +kernel)) ggX4_set_X4_changeRate
theorem dX4_set_0 : decode cX4_set 0 = .ok (.iload_n 1, 1) := by decide +kernel
theorem dX4_set_1 : decode cX4_set 1 = .ok (.tableswitch 45 0 2 #[27, 33, 39], 27) := by decide +kernel
theorem dX4_set_28 : decode cX4_set 28 = .ok (.aload_n 0, 1) := by decide +kernel
theorem dX4_set_29 : decode cX4_set 29 = .ok (.iload_n 2, 1) := by decide +kernel
theorem dX4_set_30 : decode cX4_set 30 = .ok (.invokevirtual 110, 3) := by decide +kernel
theorem dX4_set_33 : decode cX4_set 33 = .ok (.ireturn, 1) := by decide +kernel
theorem dX4_set_34 : decode cX4_set 34 = .ok (.aload_n 0, 1) := by decide +kernel
theorem dX4_set_35 : decode cX4_set 35 = .ok (.iload_n 2, 1) := by decide +kernel
theorem dX4_set_36 : decode cX4_set 36 = .ok (.invokevirtual 113, 3) := by decide +kernel
theorem dX4_set_39 : decode cX4_set 39 = .ok (.ireturn, 1) := by decide +kernel
theorem dX4_set_40 : decode cX4_set 40 = .ok (.aload_n 0, 1) := by decide +kernel
theorem dX4_set_41 : decode cX4_set 41 = .ok (.iload_n 2, 1) := by decide +kernel
theorem dX4_set_42 : decode cX4_set 42 = .ok (.invokevirtual 116, 3) := by decide +kernel
theorem dX4_set_45 : decode cX4_set 45 = .ok (.ireturn, 1) := by decide +kernel
theorem dX4_set_46 : decode cX4_set 46 = .ok (.bipush (-100), 2) := by decide +kernel
theorem dX4_set_48 : decode cX4_set 48 = .ok (.ireturn, 1) := by decide +kernel
set_option maxRecDepth 20000 in
theorem ggX4_jet_X4_fluidAt : GoodIn wsX4_jet wsX4_fluidAt := goodIn_r _ [11, 12, 13, 14, 10, 15, 34, 35, 36, 37, 38, 39, 40, 41, 42, 43, 44, 45, 46, 47] (by decide +kernel) (by decide +kernel)
set_option maxRecDepth 20000 in
theorem gX4_jet_X4_fluidAt : GoodIn wsX4_jet (wsV RX4 91 RX4 yX4_fluidAt wsX4_fluidAt) := goodIn_app (goodIn_of _ (by decide +kernel)) ggX4_jet_X4_fluidAt
set_option maxRecDepth 20000 in
theorem ggX4_jet_X4_within : GoodIn wsX4_jet wsX4_within := goodIn_r _ [15] (by decide +kernel) (by decide +kernel)
set_option maxRecDepth 20000 in
theorem gX4_jet_X4_within : GoodIn wsX4_jet (va_wsS RX4 52 yX4_within wsX4_within) := goodIn_app (goodIn_of _ (by decide +kernel)) ggX4_jet_X4_within
set_option maxRecDepth 20000 in
theorem ggX4_jet_X4_isMinute : GoodIn wsX4_jet wsX4_isMinute := goodIn_r _ [18, 13, 14, 10, 15] (by decide +kernel) (by decide +kernel)
set_option maxRecDepth 20000 in
theorem gX4_jet_X4_isMinute : GoodIn wsX4_jet (va_wsS RX4 48 yX4_isMinute wsX4_isMinute) := goodIn_app (goodIn_of _ (by decide +kernel)) ggX4_jet_X4_isMinute
set_option maxRecDepth 20000 in
theorem ggX4_jet_X1_init : GoodIn wsX4_jet wsX1_init := goodIn_r _ [21, 22, 23, 24, 25, 26, 27, 28, 29, 30, 31, 32, 33, 48, 49, 50, 51, 52, 53, 54, 55, 56, 57, 58] (by decide +kernel) (by decide +kernel)
set_option maxRecDepth 20000 in
theorem gX4_jet_X1_init : GoodIn wsX4_jet (wsX1_init) := ggX4_jet_X1_init
theorem dX4_jet_0 : decode cX4_jet 0 = .ok (.aload_n 0, 1) := by decide +kernel
theorem dX4_jet_1 : decode cX4_jet 1 = .ok (.iload 4, 2) := by decide +kernel
theorem dX4_jet_3 : decode cX4_jet 3 = .ok (.invokevirtual 91, 3) := by decide +kernel
theorem dX4_jet_6 : decode cX4_jet 6 = .ok (.astore 5, 2) := by decide +kernel
theorem dX4_jet_8 : decode cX4_jet 8 = .ok (.aload 5, 2) := by decide +kernel
theorem dX4_jet_10 : decode cX4_jet 10 = .ok (.ifnull 22, 3) := by decide +kernel
theorem dX4_jet_13 : decode cX4_jet 13 = .ok (.iload_n 1, 1) := by decide +kernel
theorem dX4_jet_14 : decode cX4_jet 14 = .ok (.iconst 1, 1) := by decide +kernel
theorem dX4_jet_15 : decode cX4_jet 15 = .ok (.iconst 5, 1) := by decide +kernel
theorem dX4_jet_16 : decode cX4_jet 16 = .ok (.invokestatic 52, 3) := by decide +kernel
theorem dX4_jet_19 : decode cX4_jet 19 = .ok (.ifCond .eq 13, 3) := by decide +kernel
theorem dX4_jet_22 : decode cX4_jet 22 = .ok (.iload_n 3, 1) := by decide +kernel
theorem dX4_jet_23 : decode cX4_jet 23 = .ok (.iconst 1, 1) := by decide +kernel
theorem dX4_jet_24 : decode cX4_jet 24 = .ok (.bipush 20, 2) := by decide +kernel
theorem dX4_jet_26 : decode cX4_jet 26 = .ok (.invokestatic 52, 3) := by decide +kernel
theorem dX4_jet_29 : decode cX4_jet 29 = .ok (.ifCond .ne 6, 3) := by decide +kernel
theorem dX4_jet_32 : decode cX4_jet 32 = .ok (.bipush (-100), 2) := by decide +kernel
theorem dX4_jet_34 : decode cX4_jet 34 = .ok (.ireturn, 1) := by decide +kernel
theorem dX4_jet_35 : decode cX4_jet 35 = .ok (.iload_n 2, 1) := by decide +kernel
theorem dX4_jet_36 : decode cX4_jet 36 = .ok (.invokestatic 48, 3) := by decide +kernel
theorem dX4_jet_39 : decode cX4_jet 39 = .ok (.ifCond .eq 11, 3) := by decide +kernel
theorem dX4_jet_42 : decode cX4_jet 42 = .ok (.iload_n 2, 1) := by decide +kernel
theorem dX4_jet_43 : decode cX4_jet 43 = .ok (.aload_n 0, 1) := by decide +kernel
theorem dX4_jet_44 : decode cX4_jet 44 = .ok (.getfield 56, 3) := by decide +kernel
theorem dX4_jet_47 : decode cX4_jet 47 = .ok (.if_icmp .ge 6, 3) := by decide +kernel
theorem dX4_jet_50 : decode cX4_jet 50 = .ok (.bipush (-100), 2) := by decide +kernel
theorem dX4_jet_52 : decode cX4_jet 52 = .ok (.ireturn, 1) := by decide +kernel
theorem dX4_jet_53 : decode cX4_jet 53 = .ok (.aload_n 0, 1) := by decide +kernel
theorem dX4_jet_54 : decode cX4_jet 54 = .ok (.getfield 119, 3) := by decide +kernel
theorem dX4_jet_57 : decode cX4_jet 57 = .ok (.aload_n 0, 1) := by decide +kernel
theorem dX4_jet_58 : decode cX4_jet 58 = .ok (.getfield 24, 3) := by decide +kernel
theorem dX4_jet_61 : decode cX4_jet 61 = .ok (.arraylength, 1) := by decide +kernel
theorem dX4_jet_62 : decode cX4_jet 62 = .ok (.if_icmp .lt 7, 3) := by decide +kernel
theorem dX4_jet_65 : decode cX4_jet 65 = .ok (.sipush (-300), 3) := by decide +kernel
theorem dX4_jet_68 : decode cX4_jet 68 = .ok (.ireturn, 1) := by decide +kernel
theorem dX4_jet_69 : decode cX4_jet 69 = .ok (.aload_n 0, 1) := by decide +kernel
theorem dX4_jet_70 : decode cX4_jet 70 = .ok (.getfield 119, 3) := by decide +kernel
theorem dX4_jet_73 : decode cX4_jet 73 = .ok (.istore 6, 2) := by decide +kernel
theorem dX4_jet_75 : decode cX4_jet 75 = .ok (.aload_n 0, 1) := by decide +kernel
theorem dX4_jet_76 : decode cX4_jet 76 = .ok (.getfield 24, 3) := by decide +kernel
theorem dX4_jet_79 : decode cX4_jet 79 = .ok (.iload 6, 2) := by decide +kernel
theorem dX4_jet_81 : decode cX4_jet 81 = .ok (.new 22, 3) := by decide +kernel
theorem dX4_jet_84 : decode cX4_jet 84 = .ok (.dup, 1) := by decide +kernel
theorem dX4_jet_85 : decode cX4_jet 85 = .ok (.iload 6, 2) := by decide +kernel
theorem dX4_jet_87 : decode cX4_jet 87 = .ok (.iload_n 1, 1) := by decide +kernel
theorem dX4_jet_88 : decode cX4_jet 88 = .ok (.iload_n 2, 1) := by decide +kernel
theorem dX4_jet_89 : decode cX4_jet 89 = .ok (.iload_n 3, 1) := by decide +kernel
theorem dX4_jet_90 : decode cX4_jet 90 = .ok (.aload 5, 2) := by decide +kernel
theorem dX4_jet_92 : decode cX4_jet 92 = .ok (.invokespecial 122, 3) := by decide +kernel
theorem dX4_jet_95 : decode cX4_jet 95 = .ok (.aastore, 1) := by decide +kernel
theorem dX4_jet_96 : decode cX4_jet 96 = .ok (.aload_n 0, 1) := by decide +kernel
theorem dX4_jet_97 : decode cX4_jet 97 = .ok (.dup, 1) := by decide +kernel
theorem dX4_jet_98 : decode cX4_jet 98 = .ok (.getfield 119, 3) := by decide +kernel
theorem dX4_jet_101 : decode cX4_jet 101 = .ok (.iconst 1, 1) := by decide +kernel
theorem dX4_jet_102 : decode cX4_jet 102 = .ok (.iadd, 1) := by decide +kernel
theorem dX4_jet_103 : decode cX4_jet 103 = .ok (.putfield 119, 3) := by decide +kernel
theorem dX4_jet_106 : decode cX4_jet 106 = .ok (.iload 6, 2) := by decide +kernel
theorem dX4_jet_108 : decode cX4_jet 108 = .ok (.ireturn, 1) := by decide +kernel
set_option maxRecDepth 20000 in
theorem ggX4_minutes_X4_within : GoodIn wsX4_minutes wsX4_within := goodIn_r _ [5] (by decide +kernel) (by decide +kernel)
set_option maxRecDepth 20000 in
theorem gX4_minutes_X4_within : GoodIn wsX4_minutes (va_wsS RX4 52 yX4_within wsX4_within) := goodIn_app (goodIn_of _ (by decide +kernel)) ggX4_minutes_X4_within
set_option maxRecDepth 20000 in
theorem ggX4_minutes_X4_passMinute : GoodIn wsX4_minutes wsX4_passMinute := goodIn_r _ [9, 10, 11, 12, 13, 14, 15, 16, 1, 17, 18, 19, 4, 20, 21, 22, 23, 24, 25, 26, 27, 28, 29, 30, 31, 32, 33, 34, 35, 36, 37, 38, 39, 40, 41, 42, 43, 44, 45, 46, 47, 48, 49, 50, 51, 52, 53, 54, 55, 56, 57, 58, 59, 60, 61, 62, 63, 64, 65, 66, 67, 68, 69, 70, 71, 72, 73, 74, 75, 76, 77, 78, 79, 80, 81, 82, 83, 84, 85, 86, 87, 88, 89, 90, 91, 92, 93, 94, 95, 96, 97, 98, 99, 100, 101, 102, 103, 104, 105, 106, 107, 108, 109, 110, 111, 112, 113, 114, 115, 116, 117, 118, 119, 120, 121, 122, 123, 124, 125, 126, 127, 128, 129, 130, 131, 132, 133, 134, 135, 136, 137, 138, 139, 140, 141, 142, 143, 144, 145, 146, 147, 148, 149] (by decide +kernel) (by decide +kernel)
set_option maxRecDepth 20000 in
theorem gX4_minutes_X4_passMinute : GoodIn wsX4_minutes (wsV RX4 125 RX4 yX4_passMinute wsX4_passMinute) := goodIn_app (goodIn_of _ (by decide +kernel)) ggX4_minutes_X4_passMinute
theorem dX4_minutes_0 : decode cX4_minutes 0 = .ok (.iload_n 1, 1) := by decide +kernel
theorem dX4_minutes_1 : decode cX4_minutes 1 = .ok (.iconst 1, 1) := by decide +kernel
theorem dX4_minutes_2 : decode cX4_minutes 2 = .ok (.bipush 60, 2) := by decide +kernel
theorem dX4_minutes_4 : decode cX4_minutes 4 = .ok (.invokestatic 52, 3) := by decide +kernel
theorem dX4_minutes_7 : decode cX4_minutes 7 = .ok (.ifCond .ne 6, 3) := by decide +kernel
theorem dX4_minutes_10 : decode cX4_minutes 10 = .ok (.bipush (-100), 2) := by decide +kernel
theorem dX4_minutes_12 : decode cX4_minutes 12 = .ok (.ireturn, 1) := by decide +kernel
theorem dX4_minutes_13 : decode cX4_minutes 13 = .ok (.aload_n 0, 1) := by decide +kernel
theorem dX4_minutes_14 : decode cX4_minutes 14 = .ok (.getfield 56, 3) := by decide +kernel
theorem dX4_minutes_17 : decode cX4_minutes 17 = .ok (.iload_n 1, 1) := by decide +kernel
theorem dX4_minutes_18 : decode cX4_minutes 18 = .ok (.iadd, 1) := by decide +kernel
theorem dX4_minutes_19 : decode cX4_minutes 19 = .ok (.sipush 300, 3) := by decide +kernel
theorem dX4_minutes_22 : decode cX4_minutes 22 = .ok (.if_icmp .lt 7, 3) := by decide +kernel
theorem dX4_minutes_25 : decode cX4_minutes 25 = .ok (.sipush (-200), 3) := by decide +kernel
theorem dX4_minutes_28 : decode cX4_minutes 28 = .ok (.ireturn, 1) := by decide +kernel
theorem dX4_minutes_29 : decode cX4_minutes 29 = .ok (.iconst 0, 1) := by decide +kernel
theorem dX4_minutes_30 : decode cX4_minutes 30 = .ok (.istore_n 2, 1) := by decide +kernel
theorem dX4_minutes_31 : decode cX4_minutes 31 = .ok (.iload_n 2, 1) := by decide +kernel
theorem dX4_minutes_32 : decode cX4_minutes 32 = .ok (.iload_n 1, 1) := by decide +kernel
theorem dX4_minutes_33 : decode cX4_minutes 33 = .ok (.if_icmp .ge 13, 3) := by decide +kernel
theorem dX4_minutes_36 : decode cX4_minutes 36 = .ok (.aload_n 0, 1) := by decide +kernel
theorem dX4_minutes_37 : decode cX4_minutes 37 = .ok (.invokevirtual 125, 3) := by decide +kernel
theorem dX4_minutes_40 : decode cX4_minutes 40 = .ok (.iinc 2 1, 3) := by decide +kernel
theorem dX4_minutes_43 : decode cX4_minutes 43 = .ok (.goto (-12), 3) := by decide +kernel
theorem dX4_minutes_46 : decode cX4_minutes 46 = .ok (.aload_n 0, 1) := by decide +kernel
theorem dX4_minutes_47 : decode cX4_minutes 47 = .ok (.getfield 56, 3) := by decide +kernel
theorem dX4_minutes_50 : decode cX4_minutes 50 = .ok (.ireturn, 1) := by decide +kernel
set_option maxRecDepth 20000 in
theorem ggX4_about_X4_jetAt : GoodIn wsX4_about wsX4_jetAt := goodIn_r _ [10, 11, 12, 13, 9, 14, 49, 50, 51, 52, 53, 54, 55, 56, 57, 58, 59, 60, 61, 62] (by decide +kernel) (by decide +kernel)
set_option maxRecDepth 20000 in
theorem gX4_about_X4_jetAt : GoodIn wsX4_about (wsV RX4 128 RX4 yX4_jetAt wsX4_jetAt) := goodIn_app (goodIn_of _ (by decide +kernel)) ggX4_about_X4_jetAt
set_option maxRecDepth 20000 in
theorem ggX4_about_X1_state : GoodIn wsX4_about wsX1_state := goodIn_r _ [19, 20, 21, 22, 23, 18, 24, 25, 38, 39, 40, 41, 42, 43, 44, 45, 46, 47, 48] (by decide +kernel) (by decide +kernel)
set_option maxRecDepth 20000 in
theorem gX4_about_X1_state : GoodIn wsX4_about (wsV RX4 132 RX1 yX1_state wsX1_state) := goodIn_app (goodIn_of _ (by decide +kernel)) ggX4_about_X1_state
set_option maxRecDepth 20000 in
theorem ggX4_about_X1_isGone : GoodIn wsX4_about wsX1_isGone := goodIn_r _ [24, 25, 38, 39, 40, 41, 42, 43, 44, 45, 46, 47, 48] (by decide +kernel) (by decide +kernel)
set_option maxRecDepth 20000 in
theorem gX4_about_X1_isGone : GoodIn wsX4_about (wsV RX4 150 RX1 yX1_isGone wsX1_isGone) := goodIn_app (goodIn_of _ (by decide +kernel)) ggX4_about_X1_isGone
set_option maxRecDepth 20000 in
theorem ggX4_about_X1_late : GoodIn wsX4_about wsX1_late := goodIn_r _ [30, 25, 31, 32, 33, 34, 35, 18, 36, 37, 38, 39, 40, 41, 42, 43, 44, 45, 46, 47, 48] (by decide +kernel) (by decide +kernel)
set_option maxRecDepth 20000 in
theorem gX4_about_X1_late : GoodIn wsX4_about (wsV RX4 154 RX1 yX1_late wsX1_late) := goodIn_app (goodIn_of _ (by decide +kernel)) ggX4_about_X1_late
theorem dX4_about_0 : decode cX4_about 0 = .ok (.aload_n 0, 1) := by decide +kernel
theorem dX4_about_1 : decode cX4_about 1 = .ok (.iload_n 1, 1) := by decide +kernel
theorem dX4_about_2 : decode cX4_about 2 = .ok (.invokevirtual 128, 3) := by decide +kernel
theorem dX4_about_5 : decode cX4_about 5 = .ok (.astore_n 3, 1) := by decide +kernel
theorem dX4_about_6 : decode cX4_about 6 = .ok (.aload_n 3, 1) := by decide +kernel
theorem dX4_about_7 : decode cX4_about 7 = .ok (.ifnonnull 6, 3) := by decide +kernel
theorem dX4_about_10 : decode cX4_about 10 = .ok (.bipush (-100), 2) := by decide +kernel
theorem dX4_about_12 : decode cX4_about 12 = .ok (.ireturn, 1) := by decide +kernel
theorem dX4_about_13 : decode cX4_about 13 = .ok (.iload_n 2, 1) := by decide +kernel
theorem dX4_about_14 : decode cX4_about 14 = .ok (.tableswitch 90 0 6 #[42, 47, 52, 57, 62, 67, 72], 42) := by decide +kernel
theorem dX4_about_56 : decode cX4_about 56 = .ok (.aload_n 3, 1) := by decide +kernel
theorem dX4_about_57 : decode cX4_about 57 = .ok (.invokevirtual 132, 3) := by decide +kernel
theorem dX4_about_60 : decode cX4_about 60 = .ok (.ireturn, 1) := by decide +kernel
theorem dX4_about_61 : decode cX4_about 61 = .ok (.aload_n 3, 1) := by decide +kernel
theorem dX4_about_62 : decode cX4_about 62 = .ok (.getfield 135, 3) := by decide +kernel
theorem dX4_about_65 : decode cX4_about 65 = .ok (.ireturn, 1) := by decide +kernel
theorem dX4_about_66 : decode cX4_about 66 = .ok (.aload_n 3, 1) := by decide +kernel
theorem dX4_about_67 : decode cX4_about 67 = .ok (.getfield 138, 3) := by decide +kernel
theorem dX4_about_70 : decode cX4_about 70 = .ok (.ireturn, 1) := by decide +kernel
theorem dX4_about_71 : decode cX4_about 71 = .ok (.aload_n 3, 1) := by decide +kernel
theorem dX4_about_72 : decode cX4_about 72 = .ok (.getfield 141, 3) := by decide +kernel
theorem dX4_about_75 : decode cX4_about 75 = .ok (.ireturn, 1) := by decide +kernel
theorem dX4_about_76 : decode cX4_about 76 = .ok (.aload_n 3, 1) := by decide +kernel
theorem dX4_about_77 : decode cX4_about 77 = .ok (.getfield 144, 3) := by decide +kernel
theorem dX4_about_80 : decode cX4_about 80 = .ok (.ireturn, 1) := by decide +kernel
theorem dX4_about_81 : decode cX4_about 81 = .ok (.aload_n 3, 1) := by decide +kernel
theorem dX4_about_82 : decode cX4_about 82 = .ok (.getfield 147, 3) := by decide +kernel
theorem dX4_about_85 : decode cX4_about 85 = .ok (.ireturn, 1) := by decide +kernel
theorem dX4_about_86 : decode cX4_about 86 = .ok (.aload_n 3, 1) := by decide +kernel
theorem dX4_about_87 : decode cX4_about 87 = .ok (.invokevirtual 150, 3) := by decide +kernel
theorem dX4_about_90 : decode cX4_about 90 = .ok (.ifCond .eq 10, 3) := by decide +kernel
theorem dX4_about_93 : decode cX4_about 93 = .ok (.aload_n 3, 1) := by decide +kernel
theorem dX4_about_94 : decode cX4_about 94 = .ok (.invokevirtual 154, 3) := by decide +kernel
theorem dX4_about_97 : decode cX4_about 97 = .ok (.goto 6, 3) := by decide +kernel
theorem dX4_about_100 : decode cX4_about 100 = .ok (.sipush (-900), 3) := by decide +kernel
theorem dX4_about_103 : decode cX4_about 103 = .ok (.ireturn, 1) := by decide +kernel
theorem dX4_about_104 : decode cX4_about 104 = .ok (.bipush (-100), 2) := by decide +kernel
theorem dX4_about_106 : decode cX4_about 106 = .ok (.ireturn, 1) := by decide +kernel
set_option maxRecDepth 20000 in
theorem ggX4_on_X4_within : GoodIn wsX4_on wsX4_within := goodIn_r _ [7] (by decide +kernel) (by decide +kernel)
set_option maxRecDepth 20000 in
theorem gX4_on_X4_within : GoodIn wsX4_on (va_wsS RX4 52 yX4_within wsX4_within) := goodIn_app (goodIn_of _ (by decide +kernel)) ggX4_on_X4_within
theorem dX4_on_0 : decode cX4_on 0 = .ok (.iload_n 1, 1) := by decide +kernel
theorem dX4_on_1 : decode cX4_on 1 = .ok (.iconst 0, 1) := by decide +kernel
theorem dX4_on_2 : decode cX4_on 2 = .ok (.aload_n 0, 1) := by decide +kernel
theorem dX4_on_3 : decode cX4_on 3 = .ok (.getfield 38, 3) := by decide +kernel
theorem dX4_on_6 : decode cX4_on 6 = .ok (.iconst 1, 1) := by decide +kernel
theorem dX4_on_7 : decode cX4_on 7 = .ok (.isub, 1) := by decide +kernel
theorem dX4_on_8 : decode cX4_on 8 = .ok (.invokestatic 52, 3) := by decide +kernel
theorem dX4_on_11 : decode cX4_on 11 = .ok (.ifCond .ne 6, 3) := by decide +kernel
theorem dX4_on_14 : decode cX4_on 14 = .ok (.bipush (-100), 2) := by decide +kernel
theorem dX4_on_16 : decode cX4_on 16 = .ok (.ireturn, 1) := by decide +kernel
theorem dX4_on_17 : decode cX4_on 17 = .ok (.aload_n 0, 1) := by decide +kernel
theorem dX4_on_18 : decode cX4_on 18 = .ok (.getfield 28, 3) := by decide +kernel
theorem dX4_on_21 : decode cX4_on 21 = .ok (.iload_n 1, 1) := by decide +kernel
theorem dX4_on_22 : decode cX4_on 22 = .ok (.aaload, 1) := by decide +kernel
theorem dX4_on_23 : decode cX4_on 23 = .ok (.astore_n 2, 1) := by decide +kernel
theorem dX4_on_24 : decode cX4_on 24 = .ok (.aload_n 2, 1) := by decide +kernel
theorem dX4_on_25 : decode cX4_on 25 = .ok (.ifnonnull 9, 3) := by decide +kernel
theorem dX4_on_28 : decode cX4_on 28 = .ok (.sipush (-900), 3) := by decide +kernel
theorem dX4_on_31 : decode cX4_on 31 = .ok (.goto 7, 3) := by decide +kernel
theorem dX4_on_34 : decode cX4_on 34 = .ok (.aload_n 2, 1) := by decide +kernel
theorem dX4_on_35 : decode cX4_on 35 = .ok (.getfield 157, 3) := by decide +kernel
theorem dX4_on_38 : decode cX4_on 38 = .ok (.ireturn, 1) := by decide +kernel
set_option maxRecDepth 20000 in
theorem ggX4_litres_X4_fluidAt : GoodIn wsX4_litres wsX4_fluidAt := goodIn_r _ [6, 7, 8, 9, 5, 10, 16, 17, 18, 19, 20, 21, 22, 23, 24, 25, 26, 27, 28, 29] (by decide +kernel) (by decide +kernel)
set_option maxRecDepth 20000 in
theorem gX4_litres_X4_fluidAt : GoodIn wsX4_litres (wsV RX4 91 RX4 yX4_fluidAt wsX4_fluidAt) := goodIn_app (goodIn_of _ (by decide +kernel)) ggX4_litres_X4_fluidAt
theorem dX4_litres_0 : decode cX4_litres 0 = .ok (.aload_n 0, 1) := by decide +kernel
theorem dX4_litres_1 : decode cX4_litres 1 = .ok (.iload_n 1, 1) := by decide +kernel
theorem dX4_litres_2 : decode cX4_litres 2 = .ok (.invokevirtual 91, 3) := by decide +kernel
theorem dX4_litres_5 : decode cX4_litres 5 = .ok (.astore_n 2, 1) := by decide +kernel
theorem dX4_litres_6 : decode cX4_litres 6 = .ok (.aload_n 2, 1) := by decide +kernel
theorem dX4_litres_7 : decode cX4_litres 7 = .ok (.ifnonnull 8, 3) := by decide +kernel
theorem dX4_litres_10 : decode cX4_litres 10 = .ok (.bipush (-100), 2) := by decide +kernel
theorem dX4_litres_12 : decode cX4_litres 12 = .ok (.goto 7, 3) := by decide +kernel
theorem dX4_litres_15 : decode cX4_litres 15 = .ok (.aload_n 2, 1) := by decide +kernel
theorem dX4_litres_16 : decode cX4_litres 16 = .ok (.getfield 107, 3) := by decide +kernel
theorem dX4_litres_19 : decode cX4_litres 19 = .ok (.ireturn, 1) := by decide +kernel
set_option maxRecDepth 20000 in
theorem ggX4_plan_X4_within : GoodIn wsX4_plan wsX4_within := goodIn_r _ [9] (by decide +kernel) (by decide +kernel)
set_option maxRecDepth 20000 in
theorem gX4_plan_X4_within : GoodIn wsX4_plan (va_wsS RX4 52 yX4_within wsX4_within) := goodIn_app (goodIn_of _ (by decide +kernel)) ggX4_plan_X4_within
set_option maxRecDepth 20000 in
theorem ggX4_plan_X2_gather : GoodIn wsX4_plan wsX2_gather := goodIn_r _ [14, 15, 16, 17, 18, 19, 20, 21, 22, 23, 24, 25, 26, 27, 75, 76, 77, 78, 79, 80, 81, 82, 83, 84, 85, 86, 87, 88, 89, 90, 91] (by decide +kernel) (by decide +kernel)
set_option maxRecDepth 20000 in
theorem gX4_plan_X2_gather : GoodIn wsX4_plan (wsV RX4 160 RX2 yX2_gather wsX2_gather) := goodIn_app (goodIn_of _ (by decide +kernel)) ggX4_plan_X2_gather
set_option maxRecDepth 20000 in
theorem ggX4_plan_X2_search : GoodIn wsX4_plan wsX2_search := goodIn_r _ [31, 32, 33, 34, 35, 36, 13, 37, 15, 16, 38, 39, 40, 41, 42, 43, 44, 45, 46, 47, 48, 49, 50, 51, 52, 53, 54, 20, 55, 56, 75, 76, 77, 78, 79, 80, 81, 82, 83, 84, 85, 86, 87, 88, 89, 90, 91] (by decide +kernel) (by decide +kernel)
set_option maxRecDepth 20000 in
theorem gX4_plan_X2_search : GoodIn wsX4_plan (wsV RX4 167 RX2 yX2_search wsX2_search) := goodIn_app (goodIn_of _ (by decide +kernel)) ggX4_plan_X2_search
set_option maxRecDepth 20000 in
theorem ggX4_plan_X2_numberAt : GoodIn wsX4_plan wsX2_numberAt := goodIn_r _ [60, 15, 51, 7, 8, 9, 75, 76, 77, 78, 79, 80] (by decide +kernel) (by decide +kernel)
set_option maxRecDepth 20000 in
theorem gX4_plan_X2_numberAt : GoodIn wsX4_plan (wsV RX4 170 RX2 yX2_numberAt wsX2_numberAt) := goodIn_app (goodIn_of _ (by decide +kernel)) ggX4_plan_X2_numberAt
theorem dX4_plan_0 : decode cX4_plan 0 = .ok (.iload_n 1, 1) := by decide +kernel
theorem dX4_plan_1 : decode cX4_plan 1 = .ok (.iconst 0, 1) := by decide +kernel
theorem dX4_plan_2 : decode cX4_plan 2 = .ok (.iconst 2, 1) := by decide +kernel
theorem dX4_plan_3 : decode cX4_plan 3 = .ok (.invokestatic 52, 3) := by decide +kernel
theorem dX4_plan_6 : decode cX4_plan 6 = .ok (.ifCond .ne 6, 3) := by decide +kernel
theorem dX4_plan_9 : decode cX4_plan 9 = .ok (.bipush (-100), 2) := by decide +kernel
theorem dX4_plan_11 : decode cX4_plan 11 = .ok (.ireturn, 1) := by decide +kernel
theorem dX4_plan_12 : decode cX4_plan 12 = .ok (.iload_n 1, 1) := by decide +kernel
theorem dX4_plan_13 : decode cX4_plan 13 = .ok (.iconst 1, 1) := by decide +kernel
theorem dX4_plan_14 : decode cX4_plan 14 = .ok (.if_icmp .ne 15, 3) := by decide +kernel
theorem dX4_plan_17 : decode cX4_plan 17 = .ok (.iload_n 2, 1) := by decide +kernel
theorem dX4_plan_18 : decode cX4_plan 18 = .ok (.iconst 0, 1) := by decide +kernel
theorem dX4_plan_19 : decode cX4_plan 19 = .ok (.iconst 4, 1) := by decide +kernel
theorem dX4_plan_20 : decode cX4_plan 20 = .ok (.invokestatic 52, 3) := by decide +kernel
theorem dX4_plan_23 : decode cX4_plan 23 = .ok (.ifCond .ne 6, 3) := by decide +kernel
theorem dX4_plan_26 : decode cX4_plan 26 = .ok (.bipush (-100), 2) := by decide +kernel
theorem dX4_plan_28 : decode cX4_plan 28 = .ok (.ireturn, 1) := by decide +kernel
theorem dX4_plan_29 : decode cX4_plan 29 = .ok (.aload_n 0, 1) := by decide +kernel
theorem dX4_plan_30 : decode cX4_plan 30 = .ok (.getfield 34, 3) := by decide +kernel
theorem dX4_plan_33 : decode cX4_plan 33 = .ok (.aload_n 0, 1) := by decide +kernel
theorem dX4_plan_34 : decode cX4_plan 34 = .ok (.getfield 24, 3) := by decide +kernel
theorem dX4_plan_37 : decode cX4_plan 37 = .ok (.invokevirtual 160, 3) := by decide +kernel
theorem dX4_plan_40 : decode cX4_plan 40 = .ok (.iload_n 1, 1) := by decide +kernel
theorem dX4_plan_41 : decode cX4_plan 41 = .ok (.ifCond .ne 11, 3) := by decide +kernel
theorem dX4_plan_44 : decode cX4_plan 44 = .ok (.aload_n 0, 1) := by decide +kernel
theorem dX4_plan_45 : decode cX4_plan 45 = .ok (.getfield 34, 3) := by decide +kernel
theorem dX4_plan_48 : decode cX4_plan 48 = .ok (.getfield 164, 3) := by decide +kernel
theorem dX4_plan_51 : decode cX4_plan 51 = .ok (.ireturn, 1) := by decide +kernel
theorem dX4_plan_52 : decode cX4_plan 52 = .ok (.aload_n 0, 1) := by decide +kernel
theorem dX4_plan_53 : decode cX4_plan 53 = .ok (.getfield 34, 3) := by decide +kernel
theorem dX4_plan_56 : decode cX4_plan 56 = .ok (.aload_n 0, 1) := by decide +kernel
theorem dX4_plan_57 : decode cX4_plan 57 = .ok (.getfield 56, 3) := by decide +kernel
theorem dX4_plan_60 : decode cX4_plan 60 = .ok (.invokevirtual 167, 3) := by decide +kernel
theorem dX4_plan_63 : decode cX4_plan 63 = .ok (.iload_n 1, 1) := by decide +kernel
theorem dX4_plan_64 : decode cX4_plan 64 = .ok (.iconst 1, 1) := by decide +kernel
theorem dX4_plan_65 : decode cX4_plan 65 = .ok (.if_icmp .ne 14, 3) := by decide +kernel
theorem dX4_plan_68 : decode cX4_plan 68 = .ok (.aload_n 0, 1) := by decide +kernel
theorem dX4_plan_69 : decode cX4_plan 69 = .ok (.getfield 34, 3) := by decide +kernel
theorem dX4_plan_72 : decode cX4_plan 72 = .ok (.iload_n 2, 1) := by decide +kernel
theorem dX4_plan_73 : decode cX4_plan 73 = .ok (.invokevirtual 170, 3) := by decide +kernel
theorem dX4_plan_76 : decode cX4_plan 76 = .ok (.goto 10, 3) := by decide +kernel
theorem dX4_plan_79 : decode cX4_plan 79 = .ok (.aload_n 0, 1) := by decide +kernel
theorem dX4_plan_80 : decode cX4_plan 80 = .ok (.getfield 34, 3) := by decide +kernel
theorem dX4_plan_83 : decode cX4_plan 83 = .ok (.getfield 173, 3) := by decide +kernel
theorem dX4_plan_86 : decode cX4_plan 86 = .ok (.ireturn, 1) := by decide +kernel
set_option maxRecDepth 20000 in
theorem ggX4_count_X4_jetsIn : GoodIn wsX4_count wsX4_jetsIn := goodIn_r _ [11, 4, 12, 13, 14, 15, 16, 17, 18, 19, 20, 21, 22, 23, 45, 46, 47, 48, 49, 50, 51, 52, 53, 54, 55, 56, 57, 58, 59, 60, 61, 62, 63, 64, 65, 66, 67, 68, 69] (by decide +kernel) (by decide +kernel)
set_option maxRecDepth 20000 in
theorem gX4_count_X4_jetsIn : GoodIn wsX4_count (wsV RX4 176 RX4 yX4_jetsIn wsX4_jetsIn) := goodIn_app (goodIn_of _ (by decide +kernel)) ggX4_count_X4_jetsIn
set_option maxRecDepth 20000 in
theorem ggX4_count_X4_allTurnsBack : GoodIn wsX4_count wsX4_allTurnsBack := goodIn_r _ [27, 4, 12, 28, 45, 46, 47, 48, 49, 50, 51, 52, 53, 54, 55, 56, 57, 58, 59, 60, 61, 62, 63, 64, 65, 66, 67, 68, 69] (by decide +kernel) (by decide +kernel)
set_option maxRecDepth 20000 in
theorem gX4_count_X4_allTurnsBack : GoodIn wsX4_count (wsV RX4 185 RX4 yX4_allTurnsBack wsX4_allTurnsBack) := goodIn_app (goodIn_of _ (by decide +kernel)) ggX4_count_X4_allTurnsBack
set_option maxRecDepth 20000 in
theorem ggX4_count_X4_allLate : GoodIn wsX4_count wsX4_allLate := goodIn_r _ [32, 4, 12, 33, 20, 21, 16, 22, 23, 34, 35, 36, 37, 38, 39, 40, 41, 42, 43, 44, 45, 46, 47, 48, 49, 50, 51, 52, 53, 54, 55, 56, 57, 58, 59, 60, 61, 62, 63, 64, 65, 66, 67, 68, 69] (by decide +kernel) (by decide +kernel)
set_option maxRecDepth 20000 in
theorem gX4_count_X4_allLate : GoodIn wsX4_count (wsV RX4 188 RX4 yX4_allLate wsX4_allLate) := goodIn_app (goodIn_of _ (by decide +kernel)) ggX4_count_X4_allLate
theorem dX4_count_0 : decode cX4_count 0 = .ok (.iload_n 1, 1) := by decide +kernel
theorem dX4_count_1 : decode cX4_count 1 = .ok (.tableswitch 107 0 9 #[55, 60, 65, 70, 75, 81, 87, 92, 97, 102], 55) := by decide +kernel
theorem dX4_count_56 : decode cX4_count 56 = .ok (.aload_n 0, 1) := by decide +kernel
theorem dX4_count_57 : decode cX4_count 57 = .ok (.getfield 56, 3) := by decide +kernel
theorem dX4_count_60 : decode cX4_count 60 = .ok (.ireturn, 1) := by decide +kernel
theorem dX4_count_61 : decode cX4_count 61 = .ok (.aload_n 0, 1) := by decide +kernel
theorem dX4_count_62 : decode cX4_count 62 = .ok (.getfield 85, 3) := by decide +kernel
theorem dX4_count_65 : decode cX4_count 65 = .ok (.ireturn, 1) := by decide +kernel
theorem dX4_count_66 : decode cX4_count 66 = .ok (.aload_n 0, 1) := by decide +kernel
theorem dX4_count_67 : decode cX4_count 67 = .ok (.getfield 38, 3) := by decide +kernel
theorem dX4_count_70 : decode cX4_count 70 = .ok (.ireturn, 1) := by decide +kernel
theorem dX4_count_71 : decode cX4_count 71 = .ok (.aload_n 0, 1) := by decide +kernel
theorem dX4_count_72 : decode cX4_count 72 = .ok (.getfield 119, 3) := by decide +kernel
theorem dX4_count_75 : decode cX4_count 75 = .ok (.ireturn, 1) := by decide +kernel
theorem dX4_count_76 : decode cX4_count 76 = .ok (.aload_n 0, 1) := by decide +kernel
theorem dX4_count_77 : decode cX4_count 77 = .ok (.iconst 0, 1) := by decide +kernel
theorem dX4_count_78 : decode cX4_count 78 = .ok (.invokevirtual 176, 3) := by decide +kernel
theorem dX4_count_81 : decode cX4_count 81 = .ok (.ireturn, 1) := by decide +kernel
theorem dX4_count_82 : decode cX4_count 82 = .ok (.aload_n 0, 1) := by decide +kernel
theorem dX4_count_83 : decode cX4_count 83 = .ok (.iconst 2, 1) := by decide +kernel
theorem dX4_count_84 : decode cX4_count 84 = .ok (.invokevirtual 176, 3) := by decide +kernel
theorem dX4_count_87 : decode cX4_count 87 = .ok (.ireturn, 1) := by decide +kernel
theorem dX4_count_88 : decode cX4_count 88 = .ok (.aload_n 0, 1) := by decide +kernel
theorem dX4_count_89 : decode cX4_count 89 = .ok (.getfield 179, 3) := by decide +kernel
theorem dX4_count_92 : decode cX4_count 92 = .ok (.ireturn, 1) := by decide +kernel
theorem dX4_count_93 : decode cX4_count 93 = .ok (.aload_n 0, 1) := by decide +kernel
theorem dX4_count_94 : decode cX4_count 94 = .ok (.getfield 182, 3) := by decide +kernel
theorem dX4_count_97 : decode cX4_count 97 = .ok (.ireturn, 1) := by decide +kernel
theorem dX4_count_98 : decode cX4_count 98 = .ok (.aload_n 0, 1) := by decide +kernel
theorem dX4_count_99 : decode cX4_count 99 = .ok (.invokevirtual 185, 3) := by decide +kernel
theorem dX4_count_102 : decode cX4_count 102 = .ok (.ireturn, 1) := by decide +kernel
theorem dX4_count_103 : decode cX4_count 103 = .ok (.aload_n 0, 1) := by decide +kernel
theorem dX4_count_104 : decode cX4_count 104 = .ok (.invokevirtual 188, 3) := by decide +kernel
theorem dX4_count_107 : decode cX4_count 107 = .ok (.ireturn, 1) := by decide +kernel
theorem dX4_count_108 : decode cX4_count 108 = .ok (.bipush (-100), 2) := by decide +kernel
theorem dX4_count_110 : decode cX4_count 110 = .ok (.ireturn, 1) := by decide +kernel
theorem dX4_trace_0 : decode cX4_trace 0 = .ok (.aload_n 0, 1) := by decide +kernel
theorem dX4_trace_1 : decode cX4_trace 1 = .ok (.getfield 95, 3) := by decide +kernel
theorem dX4_trace_4 : decode cX4_trace 4 = .ok (.lreturn, 1) := by decide +kernel
theorem dX4_within_0 : decode cX4_within 0 = .ok (.iload_n 0, 1) := by decide +kernel
theorem dX4_within_1 : decode cX4_within 1 = .ok (.iload_n 1, 1) := by decide +kernel
theorem dX4_within_2 : decode cX4_within 2 = .ok (.if_icmp .lt 12, 3) := by decide +kernel
theorem dX4_within_5 : decode cX4_within 5 = .ok (.iload_n 0, 1) := by decide +kernel
theorem dX4_within_6 : decode cX4_within 6 = .ok (.iload_n 2, 1) := by decide +kernel
theorem dX4_within_7 : decode cX4_within 7 = .ok (.if_icmp .gt 7, 3) := by decide +kernel
theorem dX4_within_10 : decode cX4_within 10 = .ok (.iconst 1, 1) := by decide +kernel
theorem dX4_within_11 : decode cX4_within 11 = .ok (.goto 4, 3) := by decide +kernel
theorem dX4_within_14 : decode cX4_within 14 = .ok (.iconst 0, 1) := by decide +kernel
theorem dX4_within_15 : decode cX4_within 15 = .ok (.ireturn, 1) := by decide +kernel
set_option maxRecDepth 20000 in
theorem ggX4_isMinute_X4_within : GoodIn wsX4_isMinute wsX4_within := goodIn_r _ [4] (by decide +kernel) (by decide +kernel)
set_option maxRecDepth 20000 in
theorem gX4_isMinute_X4_within : GoodIn wsX4_isMinute (va_wsS RX4 52 yX4_within wsX4_within) := goodIn_app (goodIn_of _ (by decide +kernel)) ggX4_isMinute_X4_within
theorem dX4_isMinute_0 : decode cX4_isMinute 0 = .ok (.iload_n 0, 1) := by decide +kernel
theorem dX4_isMinute_1 : decode cX4_isMinute 1 = .ok (.iconst 0, 1) := by decide +kernel
theorem dX4_isMinute_2 : decode cX4_isMinute 2 = .ok (.sipush 299, 3) := by decide +kernel
theorem dX4_isMinute_5 : decode cX4_isMinute 5 = .ok (.invokestatic 52, 3) := by decide +kernel
theorem dX4_isMinute_8 : decode cX4_isMinute 8 = .ok (.ireturn, 1) := by decide +kernel
theorem dX4_areSpans_0 : decode cX4_areSpans 0 = .ok (.iload_n 0, 1) := by decide +kernel
theorem dX4_areSpans_1 : decode cX4_areSpans 1 = .ok (.bipush 100, 2) := by decide +kernel
theorem dX4_areSpans_3 : decode cX4_areSpans 3 = .ok (.if_icmp .gt 26, 3) := by decide +kernel
theorem dX4_areSpans_6 : decode cX4_areSpans 6 = .ok (.iload_n 1, 1) := by decide +kernel
theorem dX4_areSpans_7 : decode cX4_areSpans 7 = .ok (.iload_n 0, 1) := by decide +kernel
theorem dX4_areSpans_8 : decode cX4_areSpans 8 = .ok (.if_icmp .gt 21, 3) := by decide +kernel
theorem dX4_areSpans_11 : decode cX4_areSpans 11 = .ok (.iload_n 2, 1) := by decide +kernel
theorem dX4_areSpans_12 : decode cX4_areSpans 12 = .ok (.iload_n 1, 1) := by decide +kernel
theorem dX4_areSpans_13 : decode cX4_areSpans 13 = .ok (.if_icmp .gt 16, 3) := by decide +kernel
theorem dX4_areSpans_16 : decode cX4_areSpans 16 = .ok (.iload_n 3, 1) := by decide +kernel
theorem dX4_areSpans_17 : decode cX4_areSpans 17 = .ok (.iload_n 2, 1) := by decide +kernel
theorem dX4_areSpans_18 : decode cX4_areSpans 18 = .ok (.if_icmp .gt 11, 3) := by decide +kernel
theorem dX4_areSpans_21 : decode cX4_areSpans 21 = .ok (.iload_n 3, 1) := by decide +kernel
theorem dX4_areSpans_22 : decode cX4_areSpans 22 = .ok (.ifCond .lt 7, 3) := by decide +kernel
theorem dX4_areSpans_25 : decode cX4_areSpans 25 = .ok (.iconst 1, 1) := by decide +kernel
theorem dX4_areSpans_26 : decode cX4_areSpans 26 = .ok (.goto 4, 3) := by decide +kernel
theorem dX4_areSpans_29 : decode cX4_areSpans 29 = .ok (.iconst 0, 1) := by decide +kernel
theorem dX4_areSpans_30 : decode cX4_areSpans 30 = .ok (.ireturn, 1) := by decide +kernel
theorem dX4_oneIf_0 : decode cX4_oneIf 0 = .ok (.iload_n 0, 1) := by decide +kernel
theorem dX4_oneIf_1 : decode cX4_oneIf 1 = .ok (.ifCond .eq 7, 3) := by decide +kernel
theorem dX4_oneIf_4 : decode cX4_oneIf 4 = .ok (.iconst 1, 1) := by decide +kernel
theorem dX4_oneIf_5 : decode cX4_oneIf 5 = .ok (.goto 4, 3) := by decide +kernel
theorem dX4_oneIf_8 : decode cX4_oneIf 8 = .ok (.iconst 0, 1) := by decide +kernel
theorem dX4_oneIf_9 : decode cX4_oneIf 9 = .ok (.ireturn, 1) := by decide +kernel
set_option maxRecDepth 20000 in
theorem ggX4_fluidAt_X4_within : GoodIn wsX4_fluidAt wsX4_within := goodIn_r _ [5] (by decide +kernel) (by decide +kernel)
set_option maxRecDepth 20000 in
theorem gX4_fluidAt_X4_within : GoodIn wsX4_fluidAt (va_wsS RX4 52 yX4_within wsX4_within) := goodIn_app (goodIn_of _ (by decide +kernel)) ggX4_fluidAt_X4_within
theorem dX4_fluidAt_0 : decode cX4_fluidAt 0 = .ok (.iload_n 1, 1) := by decide +kernel
theorem dX4_fluidAt_1 : decode cX4_fluidAt 1 = .ok (.iconst 0, 1) := by decide +kernel
theorem dX4_fluidAt_2 : decode cX4_fluidAt 2 = .ok (.aload_n 0, 1) := by decide +kernel
theorem dX4_fluidAt_3 : decode cX4_fluidAt 3 = .ok (.getfield 18, 3) := by decide +kernel
theorem dX4_fluidAt_6 : decode cX4_fluidAt 6 = .ok (.arraylength, 1) := by decide +kernel
theorem dX4_fluidAt_7 : decode cX4_fluidAt 7 = .ok (.iconst 1, 1) := by decide +kernel
theorem dX4_fluidAt_8 : decode cX4_fluidAt 8 = .ok (.isub, 1) := by decide +kernel
theorem dX4_fluidAt_9 : decode cX4_fluidAt 9 = .ok (.invokestatic 52, 3) := by decide +kernel
theorem dX4_fluidAt_12 : decode cX4_fluidAt 12 = .ok (.ifCond .eq 12, 3) := by decide +kernel
theorem dX4_fluidAt_15 : decode cX4_fluidAt 15 = .ok (.aload_n 0, 1) := by decide +kernel
theorem dX4_fluidAt_16 : decode cX4_fluidAt 16 = .ok (.getfield 18, 3) := by decide +kernel
theorem dX4_fluidAt_19 : decode cX4_fluidAt 19 = .ok (.iload_n 1, 1) := by decide +kernel
theorem dX4_fluidAt_20 : decode cX4_fluidAt 20 = .ok (.aaload, 1) := by decide +kernel
theorem dX4_fluidAt_21 : decode cX4_fluidAt 21 = .ok (.goto 4, 3) := by decide +kernel
theorem dX4_fluidAt_24 : decode cX4_fluidAt 24 = .ok (.aconst_null, 1) := by decide +kernel
theorem dX4_fluidAt_25 : decode cX4_fluidAt 25 = .ok (.areturn, 1) := by decide +kernel
set_option maxRecDepth 20000 in
theorem ggX4_jetAt_X4_within : GoodIn wsX4_jetAt wsX4_within := goodIn_r _ [5] (by decide +kernel) (by decide +kernel)
set_option maxRecDepth 20000 in
theorem gX4_jetAt_X4_within : GoodIn wsX4_jetAt (va_wsS RX4 52 yX4_within wsX4_within) := goodIn_app (goodIn_of _ (by decide +kernel)) ggX4_jetAt_X4_within
theorem dX4_jetAt_0 : decode cX4_jetAt 0 = .ok (.iload_n 1, 1) := by decide +kernel
theorem dX4_jetAt_1 : decode cX4_jetAt 1 = .ok (.iconst 0, 1) := by decide +kernel
theorem dX4_jetAt_2 : decode cX4_jetAt 2 = .ok (.aload_n 0, 1) := by decide +kernel
theorem dX4_jetAt_3 : decode cX4_jetAt 3 = .ok (.getfield 24, 3) := by decide +kernel
theorem dX4_jetAt_6 : decode cX4_jetAt 6 = .ok (.arraylength, 1) := by decide +kernel
theorem dX4_jetAt_7 : decode cX4_jetAt 7 = .ok (.iconst 1, 1) := by decide +kernel
theorem dX4_jetAt_8 : decode cX4_jetAt 8 = .ok (.isub, 1) := by decide +kernel
theorem dX4_jetAt_9 : decode cX4_jetAt 9 = .ok (.invokestatic 52, 3) := by decide +kernel
theorem dX4_jetAt_12 : decode cX4_jetAt 12 = .ok (.ifCond .eq 12, 3) := by decide +kernel
theorem dX4_jetAt_15 : decode cX4_jetAt 15 = .ok (.aload_n 0, 1) := by decide +kernel
theorem dX4_jetAt_16 : decode cX4_jetAt 16 = .ok (.getfield 24, 3) := by decide +kernel
theorem dX4_jetAt_19 : decode cX4_jetAt 19 = .ok (.iload_n 1, 1) := by decide +kernel
theorem dX4_jetAt_20 : decode cX4_jetAt 20 = .ok (.aaload, 1) := by decide +kernel
theorem dX4_jetAt_21 : decode cX4_jetAt 21 = .ok (.goto 4, 3) := by decide +kernel
theorem dX4_jetAt_24 : decode cX4_jetAt 24 = .ok (.aconst_null, 1) := by decide +kernel
theorem dX4_jetAt_25 : decode cX4_jetAt 25 = .ok (.areturn, 1) := by decide +kernel
set_option maxRecDepth 20000 in
theorem ggX4_holdIn_X3_coldIn : GoodIn wsX4_holdIn wsX3_coldIn := goodIn_r _ [6, 7, 8, 9, 10, 11, 12, 13, 14, 5, 15, 16, 52, 53, 54] (by decide +kernel) (by decide +kernel)
set_option maxRecDepth 20000 in
theorem gX4_holdIn_X3_coldIn : GoodIn wsX4_holdIn (wsV RX4 74 RX3 yX3_coldIn wsX3_coldIn) := goodIn_app (goodIn_of _ (by decide +kernel)) ggX4_holdIn_X3_coldIn
set_option maxRecDepth 20000 in
theorem ggX4_holdIn_X3_fallIn : GoodIn wsX4_holdIn wsX3_fallIn := goodIn_r _ [20, 21, 22, 23, 10, 24, 12, 13, 14, 5, 15, 16, 52, 53, 54] (by decide +kernel) (by decide +kernel)
set_option maxRecDepth 20000 in
theorem gX4_holdIn_X3_fallIn : GoodIn wsX4_holdIn (wsV RX4 78 RX3 yX3_fallIn wsX3_fallIn) := goodIn_app (goodIn_of _ (by decide +kernel)) ggX4_holdIn_X3_fallIn
set_option maxRecDepth 20000 in
theorem ggX4_holdIn_X0_holds : GoodIn wsX4_holdIn wsX0_holds := goodIn_r _ [29, 30, 31, 32, 33, 34, 35, 28, 36, 37, 55, 56, 57, 58, 59] (by decide +kernel) (by decide +kernel)
set_option maxRecDepth 20000 in
theorem gX4_holdIn_X0_holds : GoodIn wsX4_holdIn (wsV RX4 191 RX0 yX0_holds wsX0_holds) := goodIn_app (goodIn_of _ (by decide +kernel)) ggX4_holdIn_X0_holds
theorem dX4_holdIn_0 : decode cX4_holdIn 0 = .ok (.aload_n 1, 1) := by decide +kernel
theorem dX4_holdIn_1 : decode cX4_holdIn 1 = .ok (.aload_n 0, 1) := by decide +kernel
theorem dX4_holdIn_2 : decode cX4_holdIn 2 = .ok (.getfield 10, 3) := by decide +kernel
theorem dX4_holdIn_5 : decode cX4_holdIn 5 = .ok (.iload_n 2, 1) := by decide +kernel
theorem dX4_holdIn_6 : decode cX4_holdIn 6 = .ok (.invokevirtual 74, 3) := by decide +kernel
theorem dX4_holdIn_9 : decode cX4_holdIn 9 = .ok (.aload_n 0, 1) := by decide +kernel
theorem dX4_holdIn_10 : decode cX4_holdIn 10 = .ok (.getfield 10, 3) := by decide +kernel
theorem dX4_holdIn_13 : decode cX4_holdIn 13 = .ok (.iload_n 2, 1) := by decide +kernel
theorem dX4_holdIn_14 : decode cX4_holdIn 14 = .ok (.invokevirtual 78, 3) := by decide +kernel
theorem dX4_holdIn_17 : decode cX4_holdIn 17 = .ok (.invokevirtual 191, 3) := by decide +kernel
theorem dX4_holdIn_20 : decode cX4_holdIn 20 = .ok (.ireturn, 1) := by decide +kernel
set_option maxRecDepth 20000 in
theorem ggX4_changePads_X4_within : GoodIn wsX4_changePads wsX4_within := goodIn_r _ [5] (by decide +kernel) (by decide +kernel)
set_option maxRecDepth 20000 in
theorem gX4_changePads_X4_within : GoodIn wsX4_changePads (va_wsS RX4 52 yX4_within wsX4_within) := goodIn_app (goodIn_of _ (by decide +kernel)) ggX4_changePads_X4_within
set_option maxRecDepth 20000 in
theorem ggX4_changePads_X4_jetsIn : GoodIn wsX4_changePads wsX4_jetsIn := goodIn_r _ [9, 10, 11, 12, 13, 14, 15, 16, 17, 18, 19, 20, 21, 22, 23, 24, 25, 26, 27, 28, 29, 30, 31, 32, 33, 34, 35, 36, 37, 38, 39, 40, 41, 42, 43, 44, 45, 46, 47] (by decide +kernel) (by decide +kernel)
set_option maxRecDepth 20000 in
theorem gX4_changePads_X4_jetsIn : GoodIn wsX4_changePads (wsV RX4 176 RX4 yX4_jetsIn wsX4_jetsIn) := goodIn_app (goodIn_of _ (by decide +kernel)) ggX4_changePads_X4_jetsIn
theorem dX4_changePads_0 : decode cX4_changePads 0 = .ok (.iload_n 1, 1) := by decide +kernel
theorem dX4_changePads_1 : decode cX4_changePads 1 = .ok (.iconst 1, 1) := by decide +kernel
theorem dX4_changePads_2 : decode cX4_changePads 2 = .ok (.iconst 3, 1) := by decide +kernel
theorem dX4_changePads_3 : decode cX4_changePads 3 = .ok (.invokestatic 52, 3) := by decide +kernel
theorem dX4_changePads_6 : decode cX4_changePads 6 = .ok (.ifCond .ne 6, 3) := by decide +kernel
theorem dX4_changePads_9 : decode cX4_changePads 9 = .ok (.bipush (-100), 2) := by decide +kernel
theorem dX4_changePads_11 : decode cX4_changePads 11 = .ok (.ireturn, 1) := by decide +kernel
theorem dX4_changePads_12 : decode cX4_changePads 12 = .ok (.aload_n 0, 1) := by decide +kernel
theorem dX4_changePads_13 : decode cX4_changePads 13 = .ok (.iconst 1, 1) := by decide +kernel
theorem dX4_changePads_14 : decode cX4_changePads 14 = .ok (.invokevirtual 176, 3) := by decide +kernel
theorem dX4_changePads_17 : decode cX4_changePads 17 = .ok (.ifCond .le 7, 3) := by decide +kernel
theorem dX4_changePads_20 : decode cX4_changePads 20 = .ok (.sipush (-200), 3) := by decide +kernel
theorem dX4_changePads_23 : decode cX4_changePads 23 = .ok (.ireturn, 1) := by decide +kernel
theorem dX4_changePads_24 : decode cX4_changePads 24 = .ok (.aload_n 0, 1) := by decide +kernel
theorem dX4_changePads_25 : decode cX4_changePads 25 = .ok (.getfield 38, 3) := by decide +kernel
theorem dX4_changePads_28 : decode cX4_changePads 28 = .ok (.istore_n 2, 1) := by decide +kernel
theorem dX4_changePads_29 : decode cX4_changePads 29 = .ok (.aload_n 0, 1) := by decide +kernel
theorem dX4_changePads_30 : decode cX4_changePads 30 = .ok (.iload_n 1, 1) := by decide +kernel
theorem dX4_changePads_31 : decode cX4_changePads 31 = .ok (.putfield 38, 3) := by decide +kernel
theorem dX4_changePads_34 : decode cX4_changePads 34 = .ok (.iload_n 2, 1) := by decide +kernel
theorem dX4_changePads_35 : decode cX4_changePads 35 = .ok (.ireturn, 1) := by decide +kernel
set_option maxRecDepth 20000 in
theorem ggX4_changeLimit_X4_within : GoodIn wsX4_changeLimit wsX4_within := goodIn_r _ [5] (by decide +kernel) (by decide +kernel)
set_option maxRecDepth 20000 in
theorem gX4_changeLimit_X4_within : GoodIn wsX4_changeLimit (va_wsS RX4 52 yX4_within wsX4_within) := goodIn_app (goodIn_of _ (by decide +kernel)) ggX4_changeLimit_X4_within
theorem dX4_changeLimit_0 : decode cX4_changeLimit 0 = .ok (.iload_n 1, 1) := by decide +kernel
theorem dX4_changeLimit_1 : decode cX4_changeLimit 1 = .ok (.bipush 10, 2) := by decide +kernel
theorem dX4_changeLimit_3 : decode cX4_changeLimit 3 = .ok (.sipush 1000, 3) := by decide +kernel
theorem dX4_changeLimit_6 : decode cX4_changeLimit 6 = .ok (.invokestatic 52, 3) := by decide +kernel
theorem dX4_changeLimit_9 : decode cX4_changeLimit 9 = .ok (.ifCond .ne 6, 3) := by decide +kernel
theorem dX4_changeLimit_12 : decode cX4_changeLimit 12 = .ok (.bipush (-100), 2) := by decide +kernel
theorem dX4_changeLimit_14 : decode cX4_changeLimit 14 = .ok (.ireturn, 1) := by decide +kernel
theorem dX4_changeLimit_15 : decode cX4_changeLimit 15 = .ok (.aload_n 0, 1) := by decide +kernel
theorem dX4_changeLimit_16 : decode cX4_changeLimit 16 = .ok (.getfield 42, 3) := by decide +kernel
theorem dX4_changeLimit_19 : decode cX4_changeLimit 19 = .ok (.istore_n 2, 1) := by decide +kernel
theorem dX4_changeLimit_20 : decode cX4_changeLimit 20 = .ok (.aload_n 0, 1) := by decide +kernel
theorem dX4_changeLimit_21 : decode cX4_changeLimit 21 = .ok (.iload_n 1, 1) := by decide +kernel
theorem dX4_changeLimit_22 : decode cX4_changeLimit 22 = .ok (.putfield 42, 3) := by decide +kernel
theorem dX4_changeLimit_25 : decode cX4_changeLimit 25 = .ok (.iload_n 2, 1) := by decide +kernel
theorem dX4_changeLimit_26 : decode cX4_changeLimit 26 = .ok (.ireturn, 1) := by decide +kernel
set_option maxRecDepth 20000 in
theorem ggX4_changeRate_X4_within : GoodIn wsX4_changeRate wsX4_within := goodIn_r _ [5] (by decide +kernel) (by decide +kernel)
set_option maxRecDepth 20000 in
theorem gX4_changeRate_X4_within : GoodIn wsX4_changeRate (va_wsS RX4 52 yX4_within wsX4_within) := goodIn_app (goodIn_of _ (by decide +kernel)) ggX4_changeRate_X4_within
theorem dX4_changeRate_0 : decode cX4_changeRate 0 = .ok (.iload_n 1, 1) := by decide +kernel
theorem dX4_changeRate_1 : decode cX4_changeRate 1 = .ok (.iconst 0, 1) := by decide +kernel
theorem dX4_changeRate_2 : decode cX4_changeRate 2 = .ok (.bipush 50, 2) := by decide +kernel
theorem dX4_changeRate_4 : decode cX4_changeRate 4 = .ok (.invokestatic 52, 3) := by decide +kernel
theorem dX4_changeRate_7 : decode cX4_changeRate 7 = .ok (.ifCond .ne 6, 3) := by decide +kernel
theorem dX4_changeRate_10 : decode cX4_changeRate 10 = .ok (.bipush (-100), 2) := by decide +kernel
theorem dX4_changeRate_12 : decode cX4_changeRate 12 = .ok (.ireturn, 1) := by decide +kernel
theorem dX4_changeRate_13 : decode cX4_changeRate 13 = .ok (.aload_n 0, 1) := by decide +kernel
theorem dX4_changeRate_14 : decode cX4_changeRate 14 = .ok (.getfield 45, 3) := by decide +kernel
theorem dX4_changeRate_17 : decode cX4_changeRate 17 = .ok (.istore_n 2, 1) := by decide +kernel
theorem dX4_changeRate_18 : decode cX4_changeRate 18 = .ok (.aload_n 0, 1) := by decide +kernel
theorem dX4_changeRate_19 : decode cX4_changeRate 19 = .ok (.iload_n 1, 1) := by decide +kernel
theorem dX4_changeRate_20 : decode cX4_changeRate 20 = .ok (.putfield 45, 3) := by decide +kernel
theorem dX4_changeRate_23 : decode cX4_changeRate 23 = .ok (.iload_n 2, 1) := by decide +kernel
theorem dX4_changeRate_24 : decode cX4_changeRate 24 = .ok (.ireturn, 1) := by decide +kernel
set_option maxRecDepth 20000 in
theorem ggX4_passMinute_X4_endOn : GoodIn wsX4_passMinute wsX4_endOn := goodIn_r _ [13, 14, 8, 15, 16, 17, 18, 19, 20, 21, 22, 23, 24, 25, 26, 27, 28, 29, 30, 31, 110, 111, 112, 113, 114, 115, 116, 117, 118, 119, 120, 121, 122, 123, 124, 125, 126, 127, 128, 129, 130, 131, 132, 133, 134] (by decide +kernel) (by decide +kernel)
set_option maxRecDepth 20000 in
theorem gX4_passMinute_X4_endOn : GoodIn wsX4_passMinute (wsV RX4 200 RX4 yX4_endOn wsX4_endOn) := goodIn_app (goodIn_of _ (by decide +kernel)) ggX4_passMinute_X4_endOn
set_option maxRecDepth 20000 in
theorem ggX4_passMinute_X4_beginOn : GoodIn wsX4_passMinute wsX4_beginOn := goodIn_r _ [35, 14, 36, 37, 1, 38, 8, 39, 40, 41, 12, 42, 43, 44, 45, 46, 47, 48, 49, 50, 51, 52, 53, 19, 54, 27, 55, 56, 57, 58, 29, 59, 60, 61, 62, 21, 63, 64, 65, 66, 67, 68, 69, 70, 71, 72, 73, 74, 75, 76, 77, 78, 79, 5, 80, 81, 82, 83, 84, 85, 86, 87, 88, 89, 90, 91, 4, 6, 92, 93, 94, 95, 96, 97, 98, 99, 100, 101, 102, 103, 104, 105, 106, 107, 108, 109, 28, 110, 111, 112, 113, 114, 115, 116, 117, 118, 119, 120, 121, 122, 123, 124, 125, 126, 127, 128, 129, 130, 131, 132, 133, 134, 135, 136, 137, 138, 139, 140, 141, 142] (by decide +kernel) (by decide +kernel)
set_option maxRecDepth 20000 in
theorem gX4_passMinute_X4_beginOn : GoodIn wsX4_passMinute (wsV RX4 203 RX4 yX4_beginOn wsX4_beginOn) := goodIn_app (goodIn_of _ (by decide +kernel)) ggX4_passMinute_X4_beginOn
theorem dX4_passMinute_0 : decode cX4_passMinute 0 = .ok (.aload_n 0, 1) := by decide +kernel
theorem dX4_passMinute_1 : decode cX4_passMinute 1 = .ok (.iconst 0, 1) := by decide +kernel
theorem dX4_passMinute_2 : decode cX4_passMinute 2 = .ok (.aload_n 0, 1) := by decide +kernel
theorem dX4_passMinute_3 : decode cX4_passMinute 3 = .ok (.getfield 179, 3) := by decide +kernel
theorem dX4_passMinute_6 : decode cX4_passMinute 6 = .ok (.aload_n 0, 1) := by decide +kernel
theorem dX4_passMinute_7 : decode cX4_passMinute 7 = .ok (.getfield 45, 3) := by decide +kernel
theorem dX4_passMinute_10 : decode cX4_passMinute 10 = .ok (.isub, 1) := by decide +kernel
theorem dX4_passMinute_11 : decode cX4_passMinute 11 = .ok (.invokestatic 195, 3) := by decide +kernel
theorem dX4_passMinute_14 : decode cX4_passMinute 14 = .ok (.putfield 179, 3) := by decide +kernel
theorem dX4_passMinute_17 : decode cX4_passMinute 17 = .ok (.iconst 0, 1) := by decide +kernel
theorem dX4_passMinute_18 : decode cX4_passMinute 18 = .ok (.istore_n 1, 1) := by decide +kernel
theorem dX4_passMinute_19 : decode cX4_passMinute 19 = .ok (.iload_n 1, 1) := by decide +kernel
theorem dX4_passMinute_20 : decode cX4_passMinute 20 = .ok (.aload_n 0, 1) := by decide +kernel
theorem dX4_passMinute_21 : decode cX4_passMinute 21 = .ok (.getfield 38, 3) := by decide +kernel
theorem dX4_passMinute_24 : decode cX4_passMinute 24 = .ok (.if_icmp .ge 14, 3) := by decide +kernel
theorem dX4_passMinute_27 : decode cX4_passMinute 27 = .ok (.aload_n 0, 1) := by decide +kernel
theorem dX4_passMinute_28 : decode cX4_passMinute 28 = .ok (.iload_n 1, 1) := by decide +kernel
theorem dX4_passMinute_29 : decode cX4_passMinute 29 = .ok (.invokevirtual 200, 3) := by decide +kernel
theorem dX4_passMinute_32 : decode cX4_passMinute 32 = .ok (.iinc 1 1, 3) := by decide +kernel
theorem dX4_passMinute_35 : decode cX4_passMinute 35 = .ok (.goto (-16), 3) := by decide +kernel
theorem dX4_passMinute_38 : decode cX4_passMinute 38 = .ok (.iconst 0, 1) := by decide +kernel
theorem dX4_passMinute_39 : decode cX4_passMinute 39 = .ok (.istore_n 1, 1) := by decide +kernel
theorem dX4_passMinute_40 : decode cX4_passMinute 40 = .ok (.iload_n 1, 1) := by decide +kernel
theorem dX4_passMinute_41 : decode cX4_passMinute 41 = .ok (.aload_n 0, 1) := by decide +kernel
theorem dX4_passMinute_42 : decode cX4_passMinute 42 = .ok (.getfield 38, 3) := by decide +kernel
theorem dX4_passMinute_45 : decode cX4_passMinute 45 = .ok (.if_icmp .ge 14, 3) := by decide +kernel
theorem dX4_passMinute_48 : decode cX4_passMinute 48 = .ok (.aload_n 0, 1) := by decide +kernel
theorem dX4_passMinute_49 : decode cX4_passMinute 49 = .ok (.iload_n 1, 1) := by decide +kernel
theorem dX4_passMinute_50 : decode cX4_passMinute 50 = .ok (.invokevirtual 203, 3) := by decide +kernel
theorem dX4_passMinute_53 : decode cX4_passMinute 53 = .ok (.iinc 1 1, 3) := by decide +kernel
theorem dX4_passMinute_56 : decode cX4_passMinute 56 = .ok (.goto (-16), 3) := by decide +kernel
theorem dX4_passMinute_59 : decode cX4_passMinute 59 = .ok (.aload_n 0, 1) := by decide +kernel
theorem dX4_passMinute_60 : decode cX4_passMinute 60 = .ok (.dup, 1) := by decide +kernel
theorem dX4_passMinute_61 : decode cX4_passMinute 61 = .ok (.getfield 56, 3) := by decide +kernel
theorem dX4_passMinute_64 : decode cX4_passMinute 64 = .ok (.iconst 1, 1) := by decide +kernel
theorem dX4_passMinute_65 : decode cX4_passMinute 65 = .ok (.iadd, 1) := by decide +kernel
theorem dX4_passMinute_66 : decode cX4_passMinute 66 = .ok (.putfield 56, 3) := by decide +kernel
theorem dX4_passMinute_69 : decode cX4_passMinute 69 = .ok (.return_, 1) := by decide +kernel
set_option maxRecDepth 20000 in
theorem ggX4_endOn_X1_treatment : GoodIn wsX4_endOn wsX1_treatment := goodIn_r _ [8, 9, 34, 35, 36, 37, 38, 39, 40, 41, 42, 43, 44] (by decide +kernel) (by decide +kernel)
set_option maxRecDepth 20000 in
theorem gX4_endOn_X1_treatment : GoodIn wsX4_endOn (wsV RX4 206 RX1 yX1_treatment wsX1_treatment) := goodIn_app (goodIn_of _ (by decide +kernel)) ggX4_endOn_X1_treatment
set_option maxRecDepth 20000 in
theorem ggX4_endOn_X1_leave : GoodIn wsX4_endOn wsX1_leave := goodIn_r _ [13, 14, 15, 16, 17, 18, 19, 34, 35, 36, 37, 38, 39, 40, 41, 42, 43, 44] (by decide +kernel) (by decide +kernel)
set_option maxRecDepth 20000 in
theorem gX4_endOn_X1_leave : GoodIn wsX4_endOn (wsV RX4 209 RX1 yX1_leave wsX1_leave) := goodIn_app (goodIn_of _ (by decide +kernel)) ggX4_endOn_X1_leave
theorem dX4_endOn_0 : decode cX4_endOn 0 = .ok (.aload_n 0, 1) := by decide +kernel
theorem dX4_endOn_1 : decode cX4_endOn 1 = .ok (.getfield 28, 3) := by decide +kernel
theorem dX4_endOn_4 : decode cX4_endOn 4 = .ok (.iload_n 1, 1) := by decide +kernel
theorem dX4_endOn_5 : decode cX4_endOn 5 = .ok (.aaload, 1) := by decide +kernel
theorem dX4_endOn_6 : decode cX4_endOn 6 = .ok (.astore_n 2, 1) := by decide +kernel
theorem dX4_endOn_7 : decode cX4_endOn 7 = .ok (.aload_n 2, 1) := by decide +kernel
theorem dX4_endOn_8 : decode cX4_endOn 8 = .ok (.ifnull 19, 3) := by decide +kernel
theorem dX4_endOn_11 : decode cX4_endOn 11 = .ok (.aload_n 0, 1) := by decide +kernel
theorem dX4_endOn_12 : decode cX4_endOn 12 = .ok (.getfield 56, 3) := by decide +kernel
theorem dX4_endOn_15 : decode cX4_endOn 15 = .ok (.aload_n 2, 1) := by decide +kernel
theorem dX4_endOn_16 : decode cX4_endOn 16 = .ok (.getfield 138, 3) := by decide +kernel
theorem dX4_endOn_19 : decode cX4_endOn 19 = .ok (.aload_n 2, 1) := by decide +kernel
