theorem dX0_init_0 : decode cX0_init 0 = .ok (.aload_n 0, 1) := by decide +kernel
theorem dX0_init_1 : decode cX0_init 1 = .ok (.invokespecial 3, 3) := by decide +kernel
theorem dX0_init_4 : decode cX0_init 4 = .ok (.return_, 1) := by decide +kernel
theorem dX0_takesKind_0 : decode cX0_takesKind 0 = .ok (.iload_n 1, 1) := by decide +kernel
theorem dX0_takesKind_1 : decode cX0_takesKind 1 = .ok (.ifCond .eq 20, 3) := by decide +kernel
theorem dX0_takesKind_4 : decode cX0_takesKind 4 = .ok (.aload_n 0, 1) := by decide +kernel
theorem dX0_takesKind_5 : decode cX0_takesKind 5 = .ok (.getfield 9, 3) := by decide +kernel
theorem dX0_takesKind_8 : decode cX0_takesKind 8 = .ok (.iconst 1, 1) := by decide +kernel
theorem dX0_takesKind_9 : decode cX0_takesKind 9 = .ok (.iload_n 1, 1) := by decide +kernel
theorem dX0_takesKind_10 : decode cX0_takesKind 10 = .ok (.iconst 1, 1) := by decide +kernel
theorem dX0_takesKind_11 : decode cX0_takesKind 11 = .ok (.isub, 1) := by decide +kernel
theorem dX0_takesKind_12 : decode cX0_takesKind 12 = .ok (.ishl, 1) := by decide +kernel
theorem dX0_takesKind_13 : decode cX0_takesKind 13 = .ok (.iand, 1) := by decide +kernel
theorem dX0_takesKind_14 : decode cX0_takesKind 14 = .ok (.ifCond .eq 7, 3) := by decide +kernel
theorem dX0_takesKind_17 : decode cX0_takesKind 17 = .ok (.iconst 1, 1) := by decide +kernel
theorem dX0_takesKind_18 : decode cX0_takesKind 18 = .ok (.goto 4, 3) := by decide +kernel
theorem dX0_takesKind_21 : decode cX0_takesKind 21 = .ok (.iconst 0, 1) := by decide +kernel
theorem dX0_takesKind_22 : decode cX0_takesKind 22 = .ok (.ireturn, 1) := by decide +kernel
theorem dX1_init_0 : decode cX1_init 0 = .ok (.aload_n 0, 1) := by decide +kernel
theorem dX1_init_1 : decode cX1_init 1 = .ok (.invokespecial 3, 3) := by decide +kernel
theorem dX1_init_4 : decode cX1_init 4 = .ok (.aload_n 0, 1) := by decide +kernel
theorem dX1_init_5 : decode cX1_init 5 = .ok (.bipush 64, 2) := by decide +kernel
theorem dX1_init_7 : decode cX1_init 7 = .ok (.newarray .int, 2) := by decide +kernel
theorem dX1_init_9 : decode cX1_init 9 = .ok (.putfield 9, 3) := by decide +kernel
theorem dX1_init_12 : decode cX1_init 12 = .ok (.return_, 1) := by decide +kernel
theorem dX1_beginAnew_0 : decode cX1_beginAnew 0 = .ok (.aload_n 0, 1) := by decide +kernel
theorem dX1_beginAnew_1 : decode cX1_beginAnew 1 = .ok (.iconst 0, 1) := by decide +kernel
theorem dX1_beginAnew_2 : decode cX1_beginAnew 2 = .ok (.putfield 15, 3) := by decide +kernel
theorem dX1_beginAnew_5 : decode cX1_beginAnew 5 = .ok (.return_, 1) := by decide +kernel
theorem dX1_add_0 : decode cX1_add 0 = .ok (.aload_n 0, 1) := by decide +kernel
theorem dX1_add_1 : decode cX1_add 1 = .ok (.getfield 15, 3) := by decide +kernel
theorem dX1_add_4 : decode cX1_add 4 = .ok (.aload_n 0, 1) := by decide +kernel
theorem dX1_add_5 : decode cX1_add 5 = .ok (.getfield 9, 3) := by decide +kernel
theorem dX1_add_8 : decode cX1_add 8 = .ok (.arraylength, 1) := by decide +kernel
theorem dX1_add_9 : decode cX1_add 9 = .ok (.if_icmp .ge 13, 3) := by decide +kernel
theorem dX1_add_12 : decode cX1_add 12 = .ok (.aload_n 0, 1) := by decide +kernel
theorem dX1_add_13 : decode cX1_add 13 = .ok (.getfield 9, 3) := by decide +kernel
theorem dX1_add_16 : decode cX1_add 16 = .ok (.aload_n 0, 1) := by decide +kernel
theorem dX1_add_17 : decode cX1_add 17 = .ok (.getfield 15, 3) := by decide +kernel
theorem dX1_add_20 : decode cX1_add 20 = .ok (.iload_n 1, 1) := by decide +kernel
theorem dX1_add_21 : decode cX1_add 21 = .ok (.iastore, 1) := by decide +kernel
theorem dX1_add_22 : decode cX1_add 22 = .ok (.aload_n 0, 1) := by decide +kernel
theorem dX1_add_23 : decode cX1_add 23 = .ok (.dup, 1) := by decide +kernel
theorem dX1_add_24 : decode cX1_add 24 = .ok (.getfield 15, 3) := by decide +kernel
theorem dX1_add_27 : decode cX1_add 27 = .ok (.iconst 1, 1) := by decide +kernel
theorem dX1_add_28 : decode cX1_add 28 = .ok (.iadd, 1) := by decide +kernel
theorem dX1_add_29 : decode cX1_add 29 = .ok (.putfield 15, 3) := by decide +kernel
theorem dX1_add_32 : decode cX1_add 32 = .ok (.return_, 1) := by decide +kernel
theorem dX1_kept_0 : decode cX1_kept 0 = .ok (.aload_n 0, 1) := by decide +kernel
theorem dX1_kept_1 : decode cX1_kept 1 = .ok (.getfield 15, 3) := by decide +kernel
theorem dX1_kept_4 : decode cX1_kept 4 = .ok (.aload_n 0, 1) := by decide +kernel
theorem dX1_kept_5 : decode cX1_kept 5 = .ok (.getfield 9, 3) := by decide +kernel
theorem dX1_kept_8 : decode cX1_kept 8 = .ok (.arraylength, 1) := by decide +kernel
theorem dX1_kept_9 : decode cX1_kept 9 = .ok (.invokestatic 19, 3) := by decide +kernel
theorem dX1_kept_12 : decode cX1_kept 12 = .ok (.ireturn, 1) := by decide +kernel
theorem dX2_init_0 : decode cX2_init 0 = .ok (.aload_n 0, 1) := by decide +kernel
theorem dX2_init_1 : decode cX2_init 1 = .ok (.invokespecial 3, 3) := by decide +kernel
theorem dX2_init_4 : decode cX2_init 4 = .ok (.aload_n 0, 1) := by decide +kernel
theorem dX2_init_5 : decode cX2_init 5 = .ok (.bipush 7, 2) := by decide +kernel
theorem dX2_init_7 : decode cX2_init 7 = .ok (.newarray .int, 2) := by decide +kernel
theorem dX2_init_9 : decode cX2_init 9 = .ok (.putfield 11, 3) := by decide +kernel
theorem dX2_init_12 : decode cX2_init 12 = .ok (.aload_n 0, 1) := by decide +kernel
theorem dX2_init_13 : decode cX2_init 13 = .ok (.bipush 7, 2) := by decide +kernel
theorem dX2_init_15 : decode cX2_init 15 = .ok (.newarray .int, 2) := by decide +kernel
theorem dX2_init_17 : decode cX2_init 17 = .ok (.putfield 15, 3) := by decide +kernel
theorem dX2_init_20 : decode cX2_init 20 = .ok (.return_, 1) := by decide +kernel
theorem dX2_drop_0 : decode cX2_drop 0 = .ok (.aload_n 0, 1) := by decide +kernel
theorem dX2_drop_1 : decode cX2_drop 1 = .ok (.iconst 0, 1) := by decide +kernel
theorem dX2_drop_2 : decode cX2_drop 2 = .ok (.putfield 18, 3) := by decide +kernel
theorem dX2_drop_5 : decode cX2_drop 5 = .ok (.return_, 1) := by decide +kernel
theorem dX2_wrap_0 : decode cX2_wrap 0 = .ok (.aload_n 0, 1) := by decide +kernel
theorem dX2_wrap_1 : decode cX2_wrap 1 = .ok (.getfield 18, 3) := by decide +kernel
theorem dX2_wrap_4 : decode cX2_wrap 4 = .ok (.bipush 7, 2) := by decide +kernel
theorem dX2_wrap_6 : decode cX2_wrap 6 = .ok (.if_icmp .ge 33, 3) := by decide +kernel
theorem dX2_wrap_9 : decode cX2_wrap 9 = .ok (.aload_n 0, 1) := by decide +kernel
theorem dX2_wrap_10 : decode cX2_wrap 10 = .ok (.getfield 11, 3) := by decide +kernel
theorem dX2_wrap_13 : decode cX2_wrap 13 = .ok (.aload_n 0, 1) := by decide +kernel
theorem dX2_wrap_14 : decode cX2_wrap 14 = .ok (.getfield 18, 3) := by decide +kernel
theorem dX2_wrap_17 : decode cX2_wrap 17 = .ok (.iload_n 1, 1) := by decide +kernel
theorem dX2_wrap_18 : decode cX2_wrap 18 = .ok (.iastore, 1) := by decide +kernel
theorem dX2_wrap_19 : decode cX2_wrap 19 = .ok (.aload_n 0, 1) := by decide +kernel
theorem dX2_wrap_20 : decode cX2_wrap 20 = .ok (.getfield 15, 3) := by decide +kernel
theorem dX2_wrap_23 : decode cX2_wrap 23 = .ok (.aload_n 0, 1) := by decide +kernel
theorem dX2_wrap_24 : decode cX2_wrap 24 = .ok (.getfield 18, 3) := by decide +kernel
theorem dX2_wrap_27 : decode cX2_wrap 27 = .ok (.iload_n 2, 1) := by decide +kernel
theorem dX2_wrap_28 : decode cX2_wrap 28 = .ok (.iastore, 1) := by decide +kernel
theorem dX2_wrap_29 : decode cX2_wrap 29 = .ok (.aload_n 0, 1) := by decide +kernel
theorem dX2_wrap_30 : decode cX2_wrap 30 = .ok (.dup, 1) := by decide +kernel
theorem dX2_wrap_31 : decode cX2_wrap 31 = .ok (.getfield 18, 3) := by decide +kernel
theorem dX2_wrap_34 : decode cX2_wrap 34 = .ok (.iconst 1, 1) := by decide +kernel
theorem dX2_wrap_35 : decode cX2_wrap 35 = .ok (.iadd, 1) := by decide +kernel
theorem dX2_wrap_36 : decode cX2_wrap 36 = .ok (.putfield 18, 3) := by decide +kernel
theorem dX2_wrap_39 : decode cX2_wrap 39 = .ok (.return_, 1) := by decide +kernel
theorem dX2_kind_0 : decode cX2_kind 0 = .ok (.aload_n 0, 1) := by decide +kernel
theorem dX2_kind_1 : decode cX2_kind 1 = .ok (.getfield 18, 3) := by decide +kernel
theorem dX2_kind_4 : decode cX2_kind 4 = .ok (.ifCond .le 17, 3) := by decide +kernel
theorem dX2_kind_7 : decode cX2_kind 7 = .ok (.aload_n 0, 1) := by decide +kernel
theorem dX2_kind_8 : decode cX2_kind 8 = .ok (.getfield 11, 3) := by decide +kernel
theorem dX2_kind_11 : decode cX2_kind 11 = .ok (.aload_n 0, 1) := by decide +kernel
theorem dX2_kind_12 : decode cX2_kind 12 = .ok (.getfield 18, 3) := by decide +kernel
theorem dX2_kind_15 : decode cX2_kind 15 = .ok (.iconst 1, 1) := by decide +kernel
theorem dX2_kind_16 : decode cX2_kind 16 = .ok (.isub, 1) := by decide +kernel
theorem dX2_kind_17 : decode cX2_kind 17 = .ok (.iaload, 1) := by decide +kernel
theorem dX2_kind_18 : decode cX2_kind 18 = .ok (.goto 4, 3) := by decide +kernel
theorem dX2_kind_21 : decode cX2_kind 21 = .ok (.iconst 0, 1) := by decide +kernel
theorem dX2_kind_22 : decode cX2_kind 22 = .ok (.ireturn, 1) := by decide +kernel
theorem dX2_number_0 : decode cX2_number 0 = .ok (.aload_n 0, 1) := by decide +kernel
theorem dX2_number_1 : decode cX2_number 1 = .ok (.getfield 18, 3) := by decide +kernel
theorem dX2_number_4 : decode cX2_number 4 = .ok (.ifCond .le 17, 3) := by decide +kernel
theorem dX2_number_7 : decode cX2_number 7 = .ok (.aload_n 0, 1) := by decide +kernel
theorem dX2_number_8 : decode cX2_number 8 = .ok (.getfield 15, 3) := by decide +kernel
theorem dX2_number_11 : decode cX2_number 11 = .ok (.aload_n 0, 1) := by decide +kernel
theorem dX2_number_12 : decode cX2_number 12 = .ok (.getfield 18, 3) := by decide +kernel
theorem dX2_number_15 : decode cX2_number 15 = .ok (.iconst 1, 1) := by decide +kernel
theorem dX2_number_16 : decode cX2_number 16 = .ok (.isub, 1) := by decide +kernel
theorem dX2_number_17 : decode cX2_number 17 = .ok (.iaload, 1) := by decide +kernel
theorem dX2_number_18 : decode cX2_number 18 = .ok (.goto 4, 3) := by decide +kernel
theorem dX2_number_21 : decode cX2_number 21 = .ok (.iconst 0, 1) := by decide +kernel
theorem dX2_number_22 : decode cX2_number 22 = .ok (.ireturn, 1) := by decide +kernel
theorem dX2_causes_0 : decode cX2_causes 0 = .ok (.aload_n 0, 1) := by decide +kernel
theorem dX2_causes_1 : decode cX2_causes 1 = .ok (.getfield 18, 3) := by decide +kernel
theorem dX2_causes_4 : decode cX2_causes 4 = .ok (.ifCond .le 12, 3) := by decide +kernel
theorem dX2_causes_7 : decode cX2_causes 7 = .ok (.aload_n 0, 1) := by decide +kernel
theorem dX2_causes_8 : decode cX2_causes 8 = .ok (.getfield 18, 3) := by decide +kernel
theorem dX2_causes_11 : decode cX2_causes 11 = .ok (.iconst 1, 1) := by decide +kernel
theorem dX2_causes_12 : decode cX2_causes 12 = .ok (.isub, 1) := by decide +kernel
theorem dX2_causes_13 : decode cX2_causes 13 = .ok (.goto 4, 3) := by decide +kernel
theorem dX2_causes_16 : decode cX2_causes 16 = .ok (.iconst 0, 1) := by decide +kernel
theorem dX2_causes_17 : decode cX2_causes 17 = .ok (.ireturn, 1) := by decide +kernel
set_option maxRecDepth 20000 in
theorem ggX2_lastCauseKind_X2_causes : GoodIn wsX2_lastCauseKind wsX2_causes := goodIn_r _ [6, 7, 8, 9, 10] (by decide +kernel) (by decide +kernel)
set_option maxRecDepth 20000 in
theorem gX2_lastCauseKind_X2_causes : GoodIn wsX2_lastCauseKind (wsV RX2 22 RX2 yX2_causes wsX2_causes) := goodIn_app (goodIn_of _ (by decide +kernel)) ggX2_lastCauseKind_X2_causes
theorem dX2_lastCauseKind_0 : decode cX2_lastCauseKind 0 = .ok (.aload_n 0, 1) := by decide +kernel
theorem dX2_lastCauseKind_1 : decode cX2_lastCauseKind 1 = .ok (.invokevirtual 22, 3) := by decide +kernel
theorem dX2_lastCauseKind_4 : decode cX2_lastCauseKind 4 = .ok (.ifCond .le 12, 3) := by decide +kernel
theorem dX2_lastCauseKind_7 : decode cX2_lastCauseKind 7 = .ok (.aload_n 0, 1) := by decide +kernel
theorem dX2_lastCauseKind_8 : decode cX2_lastCauseKind 8 = .ok (.getfield 11, 3) := by decide +kernel
theorem dX2_lastCauseKind_11 : decode cX2_lastCauseKind 11 = .ok (.iconst 0, 1) := by decide +kernel
theorem dX2_lastCauseKind_12 : decode cX2_lastCauseKind 12 = .ok (.iaload, 1) := by decide +kernel
theorem dX2_lastCauseKind_13 : decode cX2_lastCauseKind 13 = .ok (.goto 4, 3) := by decide +kernel
theorem dX2_lastCauseKind_16 : decode cX2_lastCauseKind 16 = .ok (.iconst 0, 1) := by decide +kernel
theorem dX2_lastCauseKind_17 : decode cX2_lastCauseKind 17 = .ok (.ireturn, 1) := by decide +kernel
set_option maxRecDepth 20000 in
theorem ggX2_lastCauseNumber_X2_causes : GoodIn wsX2_lastCauseNumber wsX2_causes := goodIn_r _ [6, 7, 8, 9, 10] (by decide +kernel) (by decide +kernel)
set_option maxRecDepth 20000 in
theorem gX2_lastCauseNumber_X2_causes : GoodIn wsX2_lastCauseNumber (wsV RX2 22 RX2 yX2_causes wsX2_causes) := goodIn_app (goodIn_of _ (by decide +kernel)) ggX2_lastCauseNumber_X2_causes
theorem dX2_lastCauseNumber_0 : decode cX2_lastCauseNumber 0 = .ok (.aload_n 0, 1) := by decide +kernel
theorem dX2_lastCauseNumber_1 : decode cX2_lastCauseNumber 1 = .ok (.invokevirtual 22, 3) := by decide +kernel
theorem dX2_lastCauseNumber_4 : decode cX2_lastCauseNumber 4 = .ok (.ifCond .le 12, 3) := by decide +kernel
theorem dX2_lastCauseNumber_7 : decode cX2_lastCauseNumber 7 = .ok (.aload_n 0, 1) := by decide +kernel
theorem dX2_lastCauseNumber_8 : decode cX2_lastCauseNumber 8 = .ok (.getfield 15, 3) := by decide +kernel
theorem dX2_lastCauseNumber_11 : decode cX2_lastCauseNumber 11 = .ok (.iconst 0, 1) := by decide +kernel
theorem dX2_lastCauseNumber_12 : decode cX2_lastCauseNumber 12 = .ok (.iaload, 1) := by decide +kernel
theorem dX2_lastCauseNumber_13 : decode cX2_lastCauseNumber 13 = .ok (.goto 4, 3) := by decide +kernel
theorem dX2_lastCauseNumber_16 : decode cX2_lastCauseNumber 16 = .ok (.iconst 0, 1) := by decide +kernel
theorem dX2_lastCauseNumber_17 : decode cX2_lastCauseNumber 17 = .ok (.ireturn, 1) := by decide +kernel
set_option maxRecDepth 20000 in
theorem ggX3_init_X1_init : GoodIn wsX3_init wsX1_init := goodIn_r _ [17, 18, 2, 3, 19, 20, 33, 34] (by decide +kernel) (by decide +kernel)
set_option maxRecDepth 20000 in
theorem gX3_init_X1_init_n17 : GoodIn wsX3_init (wsX1_init) := ggX3_init_X1_init
set_option maxRecDepth 20000 in
theorem ggX3_init_X2_init : GoodIn wsX3_init wsX2_init := goodIn_r _ [22, 23, 2, 3, 19, 24, 25, 35, 36, 37] (by decide +kernel) (by decide +kernel)
set_option maxRecDepth 20000 in
theorem gX3_init_X2_init_n24 : GoodIn wsX3_init (wsX2_init) := ggX3_init_X2_init
set_option maxRecDepth 20000 in
theorem ggX3_init_X0_init : GoodIn wsX3_init wsX0_init := goodIn_r _ [27, 28, 2, 3] (by decide +kernel) (by decide +kernel)
set_option maxRecDepth 20000 in
theorem gX3_init_X0_init_n29 : GoodIn wsX3_init (wsX0_init) := ggX3_init_X0_init
theorem dX3_init_0 : decode cX3_init 0 = .ok (.aload_n 0, 1) := by decide +kernel
theorem dX3_init_1 : decode cX3_init 1 = .ok (.invokespecial 1, 3) := by decide +kernel
theorem dX3_init_4 : decode cX3_init 4 = .ok (.aload_n 0, 1) := by decide +kernel
theorem dX3_init_5 : decode cX3_init 5 = .ok (.bipush 6, 2) := by decide +kernel
theorem dX3_init_7 : decode cX3_init 7 = .ok (.anewarray 9, 3) := by decide +kernel
theorem dX3_init_10 : decode cX3_init 10 = .ok (.putfield 11, 3) := by decide +kernel
theorem dX3_init_13 : decode cX3_init 13 = .ok (.aload_n 0, 1) := by decide +kernel
theorem dX3_init_14 : decode cX3_init 14 = .ok (.new 15, 3) := by decide +kernel
theorem dX3_init_17 : decode cX3_init 17 = .ok (.dup, 1) := by decide +kernel
theorem dX3_init_18 : decode cX3_init 18 = .ok (.invokespecial 17, 3) := by decide +kernel
theorem dX3_init_21 : decode cX3_init 21 = .ok (.putfield 18, 3) := by decide +kernel
theorem dX3_init_24 : decode cX3_init 24 = .ok (.aload_n 0, 1) := by decide +kernel
theorem dX3_init_25 : decode cX3_init 25 = .ok (.new 22, 3) := by decide +kernel
theorem dX3_init_28 : decode cX3_init 28 = .ok (.dup, 1) := by decide +kernel
theorem dX3_init_29 : decode cX3_init 29 = .ok (.invokespecial 24, 3) := by decide +kernel
theorem dX3_init_32 : decode cX3_init 32 = .ok (.putfield 25, 3) := by decide +kernel
theorem dX3_init_35 : decode cX3_init 35 = .ok (.iconst 0, 1) := by decide +kernel
theorem dX3_init_36 : decode cX3_init 36 = .ok (.istore_n 1, 1) := by decide +kernel
theorem dX3_init_37 : decode cX3_init 37 = .ok (.iload_n 1, 1) := by decide +kernel
theorem dX3_init_38 : decode cX3_init 38 = .ok (.bipush 6, 2) := by decide +kernel
theorem dX3_init_40 : decode cX3_init 40 = .ok (.if_icmp .ge 22, 3) := by decide +kernel
theorem dX3_init_43 : decode cX3_init 43 = .ok (.aload_n 0, 1) := by decide +kernel
theorem dX3_init_44 : decode cX3_init 44 = .ok (.getfield 11, 3) := by decide +kernel
theorem dX3_init_47 : decode cX3_init 47 = .ok (.iload_n 1, 1) := by decide +kernel
theorem dX3_init_48 : decode cX3_init 48 = .ok (.new 9, 3) := by decide +kernel
theorem dX3_init_51 : decode cX3_init 51 = .ok (.dup, 1) := by decide +kernel
theorem dX3_init_52 : decode cX3_init 52 = .ok (.invokespecial 29, 3) := by decide +kernel
theorem dX3_init_55 : decode cX3_init 55 = .ok (.aastore, 1) := by decide +kernel
theorem dX3_init_56 : decode cX3_init 56 = .ok (.iinc 1 1, 3) := by decide +kernel
theorem dX3_init_59 : decode cX3_init 59 = .ok (.goto (-22), 3) := by decide +kernel
theorem dX3_init_62 : decode cX3_init 62 = .ok (.return_, 1) := by decide +kernel
set_option maxRecDepth 20000 in
theorem ggX3_set_X3_isLevel : GoodIn wsX3_set wsX3_isLevel := goodIn_r _ [8] (by decide +kernel) (by decide +kernel)
set_option maxRecDepth 20000 in
theorem gX3_set_X3_isLevel : GoodIn wsX3_set (va_wsS RX3 30 yX3_isLevel wsX3_isLevel) := goodIn_app (goodIn_of _ (by decide +kernel)) ggX3_set_X3_isLevel
theorem dX3_set_0 : decode cX3_set 0 = .ok (.iload_n 1, 1) := by decide +kernel
theorem dX3_set_1 : decode cX3_set 1 = .ok (.invokestatic 30, 3) := by decide +kernel
theorem dX3_set_4 : decode cX3_set 4 = .ok (.ifCond .ne 13, 3) := by decide +kernel
theorem dX3_set_7 : decode cX3_set 7 = .ok (.new 34, 3) := by decide +kernel
theorem dX3_set_10 : decode cX3_set 10 = .ok (.dup, 1) := by decide +kernel
theorem dX3_set_11 : decode cX3_set 11 = .ok (.ldc 36, 2) := by decide +kernel
theorem dX3_set_13 : decode cX3_set 13 = .ok (.invokespecial 38, 3) := by decide +kernel
theorem dX3_set_16 : decode cX3_set 16 = .ok (.athrow, 1) := by decide +kernel
theorem dX3_set_17 : decode cX3_set 17 = .ok (.aload_n 0, 1) := by decide +kernel
theorem dX3_set_18 : decode cX3_set 18 = .ok (.getfield 11, 3) := by decide +kernel
theorem dX3_set_21 : decode cX3_set 21 = .ok (.iload_n 1, 1) := by decide +kernel
theorem dX3_set_22 : decode cX3_set 22 = .ok (.aaload, 1) := by decide +kernel
theorem dX3_set_23 : decode cX3_set 23 = .ok (.astore 6, 2) := by decide +kernel
theorem dX3_set_25 : decode cX3_set 25 = .ok (.aload 6, 2) := by decide +kernel
theorem dX3_set_27 : decode cX3_set 27 = .ok (.getfield 41, 3) := by decide +kernel
theorem dX3_set_30 : decode cX3_set 30 = .ok (.istore 7, 2) := by decide +kernel
theorem dX3_set_32 : decode cX3_set 32 = .ok (.aload 6, 2) := by decide +kernel
theorem dX3_set_34 : decode cX3_set 34 = .ok (.iload_n 2, 1) := by decide +kernel
theorem dX3_set_35 : decode cX3_set 35 = .ok (.putfield 45, 3) := by decide +kernel
theorem dX3_set_38 : decode cX3_set 38 = .ok (.aload 6, 2) := by decide +kernel
theorem dX3_set_40 : decode cX3_set 40 = .ok (.iload_n 3, 1) := by decide +kernel
theorem dX3_set_41 : decode cX3_set 41 = .ok (.putfield 48, 3) := by decide +kernel
theorem dX3_set_44 : decode cX3_set 44 = .ok (.aload 6, 2) := by decide +kernel
theorem dX3_set_46 : decode cX3_set 46 = .ok (.iload 4, 2) := by decide +kernel
theorem dX3_set_48 : decode cX3_set 48 = .ok (.putfield 51, 3) := by decide +kernel
theorem dX3_set_51 : decode cX3_set 51 = .ok (.aload 6, 2) := by decide +kernel
theorem dX3_set_53 : decode cX3_set 53 = .ok (.iload 5, 2) := by decide +kernel
theorem dX3_set_55 : decode cX3_set 55 = .ok (.putfield 41, 3) := by decide +kernel
theorem dX3_set_58 : decode cX3_set 58 = .ok (.iload 7, 2) := by decide +kernel
theorem dX3_set_60 : decode cX3_set 60 = .ok (.ireturn, 1) := by decide +kernel
set_option maxRecDepth 20000 in
theorem ggX3_run_X3_isLevel : GoodIn wsX3_run wsX3_isLevel := goodIn_r _ [10] (by decide +kernel) (by decide +kernel)
set_option maxRecDepth 20000 in
theorem gX3_run_X3_isLevel : GoodIn wsX3_run (va_wsS RX3 30 yX3_isLevel wsX3_isLevel) := goodIn_app (goodIn_of _ (by decide +kernel)) ggX3_run_X3_isLevel
set_option maxRecDepth 20000 in
theorem ggX3_run_X1_beginAnew : GoodIn wsX3_run wsX1_beginAnew := goodIn_r _ [15, 16, 96, 97] (by decide +kernel) (by decide +kernel)
set_option maxRecDepth 20000 in
theorem gX3_run_X1_beginAnew : GoodIn wsX3_run (wsV RX3 57 RX1 yX1_beginAnew wsX1_beginAnew) := goodIn_app (goodIn_of _ (by decide +kernel)) ggX3_run_X1_beginAnew
set_option maxRecDepth 20000 in
theorem ggX3_run_X2_drop : GoodIn wsX3_run wsX2_drop := goodIn_r _ [21, 22, 98, 99, 100] (by decide +kernel) (by decide +kernel)
set_option maxRecDepth 20000 in
theorem gX3_run_X2_drop : GoodIn wsX3_run (wsV RX3 60 RX2 yX2_drop wsX2_drop) := goodIn_app (goodIn_of _ (by decide +kernel)) ggX3_run_X2_drop
set_option maxRecDepth 20000 in
theorem ggX3_run_X3_doLevel : GoodIn wsX3_run wsX3_doLevel := goodIn_ca (goodIn_ca (goodIn_r _ [26, 5, 27, 6, 28, 29, 30, 14, 31, 16, 32, 33, 34, 35, 9, 36, 37, 38, 20, 39, 22, 40, 41, 42, 43, 44, 45, 46, 47, 48, 49, 50, 51, 52, 53, 17, 18, 19, 21, 54, 55, 56, 57, 58, 59, 60, 61, 62, 63, 64, 65, 66, 67, 68, 69, 70, 71, 72, 73, 23, 24, 25, 92, 93, 94, 95, 96, 97, 98, 99, 100, 101, 102, 103, 104] (by decide +kernel) (by decide +kernel)) (goodIn_sub (fun _ h => List.mem_cons_of_mem _ (List.mem_append_left _ (List.mem_append_left _ (List.mem_append_left _ (List.mem_append_left _ (List.mem_append_right _ h)))))) (by decide +kernel))) (goodIn_sub (fun _ h => List.mem_cons_of_mem _ (List.mem_append_left _ (List.mem_append_left _ (List.mem_append_left _ (List.mem_append_right _ h))))) (by decide +kernel))
set_option maxRecDepth 20000 in
theorem gX3_run_X3_doLevel : GoodIn wsX3_run (wsV RX3 63 RX3 yX3_doLevel wsX3_doLevel) := goodIn_app (goodIn_of _ (by decide +kernel)) ggX3_run_X3_doLevel
set_option maxRecDepth 20000 in
theorem ggX3_run_X2_kind : GoodIn wsX3_run wsX2_kind := goodIn_ca (goodIn_ca (goodIn_r _ [39, 22, 40, 98, 99, 100] (by decide +kernel) (by decide +kernel)) (goodIn_sub (fun _ h => List.mem_cons_of_mem _ (List.mem_append_left _ (List.mem_append_left _ (List.mem_append_left _ (List.mem_append_right _ h))))) (by decide +kernel))) (goodIn_sub (fun _ h => List.mem_cons_of_mem _ (List.mem_append_left _ (List.mem_append_left _ (List.mem_append_left _ (List.mem_append_left _ (List.mem_append_right _ h)))))) (by decide +kernel))
set_option maxRecDepth 20000 in
theorem gX3_run_X2_kind : GoodIn wsX3_run (wsV RX3 67 RX2 yX2_kind wsX2_kind) := goodIn_app (goodIn_of _ (by decide +kernel)) ggX3_run_X2_kind
set_option maxRecDepth 20000 in
theorem ggX3_run_X3_throwOut : GoodIn wsX3_run wsX3_throwOut := goodIn_ca (goodIn_ca (goodIn_ca (goodIn_ca (goodIn_r _ [76, 77, 78, 79, 80, 81, 82, 83, 84, 85, 1, 2, 3, 105, 106, 107, 108, 109, 110, 111, 112, 86, 87, 88, 89, 90, 91] (by decide +kernel) (by decide +kernel)) (goodIn_sub (fun _ h => List.mem_cons_of_mem _ (List.mem_append_left _ (List.mem_append_left _ (List.mem_append_right _ h)))) (by decide +kernel))) (goodIn_sub (fun _ h => List.mem_cons_of_mem _ (List.mem_append_left _ (List.mem_append_left _ (List.mem_append_left _ (List.mem_append_left _ (List.mem_append_right _ h)))))) (by decide +kernel))) (goodIn_sub (fun _ h => List.mem_cons_of_mem _ (List.mem_append_left _ (List.mem_append_right _ h))) (by decide +kernel))) (goodIn_sub (fun _ h => List.mem_cons_of_mem _ (List.mem_append_right _ h)) (by decide +kernel))
set_option maxRecDepth 20000 in
theorem gX3_run_X3_throwOut : GoodIn wsX3_run (va_wsS RX3 71 yX3_throwOut wsX3_throwOut) := goodIn_app (goodIn_of _ (by decide +kernel)) ggX3_run_X3_throwOut
theorem dX3_run_0 : decode cX3_run 0 = .ok (.iload_n 1, 1) := by decide +kernel
theorem dX3_run_1 : decode cX3_run 1 = .ok (.invokestatic 30, 3) := by decide +kernel
theorem dX3_run_4 : decode cX3_run 4 = .ok (.ifCond .ne 13, 3) := by decide +kernel
theorem dX3_run_7 : decode cX3_run 7 = .ok (.new 34, 3) := by decide +kernel
theorem dX3_run_10 : decode cX3_run 10 = .ok (.dup, 1) := by decide +kernel
theorem dX3_run_11 : decode cX3_run 11 = .ok (.ldc 36, 2) := by decide +kernel
theorem dX3_run_13 : decode cX3_run 13 = .ok (.invokespecial 38, 3) := by decide +kernel
theorem dX3_run_16 : decode cX3_run 16 = .ok (.athrow, 1) := by decide +kernel
theorem dX3_run_17 : decode cX3_run 17 = .ok (.aload_n 0, 1) := by decide +kernel
theorem dX3_run_18 : decode cX3_run 18 = .ok (.dup, 1) := by decide +kernel
theorem dX3_run_19 : decode cX3_run 19 = .ok (.getfield 54, 3) := by decide +kernel
theorem dX3_run_22 : decode cX3_run 22 = .ok (.iconst 1, 1) := by decide +kernel
theorem dX3_run_23 : decode cX3_run 23 = .ok (.iadd, 1) := by decide +kernel
theorem dX3_run_24 : decode cX3_run 24 = .ok (.putfield 54, 3) := by decide +kernel
theorem dX3_run_27 : decode cX3_run 27 = .ok (.aload_n 0, 1) := by decide +kernel
theorem dX3_run_28 : decode cX3_run 28 = .ok (.getfield 18, 3) := by decide +kernel
theorem dX3_run_31 : decode cX3_run 31 = .ok (.invokevirtual 57, 3) := by decide +kernel
theorem dX3_run_34 : decode cX3_run 34 = .ok (.aload_n 0, 1) := by decide +kernel
theorem dX3_run_35 : decode cX3_run 35 = .ok (.getfield 25, 3) := by decide +kernel
theorem dX3_run_38 : decode cX3_run 38 = .ok (.invokevirtual 60, 3) := by decide +kernel
theorem dX3_run_41 : decode cX3_run 41 = .ok (.aload_n 0, 1) := by decide +kernel
theorem dX3_run_42 : decode cX3_run 42 = .ok (.iload_n 1, 1) := by decide +kernel
theorem dX3_run_43 : decode cX3_run 43 = .ok (.iload_n 2, 1) := by decide +kernel
theorem dX3_run_44 : decode cX3_run 44 = .ok (.iload_n 3, 1) := by decide +kernel
theorem dX3_run_45 : decode cX3_run 45 = .ok (.invokevirtual 63, 3) := by decide +kernel
theorem dX3_run_48 : decode cX3_run 48 = .ok (.lstore 4, 2) := by decide +kernel
theorem dX3_run_50 : decode cX3_run 50 = .ok (.aload_n 0, 1) := by decide +kernel
theorem dX3_run_51 : decode cX3_run 51 = .ok (.getfield 25, 3) := by decide +kernel
theorem dX3_run_54 : decode cX3_run 54 = .ok (.invokevirtual 67, 3) := by decide +kernel
theorem dX3_run_57 : decode cX3_run 57 = .ok (.invokestatic 71, 3) := by decide +kernel
theorem dX3_run_60 : decode cX3_run 60 = .ok (.lload 4, 2) := by decide +kernel
theorem dX3_run_62 : decode cX3_run 62 = .ok (.lreturn, 1) := by decide +kernel
set_option maxRecDepth 20000 in
theorem ggX3_note_X1_kept : GoodIn wsX3_note wsX1_kept := goodIn_ca (goodIn_r _ [9, 10, 11, 12, 13, 14, 15, 26, 27] (by decide +kernel) (by decide +kernel)) (goodIn_sub (fun _ h => List.mem_cons_of_mem _ (List.mem_append_left _ (List.mem_append_right _ h))) (by decide +kernel))
set_option maxRecDepth 20000 in
theorem gX3_note_X1_kept : GoodIn wsX3_note (wsV RX3 75 RX1 yX1_kept wsX1_kept) := goodIn_app (goodIn_of _ (by decide +kernel)) ggX3_note_X1_kept
theorem dX3_note_0 : decode cX3_note 0 = .ok (.iload_n 1, 1) := by decide +kernel
theorem dX3_note_1 : decode cX3_note 1 = .ok (.ifCond .lt 14, 3) := by decide +kernel
theorem dX3_note_4 : decode cX3_note 4 = .ok (.iload_n 1, 1) := by decide +kernel
theorem dX3_note_5 : decode cX3_note 5 = .ok (.aload_n 0, 1) := by decide +kernel
theorem dX3_note_6 : decode cX3_note 6 = .ok (.getfield 18, 3) := by decide +kernel
theorem dX3_note_9 : decode cX3_note 9 = .ok (.invokevirtual 75, 3) := by decide +kernel
theorem dX3_note_12 : decode cX3_note 12 = .ok (.if_icmp .lt 13, 3) := by decide +kernel
theorem dX3_note_15 : decode cX3_note 15 = .ok (.new 34, 3) := by decide +kernel
theorem dX3_note_18 : decode cX3_note 18 = .ok (.dup, 1) := by decide +kernel
theorem dX3_note_19 : decode cX3_note 19 = .ok (.ldc 78, 2) := by decide +kernel
theorem dX3_note_21 : decode cX3_note 21 = .ok (.invokespecial 38, 3) := by decide +kernel
theorem dX3_note_24 : decode cX3_note 24 = .ok (.athrow, 1) := by decide +kernel
theorem dX3_note_25 : decode cX3_note 25 = .ok (.aload_n 0, 1) := by decide +kernel
theorem dX3_note_26 : decode cX3_note 26 = .ok (.getfield 18, 3) := by decide +kernel
theorem dX3_note_29 : decode cX3_note 29 = .ok (.getfield 80, 3) := by decide +kernel
theorem dX3_note_32 : decode cX3_note 32 = .ok (.iload_n 1, 1) := by decide +kernel
theorem dX3_note_33 : decode cX3_note 33 = .ok (.iaload, 1) := by decide +kernel
theorem dX3_note_34 : decode cX3_note 34 = .ok (.ireturn, 1) := by decide +kernel
set_option maxRecDepth 20000 in
theorem ggX3_count_X2_kind : GoodIn wsX3_count wsX2_kind := goodIn_ca (goodIn_ca (goodIn_r _ [11, 12, 13, 46, 47, 48] (by decide +kernel) (by decide +kernel)) (goodIn_sub (fun _ h => List.mem_cons_of_mem _ (List.mem_append_right _ h)) (by decide +kernel))) (goodIn_sub (fun _ h => List.mem_cons_of_mem _ (List.mem_append_left _ (List.mem_append_right _ h))) (by decide +kernel))
set_option maxRecDepth 20000 in
theorem gX3_count_X2_kind : GoodIn wsX3_count (wsV RX3 67 RX2 yX2_kind wsX2_kind) := goodIn_app (goodIn_of _ (by decide +kernel)) ggX3_count_X2_kind
set_option maxRecDepth 20000 in
theorem ggX3_count_X2_number : GoodIn wsX3_count wsX2_number := goodIn_ca (goodIn_ca (goodIn_r _ [17, 12, 18, 46, 47, 48] (by decide +kernel) (by decide +kernel)) (goodIn_sub (fun _ h => List.mem_cons_of_mem _ (List.mem_append_right _ h)) (by decide +kernel))) (goodIn_sub (fun _ h => List.mem_cons_of_mem _ (List.mem_append_left _ (List.mem_append_right _ h))) (by decide +kernel))
set_option maxRecDepth 20000 in
theorem gX3_count_X2_number : GoodIn wsX3_count (wsV RX3 87 RX2 yX2_number wsX2_number) := goodIn_app (goodIn_of _ (by decide +kernel)) ggX3_count_X2_number
set_option maxRecDepth 20000 in
theorem ggX3_count_X2_causes : GoodIn wsX3_count wsX2_causes := goodIn_r _ [22, 12, 46, 47, 48] (by decide +kernel) (by decide +kernel)
set_option maxRecDepth 20000 in
theorem gX3_count_X2_causes : GoodIn wsX3_count (wsV RX3 90 RX2 yX2_causes wsX2_causes) := goodIn_app (goodIn_of _ (by decide +kernel)) ggX3_count_X2_causes
set_option maxRecDepth 20000 in
theorem ggX3_count_X2_lastCauseKind : GoodIn wsX3_count wsX2_lastCauseKind := goodIn_ca (goodIn_ca (goodIn_r _ [26, 13, 27, 20, 21, 10, 22, 12, 46, 47, 48] (by decide +kernel) (by decide +kernel)) (goodIn_sub (fun _ h => List.mem_cons_of_mem _ (List.mem_append_left _ (List.mem_append_right _ h))) (by decide +kernel))) (goodIn_sub (fun _ h => List.mem_cons_of_mem _ (List.mem_append_right _ h)) (by decide +kernel))
set_option maxRecDepth 20000 in
theorem gX3_count_X2_lastCauseKind : GoodIn wsX3_count (wsV RX3 93 RX2 yX2_lastCauseKind wsX2_lastCauseKind) := goodIn_app (goodIn_of _ (by decide +kernel)) ggX3_count_X2_lastCauseKind
set_option maxRecDepth 20000 in
theorem ggX3_count_X2_lastCauseNumber : GoodIn wsX3_count wsX2_lastCauseNumber := goodIn_ca (goodIn_ca (goodIn_r _ [31, 18, 27, 20, 21, 10, 22, 12, 46, 47, 48] (by decide +kernel) (by decide +kernel)) (goodIn_sub (fun _ h => List.mem_cons_of_mem _ (List.mem_append_left _ (List.mem_append_right _ h))) (by decide +kernel))) (goodIn_sub (fun _ h => List.mem_cons_of_mem _ (List.mem_append_right _ h)) (by decide +kernel))
set_option maxRecDepth 20000 in
theorem gX3_count_X2_lastCauseNumber : GoodIn wsX3_count (wsV RX3 96 RX2 yX2_lastCauseNumber wsX2_lastCauseNumber) := goodIn_app (goodIn_of _ (by decide +kernel)) ggX3_count_X2_lastCauseNumber
theorem dX3_count_0 : decode cX3_count 0 = .ok (.iload_n 1, 1) := by decide +kernel
theorem dX3_count_1 : decode cX3_count 1 = .ok (.tableswitch 96 0 6 #[43, 51, 56, 64, 72, 80, 88], 43) := by decide +kernel
theorem dX3_count_44 : decode cX3_count 44 = .ok (.aload_n 0, 1) := by decide +kernel
theorem dX3_count_45 : decode cX3_count 45 = .ok (.getfield 18, 3) := by decide +kernel
theorem dX3_count_48 : decode cX3_count 48 = .ok (.getfield 84, 3) := by decide +kernel
theorem dX3_count_51 : decode cX3_count 51 = .ok (.ireturn, 1) := by decide +kernel
theorem dX3_count_52 : decode cX3_count 52 = .ok (.aload_n 0, 1) := by decide +kernel
theorem dX3_count_53 : decode cX3_count 53 = .ok (.getfield 54, 3) := by decide +kernel
theorem dX3_count_56 : decode cX3_count 56 = .ok (.ireturn, 1) := by decide +kernel
theorem dX3_count_57 : decode cX3_count 57 = .ok (.aload_n 0, 1) := by decide +kernel
theorem dX3_count_58 : decode cX3_count 58 = .ok (.getfield 25, 3) := by decide +kernel
theorem dX3_count_61 : decode cX3_count 61 = .ok (.invokevirtual 67, 3) := by decide +kernel
theorem dX3_count_64 : decode cX3_count 64 = .ok (.ireturn, 1) := by decide +kernel
theorem dX3_count_65 : decode cX3_count 65 = .ok (.aload_n 0, 1) := by decide +kernel
theorem dX3_count_66 : decode cX3_count 66 = .ok (.getfield 25, 3) := by decide +kernel
theorem dX3_count_69 : decode cX3_count 69 = .ok (.invokevirtual 87, 3) := by decide +kernel
theorem dX3_count_72 : decode cX3_count 72 = .ok (.ireturn, 1) := by decide +kernel
theorem dX3_count_73 : decode cX3_count 73 = .ok (.aload_n 0, 1) := by decide +kernel
theorem dX3_count_74 : decode cX3_count 74 = .ok (.getfield 25, 3) := by decide +kernel
theorem dX3_count_77 : decode cX3_count 77 = .ok (.invokevirtual 90, 3) := by decide +kernel
theorem dX3_count_80 : decode cX3_count 80 = .ok (.ireturn, 1) := by decide +kernel
theorem dX3_count_81 : decode cX3_count 81 = .ok (.aload_n 0, 1) := by decide +kernel
theorem dX3_count_82 : decode cX3_count 82 = .ok (.getfield 25, 3) := by decide +kernel
theorem dX3_count_85 : decode cX3_count 85 = .ok (.invokevirtual 93, 3) := by decide +kernel
theorem dX3_count_88 : decode cX3_count 88 = .ok (.ireturn, 1) := by decide +kernel
theorem dX3_count_89 : decode cX3_count 89 = .ok (.aload_n 0, 1) := by decide +kernel
theorem dX3_count_90 : decode cX3_count 90 = .ok (.getfield 25, 3) := by decide +kernel
theorem dX3_count_93 : decode cX3_count 93 = .ok (.invokevirtual 96, 3) := by decide +kernel
theorem dX3_count_96 : decode cX3_count 96 = .ok (.ireturn, 1) := by decide +kernel
theorem dX3_count_97 : decode cX3_count 97 = .ok (.new 99, 3) := by decide +kernel
theorem dX3_count_100 : decode cX3_count 100 = .ok (.dup, 1) := by decide +kernel
theorem dX3_count_101 : decode cX3_count 101 = .ok (.ldc 101, 2) := by decide +kernel
theorem dX3_count_103 : decode cX3_count 103 = .ok (.invokespecial 103, 3) := by decide +kernel
theorem dX3_count_106 : decode cX3_count 106 = .ok (.athrow, 1) := by decide +kernel
theorem dX3_isLevel_0 : decode cX3_isLevel 0 = .ok (.iload_n 0, 1) := by decide +kernel
theorem dX3_isLevel_1 : decode cX3_isLevel 1 = .ok (.ifCond .lt 13, 3) := by decide +kernel
theorem dX3_isLevel_4 : decode cX3_isLevel 4 = .ok (.iload_n 0, 1) := by decide +kernel
theorem dX3_isLevel_5 : decode cX3_isLevel 5 = .ok (.bipush 6, 2) := by decide +kernel
theorem dX3_isLevel_7 : decode cX3_isLevel 7 = .ok (.if_icmp .ge 7, 3) := by decide +kernel
theorem dX3_isLevel_10 : decode cX3_isLevel 10 = .ok (.iconst 1, 1) := by decide +kernel
theorem dX3_isLevel_11 : decode cX3_isLevel 11 = .ok (.goto 4, 3) := by decide +kernel
theorem dX3_isLevel_14 : decode cX3_isLevel 14 = .ok (.iconst 0, 1) := by decide +kernel
theorem dX3_isLevel_15 : decode cX3_isLevel 15 = .ok (.ireturn, 1) := by decide +kernel
set_option maxRecDepth 20000 in
theorem ggX3_doLevel_X1_add : GoodIn wsX3_doLevel wsX1_add := goodIn_ca (goodIn_ca (goodIn_r _ [8, 9, 10, 66, 67] (by decide +kernel) (by decide +kernel)) (goodIn_sub (fun _ h => List.mem_cons_of_mem _ (List.mem_append_left _ (List.mem_append_right _ h))) (by decide +kernel))) (goodIn_sub (fun _ h => List.mem_cons_of_mem _ (List.mem_append_right _ h)) (by decide +kernel))
set_option maxRecDepth 20000 in
theorem gX3_doLevel_X1_add : GoodIn wsX3_doLevel (wsV RX3 104 RX1 yX1_add wsX1_add) := goodIn_app (goodIn_of _ (by decide +kernel)) ggX3_doLevel_X1_add
set_option maxRecDepth 20000 in
theorem ggX3_doLevel_X3_goDown : GoodIn wsX3_doLevel wsX3_goDown := goodIn_ca (goodIn_ca (goodIn_r _ [49, 2, 50, 51, 52, 14, 53, 54, 39, 40, 41, 42, 3, 35, 36, 37, 18, 38, 20, 43, 44, 45, 46, 21, 47, 55, 56, 57, 58, 1, 4, 5, 6, 7, 8, 9, 10, 59, 60, 61, 0, 11, 12, 13, 15, 16, 17, 19, 22, 23, 24, 25, 26, 27, 28, 29, 30, 31, 32, 33, 34, 48, 62, 63, 64, 65, 66, 67, 68, 69, 70, 71, 72, 73, 74] (by decide +kernel) (by decide +kernel)) (goodIn_sub (fun _ h => List.mem_cons_of_mem _ (List.mem_append_left _ (List.mem_append_right _ h))) (by decide +kernel))) (goodIn_sub (fun _ h => List.mem_cons_of_mem _ (List.mem_append_right _ h)) (by decide +kernel))
set_option maxRecDepth 20000 in
theorem gX3_doLevel_X3_goDown : GoodIn wsX3_doLevel (wsV RX3 107 RX3 yX3_goDown wsX3_goDown) := goodIn_app (goodIn_of _ (by decide +kernel)) ggX3_doLevel_X3_goDown
set_option maxRecDepth 20000 in
theorem ggX3_doLevel_X2_kind : GoodIn wsX3_doLevel wsX2_kind := goodIn_ca (goodIn_ca (goodIn_r _ [19, 20, 21, 68, 69, 70] (by decide +kernel) (by decide +kernel)) (goodIn_sub (fun _ h => List.mem_cons_of_mem _ (List.mem_append_right _ h)) (by decide +kernel))) (goodIn_sub (fun _ h => List.mem_cons_of_mem _ (List.mem_append_left _ (List.mem_append_right _ h))) (by decide +kernel))
set_option maxRecDepth 20000 in
theorem gX3_doLevel_X2_kind : GoodIn wsX3_doLevel (wsV RX3 67 RX2 yX2_kind wsX2_kind) := goodIn_app (goodIn_of _ (by decide +kernel)) ggX3_doLevel_X2_kind
set_option maxRecDepth 20000 in
theorem ggX3_doLevel_X0_takesKind : GoodIn wsX3_doLevel wsX0_takesKind := goodIn_r _ [26, 27, 71, 72, 73, 74] (by decide +kernel) (by decide +kernel)
set_option maxRecDepth 20000 in
theorem gX3_doLevel_X0_takesKind : GoodIn wsX3_doLevel (wsV RX3 110 RX0 yX0_takesKind wsX0_takesKind) := goodIn_app (goodIn_of _ (by decide +kernel)) ggX3_doLevel_X0_takesKind
set_option maxRecDepth 20000 in
theorem ggX3_doLevel_X3_doThen : GoodIn wsX3_doLevel wsX3_doThen := goodIn_ca (goodIn_ca (goodIn_r _ [48, 2, 1, 3, 15, 16, 17, 18, 19, 20, 21, 4, 5, 6, 7, 8, 9, 10, 35, 36, 37, 38, 43, 44, 45, 46, 47, 39, 40, 41, 14, 42, 11, 12, 13, 0, 22, 23, 24, 25, 26, 27, 28, 29, 30, 31, 32, 33, 34, 49, 50, 51, 52, 53, 54, 55, 56, 57, 58, 59, 60, 61, 62, 63, 64, 65, 66, 67, 68, 69, 70, 71, 72, 73, 74] (by decide +kernel) (by decide +kernel)) (goodIn_sub (fun _ h => List.mem_cons_of_mem _ (List.mem_append_left _ (List.mem_append_right _ h))) (by decide +kernel))) (goodIn_sub (fun _ h => List.mem_cons_of_mem _ (List.mem_append_right _ h)) (by decide +kernel))
set_option maxRecDepth 20000 in
theorem gX3_doLevel_X3_doThen : GoodIn wsX3_doLevel (wsV RX3 113 RX3 yX3_doThen wsX3_doThen) := goodIn_app (goodIn_of _ (by decide +kernel)) ggX3_doLevel_X3_doThen
set_option maxRecDepth 20000 in
theorem ggX3_doLevel_X3_doLast : GoodIn wsX3_doLevel wsX3_doLast := goodIn_ca (goodIn_ca (goodIn_r _ [34, 2, 1, 3, 4, 5, 6, 7, 8, 9, 10, 35, 36, 37, 18, 38, 20, 39, 40, 41, 14, 42, 43, 44, 45, 46, 21, 47, 62, 63, 64, 65, 71, 72, 73, 74, 66, 67, 68, 69, 70] (by decide +kernel) (by decide +kernel)) (goodIn_sub (fun _ h => List.mem_cons_of_mem _ (List.mem_append_left _ (List.mem_append_right _ h))) (by decide +kernel))) (goodIn_sub (fun _ h => List.mem_cons_of_mem _ (List.mem_append_right _ h)) (by decide +kernel))
set_option maxRecDepth 20000 in
theorem gX3_doLevel_X3_doLast : GoodIn wsX3_doLevel (wsV RX3 117 RX3 yX3_doLast wsX3_doLast) := goodIn_app (goodIn_of _ (by decide +kernel)) ggX3_doLevel_X3_doLast
theorem dX3_doLevel_0 : decode cX3_doLevel 0 = .ok (.aload_n 0, 1) := by decide +kernel
theorem dX3_doLevel_1 : decode cX3_doLevel 1 = .ok (.getfield 18, 3) := by decide +kernel
theorem dX3_doLevel_4 : decode cX3_doLevel 4 = .ok (.iload_n 1, 1) := by decide +kernel
theorem dX3_doLevel_5 : decode cX3_doLevel 5 = .ok (.invokevirtual 104, 3) := by decide +kernel
theorem dX3_doLevel_8 : decode cX3_doLevel 8 = .ok (.aload_n 0, 1) := by decide +kernel
theorem dX3_doLevel_9 : decode cX3_doLevel 9 = .ok (.iload_n 1, 1) := by decide +kernel
theorem dX3_doLevel_10 : decode cX3_doLevel 10 = .ok (.iload_n 2, 1) := by decide +kernel
theorem dX3_doLevel_11 : decode cX3_doLevel 11 = .ok (.iload_n 3, 1) := by decide +kernel
theorem dX3_doLevel_12 : decode cX3_doLevel 12 = .ok (.invokevirtual 107, 3) := by decide +kernel
theorem dX3_doLevel_15 : decode cX3_doLevel 15 = .ok (.lstore 4, 2) := by decide +kernel
theorem dX3_doLevel_17 : decode cX3_doLevel 17 = .ok (.aload_n 0, 1) := by decide +kernel
theorem dX3_doLevel_18 : decode cX3_doLevel 18 = .ok (.getfield 11, 3) := by decide +kernel
theorem dX3_doLevel_21 : decode cX3_doLevel 21 = .ok (.iload_n 1, 1) := by decide +kernel
theorem dX3_doLevel_22 : decode cX3_doLevel 22 = .ok (.aaload, 1) := by decide +kernel
theorem dX3_doLevel_23 : decode cX3_doLevel 23 = .ok (.aload_n 0, 1) := by decide +kernel
theorem dX3_doLevel_24 : decode cX3_doLevel 24 = .ok (.getfield 25, 3) := by decide +kernel
theorem dX3_doLevel_27 : decode cX3_doLevel 27 = .ok (.invokevirtual 67, 3) := by decide +kernel
theorem dX3_doLevel_30 : decode cX3_doLevel 30 = .ok (.invokevirtual 110, 3) := by decide +kernel
theorem dX3_doLevel_33 : decode cX3_doLevel 33 = .ok (.ifCond .eq 10, 3) := by decide +kernel
theorem dX3_doLevel_36 : decode cX3_doLevel 36 = .ok (.aload_n 0, 1) := by decide +kernel
theorem dX3_doLevel_37 : decode cX3_doLevel 37 = .ok (.iload_n 1, 1) := by decide +kernel
theorem dX3_doLevel_38 : decode cX3_doLevel 38 = .ok (.invokevirtual 113, 3) := by decide +kernel
theorem dX3_doLevel_41 : decode cX3_doLevel 41 = .ok (.lstore 4, 2) := by decide +kernel
theorem dX3_doLevel_43 : decode cX3_doLevel 43 = .ok (.aload_n 0, 1) := by decide +kernel
theorem dX3_doLevel_44 : decode cX3_doLevel 44 = .ok (.iload_n 1, 1) := by decide +kernel
theorem dX3_doLevel_45 : decode cX3_doLevel 45 = .ok (.lload 4, 2) := by decide +kernel
theorem dX3_doLevel_47 : decode cX3_doLevel 47 = .ok (.invokevirtual 117, 3) := by decide +kernel
theorem dX3_doLevel_50 : decode cX3_doLevel 50 = .ok (.lreturn, 1) := by decide +kernel
set_option maxRecDepth 20000 in
theorem ggX3_goDown_X3_reachBottom : GoodIn wsX3_goDown wsX3_reachBottom := goodIn_ca (goodIn_ca (goodIn_r _ [6, 7, 8, 9, 10, 5, 11, 12, 13, 14, 15, 16, 17, 18, 19, 20, 21, 22, 23, 24, 25, 26, 27, 28, 29, 30, 31, 32, 33, 34, 35, 36, 62, 63, 64, 65, 68, 69, 70, 66, 67] (by decide +kernel) (by decide +kernel)) (goodIn_sub (fun _ h => List.mem_cons_of_mem _ (List.mem_append_left _ (List.mem_append_right _ h))) (by decide +kernel))) (goodIn_sub (fun _ h => List.mem_cons_of_mem _ (List.mem_append_right _ h)) (by decide +kernel))
set_option maxRecDepth 20000 in
theorem gX3_goDown_X3_reachBottom : GoodIn wsX3_goDown (wsV RX3 121 RX3 yX3_reachBottom wsX3_reachBottom) := goodIn_app (goodIn_of _ (by decide +kernel)) ggX3_goDown_X3_reachBottom
set_option maxRecDepth 20000 in
theorem ggX3_goDown_X3_doLevel : GoodIn wsX3_goDown wsX3_doLevel := goodIn_ca (goodIn_ca (goodIn_r _ [40, 29, 1, 12, 30, 31, 32, 33, 34, 35, 36, 41, 42, 43, 5, 44, 45, 46, 16, 47, 18, 23, 48, 49, 50, 51, 52, 53, 54, 55, 56, 57, 58, 59, 60, 13, 14, 15, 17, 8, 9, 10, 11, 19, 20, 21, 22, 24, 61, 0, 2, 3, 4, 6, 7, 25, 26, 27, 28, 37, 38, 39, 62, 63, 64, 65, 66, 67, 68, 69, 70, 71, 72, 73, 74] (by decide +kernel) (by decide +kernel)) (goodIn_sub (fun _ h => List.mem_cons_of_mem _ (List.mem_append_left _ (List.mem_append_right _ h))) (by decide +kernel))) (goodIn_sub (fun _ h => List.mem_cons_of_mem _ (List.mem_append_right _ h)) (by decide +kernel))
set_option maxRecDepth 20000 in
theorem gX3_goDown_X3_doLevel : GoodIn wsX3_goDown (wsV RX3 63 RX3 yX3_doLevel wsX3_doLevel) := goodIn_app (goodIn_of _ (by decide +kernel)) ggX3_goDown_X3_doLevel
theorem dX3_goDown_0 : decode cX3_goDown 0 = .ok (.iload_n 1, 1) := by decide +kernel
theorem dX3_goDown_1 : decode cX3_goDown 1 = .ok (.ifCond .gt 10, 3) := by decide +kernel
theorem dX3_goDown_4 : decode cX3_goDown 4 = .ok (.aload_n 0, 1) := by decide +kernel
theorem dX3_goDown_5 : decode cX3_goDown 5 = .ok (.iload_n 2, 1) := by decide +kernel
theorem dX3_goDown_6 : decode cX3_goDown 6 = .ok (.iload_n 3, 1) := by decide +kernel
theorem dX3_goDown_7 : decode cX3_goDown 7 = .ok (.invokevirtual 121, 3) := by decide +kernel
theorem dX3_goDown_10 : decode cX3_goDown 10 = .ok (.lreturn, 1) := by decide +kernel
theorem dX3_goDown_11 : decode cX3_goDown 11 = .ok (.aload_n 0, 1) := by decide +kernel
theorem dX3_goDown_12 : decode cX3_goDown 12 = .ok (.iload_n 1, 1) := by decide +kernel
theorem dX3_goDown_13 : decode cX3_goDown 13 = .ok (.iconst 1, 1) := by decide +kernel
theorem dX3_goDown_14 : decode cX3_goDown 14 = .ok (.isub, 1) := by decide +kernel
theorem dX3_goDown_15 : decode cX3_goDown 15 = .ok (.iload_n 2, 1) := by decide +kernel
theorem dX3_goDown_16 : decode cX3_goDown 16 = .ok (.iload_n 3, 1) := by decide +kernel
theorem dX3_goDown_17 : decode cX3_goDown 17 = .ok (.invokevirtual 63, 3) := by decide +kernel
theorem dX3_goDown_20 : decode cX3_goDown 20 = .ok (.aload_n 0, 1) := by decide +kernel
theorem dX3_goDown_21 : decode cX3_goDown 21 = .ok (.getfield 11, 3) := by decide +kernel
theorem dX3_goDown_24 : decode cX3_goDown 24 = .ok (.iload_n 1, 1) := by decide +kernel
theorem dX3_goDown_25 : decode cX3_goDown 25 = .ok (.aaload, 1) := by decide +kernel
theorem dX3_goDown_26 : decode cX3_goDown 26 = .ok (.getfield 41, 3) := by decide +kernel
theorem dX3_goDown_29 : decode cX3_goDown 29 = .ok (.i2l, 1) := by decide +kernel
theorem dX3_goDown_30 : decode cX3_goDown 30 = .ok (.ladd, 1) := by decide +kernel
theorem dX3_goDown_31 : decode cX3_goDown 31 = .ok (.lreturn, 1) := by decide +kernel
set_option maxRecDepth 20000 in
theorem ggX3_doThen_X2_kind : GoodIn wsX3_doThen wsX2_kind := goodIn_ca (goodIn_ca (goodIn_r _ [8, 9, 10, 68, 69, 70] (by decide +kernel) (by decide +kernel)) (goodIn_sub (fun _ h => List.mem_cons_of_mem _ (List.mem_append_right _ h)) (by decide +kernel))) (goodIn_sub (fun _ h => List.mem_cons_of_mem _ (List.mem_append_left _ (List.mem_append_right _ h))) (by decide +kernel))
set_option maxRecDepth 20000 in
theorem gX3_doThen_X2_kind : GoodIn wsX3_doThen (wsV RX3 67 RX2 yX2_kind wsX2_kind) := goodIn_app (goodIn_of _ (by decide +kernel)) ggX3_doThen_X2_kind
set_option maxRecDepth 20000 in
theorem ggX3_doThen_X1_add : GoodIn wsX3_doThen wsX1_add := goodIn_ca (goodIn_ca (goodIn_r _ [15, 16, 17, 66, 67] (by decide +kernel) (by decide +kernel)) (goodIn_sub (fun _ h => List.mem_cons_of_mem _ (List.mem_append_left _ (List.mem_append_right _ h))) (by decide +kernel))) (goodIn_sub (fun _ h => List.mem_cons_of_mem _ (List.mem_append_right _ h)) (by decide +kernel))
set_option maxRecDepth 20000 in
theorem gX3_doThen_X1_add : GoodIn wsX3_doThen (wsV RX3 104 RX1 yX1_add wsX1_add) := goodIn_app (goodIn_of _ (by decide +kernel)) ggX3_doThen_X1_add
set_option maxRecDepth 20000 in
theorem ggX3_doThen_X2_drop : GoodIn wsX3_doThen wsX2_drop := goodIn_r _ [21, 9, 68, 69, 70] (by decide +kernel) (by decide +kernel)
set_option maxRecDepth 20000 in
theorem gX3_doThen_X2_drop : GoodIn wsX3_doThen (wsV RX3 60 RX2 yX2_drop wsX2_drop) := goodIn_app (goodIn_of _ (by decide +kernel)) ggX3_doThen_X2_drop
set_option maxRecDepth 20000 in
theorem ggX3_doThen_X2_wrap : GoodIn wsX3_doThen wsX2_wrap := goodIn_ca (goodIn_ca (goodIn_r _ [25, 9, 10, 26, 68, 69, 70] (by decide +kernel) (by decide +kernel)) (goodIn_sub (fun _ h => List.mem_cons_of_mem _ (List.mem_append_right _ h)) (by decide +kernel))) (goodIn_sub (fun _ h => List.mem_cons_of_mem _ (List.mem_append_left _ (List.mem_append_right _ h))) (by decide +kernel))
set_option maxRecDepth 20000 in
theorem gX3_doThen_X2_wrap : GoodIn wsX3_doThen (wsV RX3 125 RX2 yX2_wrap wsX2_wrap) := goodIn_app (goodIn_of _ (by decide +kernel)) ggX3_doThen_X2_wrap
set_option maxRecDepth 20000 in
theorem ggX3_doThen_X3_throwNew : GoodIn wsX3_doThen wsX3_throwNew := goodIn_ca (goodIn_ca (goodIn_r _ [31, 3, 18, 19, 20, 7, 21, 9, 22, 23, 24, 25, 10, 26, 62, 63, 64, 65, 68, 69, 70] (by decide +kernel) (by decide +kernel)) (goodIn_sub (fun _ h => List.mem_cons_of_mem _ (List.mem_append_left _ (List.mem_append_right _ h))) (by decide +kernel))) (goodIn_sub (fun _ h => List.mem_cons_of_mem _ (List.mem_append_right _ h)) (by decide +kernel))
set_option maxRecDepth 20000 in
theorem gX3_doThen_X3_throwNew : GoodIn wsX3_doThen (wsV RX3 129 RX3 yX3_throwNew wsX3_throwNew) := goodIn_app (goodIn_of _ (by decide +kernel)) ggX3_doThen_X3_throwNew
set_option maxRecDepth 20000 in
theorem ggX3_doThen_X3_goDown : GoodIn wsX3_doThen wsX3_goDown := goodIn_ca (goodIn_ca (goodIn_r _ [49, 1, 50, 51, 52, 30, 53, 54, 27, 28, 29, 31, 3, 18, 19, 20, 7, 21, 9, 22, 23, 24, 25, 10, 26, 55, 56, 57, 58, 2, 11, 12, 13, 14, 15, 16, 17, 59, 60, 61, 35, 32, 33, 34, 4, 5, 6, 8, 36, 37, 38, 39, 40, 41, 42, 43, 44, 45, 46, 47, 48, 0, 62, 63, 64, 65, 66, 67, 68, 69, 70, 71, 72, 73, 74] (by decide +kernel) (by decide +kernel)) (goodIn_sub (fun _ h => List.mem_cons_of_mem _ (List.mem_append_left _ (List.mem_append_right _ h))) (by decide +kernel))) (goodIn_sub (fun _ h => List.mem_cons_of_mem _ (List.mem_append_right _ h)) (by decide +kernel))
set_option maxRecDepth 20000 in
theorem gX3_doThen_X3_goDown : GoodIn wsX3_doThen (wsV RX3 107 RX3 yX3_goDown wsX3_goDown) := goodIn_app (goodIn_of _ (by decide +kernel)) ggX3_doThen_X3_goDown
theorem dX3_doThen_0 : decode cX3_doThen 0 = .ok (.aload_n 0, 1) := by decide +kernel
theorem dX3_doThen_1 : decode cX3_doThen 1 = .ok (.getfield 11, 3) := by decide +kernel
theorem dX3_doThen_4 : decode cX3_doThen 4 = .ok (.iload_n 1, 1) := by decide +kernel
theorem dX3_doThen_5 : decode cX3_doThen 5 = .ok (.aaload, 1) := by decide +kernel
theorem dX3_doThen_6 : decode cX3_doThen 6 = .ok (.getfield 41, 3) := by decide +kernel
theorem dX3_doThen_9 : decode cX3_doThen 9 = .ok (.istore_n 2, 1) := by decide +kernel
theorem dX3_doThen_10 : decode cX3_doThen 10 = .ok (.aload_n 0, 1) := by decide +kernel
theorem dX3_doThen_11 : decode cX3_doThen 11 = .ok (.getfield 18, 3) := by decide +kernel
theorem dX3_doThen_14 : decode cX3_doThen 14 = .ok (.bipush 100, 2) := by decide +kernel
theorem dX3_doThen_16 : decode cX3_doThen 16 = .ok (.aload_n 0, 1) := by decide +kernel
theorem dX3_doThen_17 : decode cX3_doThen 17 = .ok (.getfield 25, 3) := by decide +kernel
theorem dX3_doThen_20 : decode cX3_doThen 20 = .ok (.invokevirtual 67, 3) := by decide +kernel
theorem dX3_doThen_23 : decode cX3_doThen 23 = .ok (.imul, 1) := by decide +kernel
theorem dX3_doThen_24 : decode cX3_doThen 24 = .ok (.iload_n 1, 1) := by decide +kernel
theorem dX3_doThen_25 : decode cX3_doThen 25 = .ok (.iadd, 1) := by decide +kernel
theorem dX3_doThen_26 : decode cX3_doThen 26 = .ok (.invokevirtual 104, 3) := by decide +kernel
theorem dX3_doThen_29 : decode cX3_doThen 29 = .ok (.aload_n 0, 1) := by decide +kernel
theorem dX3_doThen_30 : decode cX3_doThen 30 = .ok (.getfield 11, 3) := by decide +kernel
theorem dX3_doThen_33 : decode cX3_doThen 33 = .ok (.iload_n 1, 1) := by decide +kernel
theorem dX3_doThen_34 : decode cX3_doThen 34 = .ok (.aaload, 1) := by decide +kernel
theorem dX3_doThen_35 : decode cX3_doThen 35 = .ok (.getfield 48, 3) := by decide +kernel
theorem dX3_doThen_38 : decode cX3_doThen 38 = .ok (.tableswitch 75 0 4 #[34, 44, 46, 57, 68], 34) := by decide +kernel
theorem dX3_doThen_72 : decode cX3_doThen 72 = .ok (.aload_n 0, 1) := by decide +kernel
theorem dX3_doThen_73 : decode cX3_doThen 73 = .ok (.getfield 25, 3) := by decide +kernel
theorem dX3_doThen_76 : decode cX3_doThen 76 = .ok (.invokevirtual 60, 3) := by decide +kernel
theorem dX3_doThen_79 : decode cX3_doThen 79 = .ok (.iload_n 2, 1) := by decide +kernel
theorem dX3_doThen_80 : decode cX3_doThen 80 = .ok (.i2l, 1) := by decide +kernel
theorem dX3_doThen_81 : decode cX3_doThen 81 = .ok (.lreturn, 1) := by decide +kernel
theorem dX3_doThen_82 : decode cX3_doThen 82 = .ok (.lconst 0, 1) := by decide +kernel
theorem dX3_doThen_83 : decode cX3_doThen 83 = .ok (.lreturn, 1) := by decide +kernel
theorem dX3_doThen_84 : decode cX3_doThen 84 = .ok (.aload_n 0, 1) := by decide +kernel
theorem dX3_doThen_85 : decode cX3_doThen 85 = .ok (.getfield 25, 3) := by decide +kernel
theorem dX3_doThen_88 : decode cX3_doThen 88 = .ok (.iconst 1, 1) := by decide +kernel
theorem dX3_doThen_89 : decode cX3_doThen 89 = .ok (.iload_n 2, 1) := by decide +kernel
theorem dX3_doThen_90 : decode cX3_doThen 90 = .ok (.invokevirtual 125, 3) := by decide +kernel
theorem dX3_doThen_93 : decode cX3_doThen 93 = .ok (.lconst 0, 1) := by decide +kernel
theorem dX3_doThen_94 : decode cX3_doThen 94 = .ok (.lreturn, 1) := by decide +kernel
theorem dX3_doThen_95 : decode cX3_doThen 95 = .ok (.aload_n 0, 1) := by decide +kernel
theorem dX3_doThen_96 : decode cX3_doThen 96 = .ok (.getfield 25, 3) := by decide +kernel
theorem dX3_doThen_99 : decode cX3_doThen 99 = .ok (.iconst 2, 1) := by decide +kernel
theorem dX3_doThen_100 : decode cX3_doThen 100 = .ok (.iload_n 2, 1) := by decide +kernel
theorem dX3_doThen_101 : decode cX3_doThen 101 = .ok (.invokevirtual 125, 3) := by decide +kernel
theorem dX3_doThen_104 : decode cX3_doThen 104 = .ok (.lconst 0, 1) := by decide +kernel
theorem dX3_doThen_105 : decode cX3_doThen 105 = .ok (.lreturn, 1) := by decide +kernel
theorem dX3_doThen_106 : decode cX3_doThen 106 = .ok (.aload_n 0, 1) := by decide +kernel
theorem dX3_doThen_107 : decode cX3_doThen 107 = .ok (.iconst 3, 1) := by decide +kernel
theorem dX3_doThen_108 : decode cX3_doThen 108 = .ok (.iconst 0, 1) := by decide +kernel
theorem dX3_doThen_109 : decode cX3_doThen 109 = .ok (.invokevirtual 129, 3) := by decide +kernel
theorem dX3_doThen_112 : decode cX3_doThen 112 = .ok (.lreturn, 1) := by decide +kernel
theorem dX3_doThen_113 : decode cX3_doThen 113 = .ok (.aload_n 0, 1) := by decide +kernel
theorem dX3_doThen_114 : decode cX3_doThen 114 = .ok (.getfield 25, 3) := by decide +kernel
theorem dX3_doThen_117 : decode cX3_doThen 117 = .ok (.invokevirtual 60, 3) := by decide +kernel
theorem dX3_doThen_120 : decode cX3_doThen 120 = .ok (.aload_n 0, 1) := by decide +kernel
theorem dX3_doThen_121 : decode cX3_doThen 121 = .ok (.iload_n 1, 1) := by decide +kernel
theorem dX3_doThen_122 : decode cX3_doThen 122 = .ok (.iconst 0, 1) := by decide +kernel
theorem dX3_doThen_123 : decode cX3_doThen 123 = .ok (.iload_n 2, 1) := by decide +kernel
theorem dX3_doThen_124 : decode cX3_doThen 124 = .ok (.invokevirtual 107, 3) := by decide +kernel
theorem dX3_doThen_127 : decode cX3_doThen 127 = .ok (.lreturn, 1) := by decide +kernel
set_option maxRecDepth 20000 in
theorem ggX3_doLast_X1_add : GoodIn wsX3_doLast wsX1_add := goodIn_ca (goodIn_ca (goodIn_r _ [8, 9, 10, 36, 37] (by decide +kernel) (by decide +kernel)) (goodIn_sub (fun _ h => List.mem_cons_of_mem _ (List.mem_append_left _ (List.mem_append_right _ h))) (by decide +kernel))) (goodIn_sub (fun _ h => List.mem_cons_of_mem _ (List.mem_append_right _ h)) (by decide +kernel))
set_option maxRecDepth 20000 in
theorem gX3_doLast_X1_add : GoodIn wsX3_doLast (wsV RX3 104 RX1 yX1_add wsX1_add) := goodIn_app (goodIn_of _ (by decide +kernel)) ggX3_doLast_X1_add
set_option maxRecDepth 20000 in
theorem ggX3_doLast_X2_drop : GoodIn wsX3_doLast wsX2_drop := goodIn_r _ [15, 16, 38, 39, 40] (by decide +kernel) (by decide +kernel)
set_option maxRecDepth 20000 in
theorem gX3_doLast_X2_drop : GoodIn wsX3_doLast (wsV RX3 60 RX2 yX2_drop wsX2_drop) := goodIn_app (goodIn_of _ (by decide +kernel)) ggX3_doLast_X2_drop
set_option maxRecDepth 20000 in
theorem ggX3_doLast_X3_throwNew : GoodIn wsX3_doLast wsX3_throwNew := goodIn_ca (goodIn_ca (goodIn_r _ [21, 3, 11, 12, 13, 14, 15, 16, 22, 23, 24, 25, 26, 27, 28, 29, 30, 31, 38, 39, 40] (by decide +kernel) (by decide +kernel)) (goodIn_sub (fun _ h => List.mem_cons_of_mem _ (List.mem_append_left _ (List.mem_append_right _ h))) (by decide +kernel))) (goodIn_sub (fun _ h => List.mem_cons_of_mem _ (List.mem_append_right _ h)) (by decide +kernel))
set_option maxRecDepth 20000 in
theorem gX3_doLast_X3_throwNew : GoodIn wsX3_doLast (wsV RX3 129 RX3 yX3_throwNew wsX3_throwNew) := goodIn_app (goodIn_of _ (by decide +kernel)) ggX3_doLast_X3_throwNew
theorem dX3_doLast_0 : decode cX3_doLast 0 = .ok (.aload_n 0, 1) := by decide +kernel
theorem dX3_doLast_1 : decode cX3_doLast 1 = .ok (.getfield 11, 3) := by decide +kernel
theorem dX3_doLast_4 : decode cX3_doLast 4 = .ok (.iload_n 1, 1) := by decide +kernel
theorem dX3_doLast_5 : decode cX3_doLast 5 = .ok (.aaload, 1) := by decide +kernel
theorem dX3_doLast_6 : decode cX3_doLast 6 = .ok (.getfield 41, 3) := by decide +kernel
theorem dX3_doLast_9 : decode cX3_doLast 9 = .ok (.istore 4, 2) := by decide +kernel
theorem dX3_doLast_11 : decode cX3_doLast 11 = .ok (.aload_n 0, 1) := by decide +kernel
theorem dX3_doLast_12 : decode cX3_doLast 12 = .ok (.getfield 18, 3) := by decide +kernel
theorem dX3_doLast_15 : decode cX3_doLast 15 = .ok (.sipush 600, 3) := by decide +kernel
theorem dX3_doLast_18 : decode cX3_doLast 18 = .ok (.iload_n 1, 1) := by decide +kernel
theorem dX3_doLast_19 : decode cX3_doLast 19 = .ok (.iadd, 1) := by decide +kernel
theorem dX3_doLast_20 : decode cX3_doLast 20 = .ok (.invokevirtual 104, 3) := by decide +kernel
theorem dX3_doLast_23 : decode cX3_doLast 23 = .ok (.aload_n 0, 1) := by decide +kernel
theorem dX3_doLast_24 : decode cX3_doLast 24 = .ok (.getfield 11, 3) := by decide +kernel
theorem dX3_doLast_27 : decode cX3_doLast 27 = .ok (.iload_n 1, 1) := by decide +kernel
theorem dX3_doLast_28 : decode cX3_doLast 28 = .ok (.aaload, 1) := by decide +kernel
theorem dX3_doLast_29 : decode cX3_doLast 29 = .ok (.getfield 51, 3) := by decide +kernel
theorem dX3_doLast_32 : decode cX3_doLast 32 = .ok (.tableswitch 54 1 3 #[28, 39, 47], 28) := by decide +kernel
theorem dX3_doLast_60 : decode cX3_doLast 60 = .ok (.aload_n 0, 1) := by decide +kernel
theorem dX3_doLast_61 : decode cX3_doLast 61 = .ok (.getfield 25, 3) := by decide +kernel
theorem dX3_doLast_64 : decode cX3_doLast 64 = .ok (.invokevirtual 60, 3) := by decide +kernel
theorem dX3_doLast_67 : decode cX3_doLast 67 = .ok (.iload 4, 2) := by decide +kernel
theorem dX3_doLast_69 : decode cX3_doLast 69 = .ok (.i2l, 1) := by decide +kernel
theorem dX3_doLast_70 : decode cX3_doLast 70 = .ok (.lreturn, 1) := by decide +kernel
theorem dX3_doLast_71 : decode cX3_doLast 71 = .ok (.aload_n 0, 1) := by decide +kernel
theorem dX3_doLast_72 : decode cX3_doLast 72 = .ok (.iconst 1, 1) := by decide +kernel
theorem dX3_doLast_73 : decode cX3_doLast 73 = .ok (.iload 4, 2) := by decide +kernel
theorem dX3_doLast_75 : decode cX3_doLast 75 = .ok (.invokevirtual 129, 3) := by decide +kernel
theorem dX3_doLast_78 : decode cX3_doLast 78 = .ok (.lreturn, 1) := by decide +kernel
theorem dX3_doLast_79 : decode cX3_doLast 79 = .ok (.aload_n 0, 1) := by decide +kernel
theorem dX3_doLast_80 : decode cX3_doLast 80 = .ok (.iconst 3, 1) := by decide +kernel
theorem dX3_doLast_81 : decode cX3_doLast 81 = .ok (.iconst 0, 1) := by decide +kernel
theorem dX3_doLast_82 : decode cX3_doLast 82 = .ok (.invokevirtual 129, 3) := by decide +kernel
theorem dX3_doLast_85 : decode cX3_doLast 85 = .ok (.lreturn, 1) := by decide +kernel
theorem dX3_doLast_86 : decode cX3_doLast 86 = .ok (.lload_n 2, 1) := by decide +kernel
theorem dX3_doLast_87 : decode cX3_doLast 87 = .ok (.lreturn, 1) := by decide +kernel
set_option maxRecDepth 20000 in
theorem ggX3_reachBottom_X3_throwNew : GoodIn wsX3_reachBottom wsX3_throwNew := goodIn_ca (goodIn_ca (goodIn_r _ [6, 7, 8, 9, 10, 11, 12, 13, 14, 15, 16, 17, 18, 19, 32, 33, 34, 35, 36, 37, 38] (by decide +kernel) (by decide +kernel)) (goodIn_sub (fun _ h => List.mem_cons_of_mem _ (List.mem_append_left _ (List.mem_append_right _ h))) (by decide +kernel))) (goodIn_sub (fun _ h => List.mem_cons_of_mem _ (List.mem_append_right _ h)) (by decide +kernel))
set_option maxRecDepth 20000 in
theorem gX3_reachBottom_X3_throwNew : GoodIn wsX3_reachBottom (wsV RX3 129 RX3 yX3_throwNew wsX3_throwNew) := goodIn_app (goodIn_of _ (by decide +kernel)) ggX3_reachBottom_X3_throwNew
set_option maxRecDepth 20000 in
theorem ggX3_reachBottom_X3_throwFromWithin : GoodIn wsX3_reachBottom wsX3_throwFromWithin := goodIn_ca (goodIn_ca (goodIn_r _ [23, 24, 25, 26, 27, 28, 29, 30, 31, 2, 3, 4, 5, 6, 7, 8, 9, 10, 11, 12, 13, 14, 15, 16, 17, 18, 19, 32, 33, 34, 35, 39, 40, 36, 37, 38] (by decide +kernel) (by decide +kernel)) (goodIn_sub (fun _ h => List.mem_cons_of_mem _ (List.mem_append_left _ (List.mem_append_right _ h))) (by decide +kernel))) (goodIn_sub (fun _ h => List.mem_cons_of_mem _ (List.mem_append_right _ h)) (by decide +kernel))
set_option maxRecDepth 20000 in
theorem gX3_reachBottom_X3_throwFromWithin : GoodIn wsX3_reachBottom (wsV RX3 134 RX3 yX3_throwFromWithin wsX3_throwFromWithin) := goodIn_app (goodIn_of _ (by decide +kernel)) ggX3_reachBottom_X3_throwFromWithin
theorem dX3_reachBottom_0 : decode cX3_reachBottom 0 = .ok (.iload_n 1, 1) := by decide +kernel
theorem dX3_reachBottom_1 : decode cX3_reachBottom 1 = .ok (.tableswitch 99 1 7 #[43, 50, 57, 64, 64, 71, 93], 43) := by decide +kernel
theorem dX3_reachBottom_44 : decode cX3_reachBottom 44 = .ok (.aload_n 0, 1) := by decide +kernel
theorem dX3_reachBottom_45 : decode cX3_reachBottom 45 = .ok (.iconst 1, 1) := by decide +kernel
theorem dX3_reachBottom_46 : decode cX3_reachBottom 46 = .ok (.iload_n 2, 1) := by decide +kernel
theorem dX3_reachBottom_47 : decode cX3_reachBottom 47 = .ok (.invokevirtual 129, 3) := by decide +kernel
theorem dX3_reachBottom_50 : decode cX3_reachBottom 50 = .ok (.lreturn, 1) := by decide +kernel
theorem dX3_reachBottom_51 : decode cX3_reachBottom 51 = .ok (.aload_n 0, 1) := by decide +kernel
theorem dX3_reachBottom_52 : decode cX3_reachBottom 52 = .ok (.iconst 2, 1) := by decide +kernel
theorem dX3_reachBottom_53 : decode cX3_reachBottom 53 = .ok (.iload_n 2, 1) := by decide +kernel
theorem dX3_reachBottom_54 : decode cX3_reachBottom 54 = .ok (.invokevirtual 129, 3) := by decide +kernel
theorem dX3_reachBottom_57 : decode cX3_reachBottom 57 = .ok (.lreturn, 1) := by decide +kernel
theorem dX3_reachBottom_58 : decode cX3_reachBottom 58 = .ok (.aload_n 0, 1) := by decide +kernel
theorem dX3_reachBottom_59 : decode cX3_reachBottom 59 = .ok (.iconst 3, 1) := by decide +kernel
theorem dX3_reachBottom_60 : decode cX3_reachBottom 60 = .ok (.iconst 0, 1) := by decide +kernel
theorem dX3_reachBottom_61 : decode cX3_reachBottom 61 = .ok (.invokevirtual 129, 3) := by decide +kernel
theorem dX3_reachBottom_64 : decode cX3_reachBottom 64 = .ok (.lreturn, 1) := by decide +kernel
theorem dX3_reachBottom_65 : decode cX3_reachBottom 65 = .ok (.aload_n 0, 1) := by decide +kernel
theorem dX3_reachBottom_66 : decode cX3_reachBottom 66 = .ok (.iconst 4, 1) := by decide +kernel
theorem dX3_reachBottom_67 : decode cX3_reachBottom 67 = .ok (.iconst 0, 1) := by decide +kernel
theorem dX3_reachBottom_68 : decode cX3_reachBottom 68 = .ok (.invokevirtual 129, 3) := by decide +kernel
theorem dX3_reachBottom_71 : decode cX3_reachBottom 71 = .ok (.lreturn, 1) := by decide +kernel
theorem dX3_reachBottom_72 : decode cX3_reachBottom 72 = .ok (.iload_n 2, 1) := by decide +kernel
theorem dX3_reachBottom_73 : decode cX3_reachBottom 73 = .ok (.ifCond .lt 14, 3) := by decide +kernel
theorem dX3_reachBottom_76 : decode cX3_reachBottom 76 = .ok (.iload_n 2, 1) := by decide +kernel
theorem dX3_reachBottom_77 : decode cX3_reachBottom 77 = .ok (.iconst 3, 1) := by decide +kernel
theorem dX3_reachBottom_78 : decode cX3_reachBottom 78 = .ok (.if_icmp .ge 9, 3) := by decide +kernel
theorem dX3_reachBottom_81 : decode cX3_reachBottom 81 = .ok (.ldc2_w 132, 3) := by decide +kernel
theorem dX3_reachBottom_84 : decode cX3_reachBottom 84 = .ok (.goto 9, 3) := by decide +kernel
theorem dX3_reachBottom_87 : decode cX3_reachBottom 87 = .ok (.aload_n 0, 1) := by decide +kernel
theorem dX3_reachBottom_88 : decode cX3_reachBottom 88 = .ok (.iconst 5, 1) := by decide +kernel
theorem dX3_reachBottom_89 : decode cX3_reachBottom 89 = .ok (.iconst 0, 1) := by decide +kernel
theorem dX3_reachBottom_90 : decode cX3_reachBottom 90 = .ok (.invokevirtual 129, 3) := by decide +kernel
theorem dX3_reachBottom_93 : decode cX3_reachBottom 93 = .ok (.lreturn, 1) := by decide +kernel
theorem dX3_reachBottom_94 : decode cX3_reachBottom 94 = .ok (.aload_n 0, 1) := by decide +kernel
theorem dX3_reachBottom_95 : decode cX3_reachBottom 95 = .ok (.iload_n 2, 1) := by decide +kernel
theorem dX3_reachBottom_96 : decode cX3_reachBottom 96 = .ok (.invokevirtual 134, 3) := by decide +kernel
theorem dX3_reachBottom_99 : decode cX3_reachBottom 99 = .ok (.lreturn, 1) := by decide +kernel
theorem dX3_reachBottom_100 : decode cX3_reachBottom 100 = .ok (.iload_n 2, 1) := by decide +kernel
theorem dX3_reachBottom_101 : decode cX3_reachBottom 101 = .ok (.i2l, 1) := by decide +kernel
theorem dX3_reachBottom_102 : decode cX3_reachBottom 102 = .ok (.lreturn, 1) := by decide +kernel
set_option maxRecDepth 20000 in
theorem ggX3_throwFromWithin_X1_add : GoodIn wsX3_throwFromWithin wsX1_add := goodIn_ca (goodIn_ca (goodIn_r _ [6, 7, 8, 31, 32] (by decide +kernel) (by decide +kernel)) (goodIn_sub (fun _ h => List.mem_cons_of_mem _ (List.mem_append_left _ (List.mem_append_right _ h))) (by decide +kernel))) (goodIn_sub (fun _ h => List.mem_cons_of_mem _ (List.mem_append_right _ h)) (by decide +kernel))
set_option maxRecDepth 20000 in
theorem gX3_throwFromWithin_X1_add : GoodIn wsX3_throwFromWithin (wsV RX3 104 RX1 yX1_add wsX1_add) := goodIn_app (goodIn_of _ (by decide +kernel)) ggX3_throwFromWithin_X1_add
set_option maxRecDepth 20000 in
theorem ggX3_throwFromWithin_X3_throwNew : GoodIn wsX3_throwFromWithin wsX3_throwNew := goodIn_ca (goodIn_ca (goodIn_r _ [13, 14, 15, 16, 17, 18, 19, 20, 21, 22, 23, 24, 25, 26, 27, 28, 29, 30, 33, 34, 35] (by decide +kernel) (by decide +kernel)) (goodIn_sub (fun _ h => List.mem_cons_of_mem _ (List.mem_append_left _ (List.mem_append_right _ h))) (by decide +kernel))) (goodIn_sub (fun _ h => List.mem_cons_of_mem _ (List.mem_append_right _ h)) (by decide +kernel))
set_option maxRecDepth 20000 in
theorem gX3_throwFromWithin_X3_throwNew : GoodIn wsX3_throwFromWithin (wsV RX3 129 RX3 yX3_throwNew wsX3_throwNew) := goodIn_app (goodIn_of _ (by decide +kernel)) ggX3_throwFromWithin_X3_throwNew
theorem dX3_throwFromWithin_0 : decode cX3_throwFromWithin 0 = .ok (.iconst 0, 1) := by decide +kernel
theorem dX3_throwFromWithin_1 : decode cX3_throwFromWithin 1 = .ok (.istore_n 2, 1) := by decide +kernel
theorem dX3_throwFromWithin_2 : decode cX3_throwFromWithin 2 = .ok (.iload_n 2, 1) := by decide +kernel
theorem dX3_throwFromWithin_3 : decode cX3_throwFromWithin 3 = .ok (.iconst 3, 1) := by decide +kernel
theorem dX3_throwFromWithin_4 : decode cX3_throwFromWithin 4 = .ok (.if_icmp .ge 24, 3) := by decide +kernel
theorem dX3_throwFromWithin_7 : decode cX3_throwFromWithin 7 = .ok (.aload_n 0, 1) := by decide +kernel
theorem dX3_throwFromWithin_8 : decode cX3_throwFromWithin 8 = .ok (.getfield 18, 3) := by decide +kernel
theorem dX3_throwFromWithin_11 : decode cX3_throwFromWithin 11 = .ok (.sipush 700, 3) := by decide +kernel
theorem dX3_throwFromWithin_14 : decode cX3_throwFromWithin 14 = .ok (.iload_n 1, 1) := by decide +kernel
theorem dX3_throwFromWithin_15 : decode cX3_throwFromWithin 15 = .ok (.bipush 100, 2) := by decide +kernel
theorem dX3_throwFromWithin_17 : decode cX3_throwFromWithin 17 = .ok (.irem, 1) := by decide +kernel
theorem dX3_throwFromWithin_18 : decode cX3_throwFromWithin 18 = .ok (.iadd, 1) := by decide +kernel
theorem dX3_throwFromWithin_19 : decode cX3_throwFromWithin 19 = .ok (.invokevirtual 104, 3) := by decide +kernel
theorem dX3_throwFromWithin_22 : decode cX3_throwFromWithin 22 = .ok (.iinc 2 1, 3) := by decide +kernel
theorem dX3_throwFromWithin_25 : decode cX3_throwFromWithin 25 = .ok (.goto (-23), 3) := by decide +kernel
theorem dX3_throwFromWithin_28 : decode cX3_throwFromWithin 28 = .ok (.aload_n 0, 1) := by decide +kernel
theorem dX3_throwFromWithin_29 : decode cX3_throwFromWithin 29 = .ok (.iconst 1, 1) := by decide +kernel
theorem dX3_throwFromWithin_30 : decode cX3_throwFromWithin 30 = .ok (.iload_n 1, 1) := by decide +kernel
theorem dX3_throwFromWithin_31 : decode cX3_throwFromWithin 31 = .ok (.invokevirtual 129, 3) := by decide +kernel
theorem dX3_throwFromWithin_34 : decode cX3_throwFromWithin 34 = .ok (.lreturn, 1) := by decide +kernel
set_option maxRecDepth 20000 in
theorem ggX3_throwNew_X2_drop : GoodIn wsX3_throwNew wsX2_drop := goodIn_r _ [6, 7, 18, 19, 20] (by decide +kernel) (by decide +kernel)
set_option maxRecDepth 20000 in
theorem gX3_throwNew_X2_drop : GoodIn wsX3_throwNew (wsV RX3 60 RX2 yX2_drop wsX2_drop) := goodIn_app (goodIn_of _ (by decide +kernel)) ggX3_throwNew_X2_drop
set_option maxRecDepth 20000 in
theorem ggX3_throwNew_X2_wrap : GoodIn wsX3_throwNew wsX2_wrap := goodIn_ca (goodIn_ca (goodIn_r _ [11, 7, 12, 13, 18, 19, 20] (by decide +kernel) (by decide +kernel)) (goodIn_sub (fun _ h => List.mem_cons_of_mem _ (List.mem_append_right _ h)) (by decide +kernel))) (goodIn_sub (fun _ h => List.mem_cons_of_mem _ (List.mem_append_left _ (List.mem_append_right _ h))) (by decide +kernel))
set_option maxRecDepth 20000 in
theorem gX3_throwNew_X2_wrap : GoodIn wsX3_throwNew (wsV RX3 125 RX2 yX2_wrap wsX2_wrap) := goodIn_app (goodIn_of _ (by decide +kernel)) ggX3_throwNew_X2_wrap
theorem dX3_throwNew_0 : decode cX3_throwNew 0 = .ok (.aload_n 0, 1) := by decide +kernel
theorem dX3_throwNew_1 : decode cX3_throwNew 1 = .ok (.getfield 25, 3) := by decide +kernel
theorem dX3_throwNew_4 : decode cX3_throwNew 4 = .ok (.invokevirtual 60, 3) := by decide +kernel
theorem dX3_throwNew_7 : decode cX3_throwNew 7 = .ok (.aload_n 0, 1) := by decide +kernel
theorem dX3_throwNew_8 : decode cX3_throwNew 8 = .ok (.getfield 25, 3) := by decide +kernel
theorem dX3_throwNew_11 : decode cX3_throwNew 11 = .ok (.iload_n 1, 1) := by decide +kernel
theorem dX3_throwNew_12 : decode cX3_throwNew 12 = .ok (.iload_n 2, 1) := by decide +kernel
theorem dX3_throwNew_13 : decode cX3_throwNew 13 = .ok (.invokevirtual 125, 3) := by decide +kernel
theorem dX3_throwNew_16 : decode cX3_throwNew 16 = .ok (.lconst 0, 1) := by decide +kernel
theorem dX3_throwNew_17 : decode cX3_throwNew 17 = .ok (.lreturn, 1) := by decide +kernel
theorem dX3_throwOut_0 : decode cX3_throwOut 0 = .ok (.iload_n 0, 1) := by decide +kernel
theorem dX3_throwOut_1 : decode cX3_throwOut 1 = .ok (.tableswitch 85 1 5 #[35, 45, 55, 65, 75], 35) := by decide +kernel
theorem dX3_throwOut_36 : decode cX3_throwOut 36 = .ok (.new 137, 3) := by decide +kernel
theorem dX3_throwOut_39 : decode cX3_throwOut 39 = .ok (.dup, 1) := by decide +kernel
theorem dX3_throwOut_40 : decode cX3_throwOut 40 = .ok (.ldc 139, 2) := by decide +kernel
theorem dX3_throwOut_42 : decode cX3_throwOut 42 = .ok (.invokespecial 141, 3) := by decide +kernel
theorem dX3_throwOut_45 : decode cX3_throwOut 45 = .ok (.athrow, 1) := by decide +kernel
theorem dX3_throwOut_46 : decode cX3_throwOut 46 = .ok (.new 142, 3) := by decide +kernel
theorem dX3_throwOut_49 : decode cX3_throwOut 49 = .ok (.dup, 1) := by decide +kernel
theorem dX3_throwOut_50 : decode cX3_throwOut 50 = .ok (.ldc 144, 2) := by decide +kernel
theorem dX3_throwOut_52 : decode cX3_throwOut 52 = .ok (.invokespecial 146, 3) := by decide +kernel
theorem dX3_throwOut_55 : decode cX3_throwOut 55 = .ok (.athrow, 1) := by decide +kernel
theorem dX3_throwOut_56 : decode cX3_throwOut 56 = .ok (.new 147, 3) := by decide +kernel
theorem dX3_throwOut_59 : decode cX3_throwOut 59 = .ok (.dup, 1) := by decide +kernel
theorem dX3_throwOut_60 : decode cX3_throwOut 60 = .ok (.ldc 149, 2) := by decide +kernel
theorem dX3_throwOut_62 : decode cX3_throwOut 62 = .ok (.invokespecial 151, 3) := by decide +kernel
theorem dX3_throwOut_65 : decode cX3_throwOut 65 = .ok (.athrow, 1) := by decide +kernel
theorem dX3_throwOut_66 : decode cX3_throwOut 66 = .ok (.new 99, 3) := by decide +kernel
theorem dX3_throwOut_69 : decode cX3_throwOut 69 = .ok (.dup, 1) := by decide +kernel
theorem dX3_throwOut_70 : decode cX3_throwOut 70 = .ok (.ldc 152, 2) := by decide +kernel
theorem dX3_throwOut_72 : decode cX3_throwOut 72 = .ok (.invokespecial 103, 3) := by decide +kernel
theorem dX3_throwOut_75 : decode cX3_throwOut 75 = .ok (.athrow, 1) := by decide +kernel
theorem dX3_throwOut_76 : decode cX3_throwOut 76 = .ok (.new 34, 3) := by decide +kernel
theorem dX3_throwOut_79 : decode cX3_throwOut 79 = .ok (.dup, 1) := by decide +kernel
theorem dX3_throwOut_80 : decode cX3_throwOut 80 = .ok (.ldc 154, 2) := by decide +kernel
theorem dX3_throwOut_82 : decode cX3_throwOut 82 = .ok (.invokespecial 38, 3) := by decide +kernel
theorem dX3_throwOut_85 : decode cX3_throwOut 85 = .ok (.athrow, 1) := by decide +kernel
theorem dX3_throwOut_86 : decode cX3_throwOut 86 = .ok (.return_, 1) := by decide +kernel
theorem dJx00060_init_a7421_0 : decode cJx00060_init_a7421 0 = .ok (.aload_n 0, 1) := by decide +kernel
theorem dJx00060_init_a7421_1 : decode cJx00060_init_a7421 1 = .ok (.aload_n 1, 1) := by decide +kernel
theorem dJx00060_init_a7421_2 : decode cJx00060_init_a7421 2 = .ok (.invokespecial 7, 3) := by decide +kernel
theorem dJx00060_init_a7421_5 : decode cJx00060_init_a7421 5 = .ok (.return_, 1) := by decide +kernel
theorem dJ9_min_7cf53_0 : decode cJ9_min_7cf53 0 = .ok (.iload_n 0, 1) := by decide +kernel
theorem dJ9_min_7cf53_1 : decode cJ9_min_7cf53 1 = .ok (.iload_n 1, 1) := by decide +kernel
theorem dJ9_min_7cf53_2 : decode cJ9_min_7cf53 2 = .ok (.if_icmp .gt 7, 3) := by decide +kernel
theorem dJ9_min_7cf53_5 : decode cJ9_min_7cf53 5 = .ok (.iload_n 0, 1) := by decide +kernel
theorem dJ9_min_7cf53_6 : decode cJ9_min_7cf53 6 = .ok (.goto 4, 3) := by decide +kernel
theorem dJ9_min_7cf53_9 : decode cJ9_min_7cf53 9 = .ok (.iload_n 1, 1) := by decide +kernel
theorem dJ9_min_7cf53_10 : decode cJ9_min_7cf53 10 = .ok (.ireturn, 1) := by decide +kernel
theorem dJx5d777_init_da8c8_0 : decode cJx5d777_init_da8c8 0 = .ok (.aload_n 0, 1) := by decide +kernel
theorem dJx5d777_init_da8c8_1 : decode cJx5d777_init_da8c8 1 = .ok (.invokespecial 1, 3) := by decide +kernel
theorem dJx5d777_init_da8c8_4 : decode cJx5d777_init_da8c8 4 = .ok (.return_, 1) := by decide +kernel
theorem dJx5d777_init_a7421_0 : decode cJx5d777_init_a7421 0 = .ok (.aload_n 0, 1) := by decide +kernel
theorem dJx5d777_init_a7421_1 : decode cJx5d777_init_a7421 1 = .ok (.aload_n 1, 1) := by decide +kernel
theorem dJx5d777_init_a7421_2 : decode cJx5d777_init_a7421 2 = .ok (.invokespecial 7, 3) := by decide +kernel
theorem dJx5d777_init_a7421_5 : decode cJx5d777_init_a7421 5 = .ok (.return_, 1) := by decide +kernel
theorem dJx5d777_fillInStackTrace_cddbd_0 : decode cJx5d777_fillInStackTrace_cddbd 0 = .ok (.aload_n 0, 1) := by decide +kernel
theorem dJx5d777_fillInStackTrace_cddbd_1 : decode cJx5d777_fillInStackTrace_cddbd 1 = .ok (.getfield 10, 3) := by decide +kernel
theorem dJx5d777_fillInStackTrace_cddbd_4 : decode cJx5d777_fillInStackTrace_cddbd 4 = .ok (.ifCond .ne 11, 3) := by decide +kernel
theorem dJx5d777_fillInStackTrace_cddbd_7 : decode cJx5d777_fillInStackTrace_cddbd 7 = .ok (.aload_n 0, 1) := by decide +kernel
theorem dJx5d777_fillInStackTrace_cddbd_8 : decode cJx5d777_fillInStackTrace_cddbd 8 = .ok (.iconst 1, 1) := by decide +kernel
theorem dJx5d777_fillInStackTrace_cddbd_9 : decode cJx5d777_fillInStackTrace_cddbd 9 = .ok (.putfield 10, 3) := by decide +kernel
theorem dJx5d777_fillInStackTrace_cddbd_12 : decode cJx5d777_fillInStackTrace_cddbd 12 = .ok (.goto 24, 3) := by decide +kernel
theorem dJx5d777_fillInStackTrace_cddbd_15 : decode cJx5d777_fillInStackTrace_cddbd 15 = .ok (.aload_n 0, 1) := by decide +kernel
theorem dJx5d777_fillInStackTrace_cddbd_16 : decode cJx5d777_fillInStackTrace_cddbd 16 = .ok (.getfield 10, 3) := by decide +kernel
theorem dJx5d777_fillInStackTrace_cddbd_19 : decode cJx5d777_fillInStackTrace_cddbd 19 = .ok (.iconst 1, 1) := by decide +kernel
theorem dJx5d777_fillInStackTrace_cddbd_20 : decode cJx5d777_fillInStackTrace_cddbd 20 = .ok (.if_icmp .ne 16, 3) := by decide +kernel
theorem dJx5d777_fillInStackTrace_cddbd_23 : decode cJx5d777_fillInStackTrace_cddbd 23 = .ok (.aload_n 0, 1) := by decide +kernel
theorem dJx5d777_fillInStackTrace_cddbd_24 : decode cJx5d777_fillInStackTrace_cddbd 24 = .ok (.aload_n 0, 1) := by decide +kernel
theorem dJx5d777_fillInStackTrace_cddbd_25 : decode cJx5d777_fillInStackTrace_cddbd 25 = .ok (.invokevirtual 16, 3) := by decide +kernel
theorem dJx5d777_fillInStackTrace_cddbd_28 : decode cJx5d777_fillInStackTrace_cddbd 28 = .ok (.putfield 20, 3) := by decide +kernel
theorem dJx5d777_fillInStackTrace_cddbd_31 : decode cJx5d777_fillInStackTrace_cddbd 31 = .ok (.aload_n 0, 1) := by decide +kernel
theorem dJx5d777_fillInStackTrace_cddbd_32 : decode cJx5d777_fillInStackTrace_cddbd 32 = .ok (.iconst 2, 1) := by decide +kernel
theorem dJx5d777_fillInStackTrace_cddbd_33 : decode cJx5d777_fillInStackTrace_cddbd 33 = .ok (.putfield 10, 3) := by decide +kernel
theorem dJx5d777_fillInStackTrace_cddbd_36 : decode cJx5d777_fillInStackTrace_cddbd 36 = .ok (.aload_n 0, 1) := by decide +kernel
theorem dJx5d777_fillInStackTrace_cddbd_37 : decode cJx5d777_fillInStackTrace_cddbd 37 = .ok (.invokespecial 24, 3) := by decide +kernel
theorem dJx5d777_fillInStackTrace_cddbd_40 : decode cJx5d777_fillInStackTrace_cddbd 40 = .ok (.areturn, 1) := by decide +kernel
set_option maxRecDepth 20000 in
theorem ggL_set_X3_set : GoodIn wsL_set wsX3_set := goodIn_ca (goodIn_r _ [7, 8, 9, 10, 11, 12, 13, 6, 14, 15, 16, 17, 18, 19, 20, 21, 22, 23, 24, 25, 26, 27, 28] (by decide +kernel) (by decide +kernel)) (goodIn_sub (fun _ h => List.mem_cons_of_mem _ (List.mem_append_right _ h)) (by decide +kernel))
set_option maxRecDepth 20000 in
theorem gL_set_X3_set : GoodIn wsL_set (wsV RL 7 RX3 yX3_set wsX3_set) := goodIn_app (goodIn_of _ (by decide +kernel)) ggL_set_X3_set
theorem dL_set_0 : decode cL_set 0 = .ok (.aload_n 0, 1) := by decide +kernel
theorem dL_set_1 : decode cL_set 1 = .ok (.iload_n 1, 1) := by decide +kernel
theorem dL_set_2 : decode cL_set 2 = .ok (.iload_n 2, 1) := by decide +kernel
theorem dL_set_3 : decode cL_set 3 = .ok (.iload_n 3, 1) := by decide +kernel
theorem dL_set_4 : decode cL_set 4 = .ok (.iload 4, 2) := by decide +kernel
theorem dL_set_6 : decode cL_set 6 = .ok (.iload 5, 2) := by decide +kernel
theorem dL_set_8 : decode cL_set 8 = .ok (.invokevirtual 7, 3) := by decide +kernel
theorem dL_set_11 : decode cL_set 11 = .ok (.ireturn, 1) := by decide +kernel
theorem dL_set_12 : decode cL_set 12 = .ok (.astore 6, 2) := by decide +kernel
theorem dL_set_14 : decode cL_set 14 = .ok (.ldc 15, 2) := by decide +kernel
theorem dL_set_16 : decode cL_set 16 = .ok (.ireturn, 1) := by decide +kernel
set_option maxRecDepth 20000 in
theorem ggL_run_X3_run : GoodIn wsL_run wsX3_run := goodIn_ca (goodIn_ca (goodIn_ca (goodIn_ca (goodIn_ca (goodIn_r _ [15, 16, 17, 18, 19, 20, 21, 22, 23, 14, 24, 25, 26, 27, 28, 29, 30, 31, 32, 33, 34, 35, 36, 37, 38, 39, 40, 41, 42, 43, 44, 45, 46, 47, 48, 49, 50, 51, 52, 53, 54, 55, 56, 57, 58, 59, 60, 61, 62, 63, 64, 65, 66, 67, 68, 69, 70, 71, 72, 73, 74, 75, 76, 77, 78, 79, 80, 81, 82, 83, 84, 85, 86, 87, 88, 89, 90, 91, 92, 93, 94, 95, 96, 97, 98, 99, 100, 101, 102, 103, 104, 105, 106, 107, 108, 109, 110, 111, 112, 113, 114, 115, 116, 117, 118, 119, 120, 121, 122, 123, 124, 125, 126] (by decide +kernel) (by decide +kernel)) (goodIn_sub (fun _ h => List.mem_cons_of_mem _ (List.mem_append_left _ (List.mem_append_left _ (List.mem_append_left _ (List.mem_append_left _ (List.mem_append_right _ h)))))) (by decide +kernel))) (goodIn_sub (fun _ h => List.mem_cons_of_mem _ (List.mem_append_left _ (List.mem_append_left _ (List.mem_append_left _ (List.mem_append_right _ h))))) (by decide +kernel))) (goodIn_sub (fun _ h => List.mem_cons_of_mem _ (List.mem_append_left _ (List.mem_append_left _ (List.mem_append_right _ h)))) (by decide +kernel))) (goodIn_sub (fun _ h => List.mem_cons_of_mem _ (List.mem_append_left _ (List.mem_append_right _ h))) (by decide +kernel))) (goodIn_sub (fun _ h => List.mem_cons_of_mem _ (List.mem_append_right _ h)) (by decide +kernel))
set_option maxRecDepth 20000 in
theorem gL_run_X3_run : GoodIn wsL_run (wsV RL 16 RX3 yX3_run wsX3_run) := goodIn_app (goodIn_of _ (by decide +kernel)) ggL_run_X3_run
theorem dL_run_0 : decode cL_run 0 = .ok (.aload_n 0, 1) := by decide +kernel
theorem dL_run_1 : decode cL_run 1 = .ok (.iload_n 1, 1) := by decide +kernel
theorem dL_run_2 : decode cL_run 2 = .ok (.iload_n 2, 1) := by decide +kernel
theorem dL_run_3 : decode cL_run 3 = .ok (.iload_n 3, 1) := by decide +kernel
theorem dL_run_4 : decode cL_run 4 = .ok (.invokevirtual 16, 3) := by decide +kernel
theorem dL_run_7 : decode cL_run 7 = .ok (.lreturn, 1) := by decide +kernel
theorem dL_run_8 : decode cL_run 8 = .ok (.astore 4, 2) := by decide +kernel
theorem dL_run_10 : decode cL_run 10 = .ok (.ldc2_w 22, 3) := by decide +kernel
theorem dL_run_13 : decode cL_run 13 = .ok (.lreturn, 1) := by decide +kernel
theorem dL_run_14 : decode cL_run 14 = .ok (.astore 4, 2) := by decide +kernel
theorem dL_run_16 : decode cL_run 16 = .ok (.ldc2_w 26, 3) := by decide +kernel
theorem dL_run_19 : decode cL_run 19 = .ok (.lreturn, 1) := by decide +kernel
theorem dL_run_20 : decode cL_run 20 = .ok (.astore 4, 2) := by decide +kernel
theorem dL_run_22 : decode cL_run 22 = .ok (.ldc2_w 30, 3) := by decide +kernel
theorem dL_run_25 : decode cL_run 25 = .ok (.lreturn, 1) := by decide +kernel
theorem dL_run_26 : decode cL_run 26 = .ok (.astore 4, 2) := by decide +kernel
theorem dL_run_28 : decode cL_run 28 = .ok (.ldc2_w 34, 3) := by decide +kernel
theorem dL_run_31 : decode cL_run 31 = .ok (.lreturn, 1) := by decide +kernel
theorem dL_run_32 : decode cL_run 32 = .ok (.astore 4, 2) := by decide +kernel
theorem dL_run_34 : decode cL_run 34 = .ok (.ldc2_w 36, 3) := by decide +kernel
theorem dL_run_37 : decode cL_run 37 = .ok (.lreturn, 1) := by decide +kernel
set_option maxRecDepth 20000 in
theorem ggL_note_X3_note : GoodIn wsL_note wsX3_note := goodIn_ca (goodIn_ca (goodIn_r _ [7, 8, 9, 10, 11, 12, 13, 14, 15, 16, 17, 18, 19, 20, 21, 22, 23, 24, 25, 26, 27, 28, 29, 30, 31, 32, 33, 34] (by decide +kernel) (by decide +kernel)) (goodIn_sub (fun _ h => List.mem_cons_of_mem _ (List.mem_append_left _ (List.mem_append_right _ h))) (by decide +kernel))) (goodIn_sub (fun _ h => List.mem_cons_of_mem _ (List.mem_append_right _ h)) (by decide +kernel))
set_option maxRecDepth 20000 in
theorem gL_note_X3_note : GoodIn wsL_note (wsV RL 38 RX3 yX3_note wsX3_note) := goodIn_app (goodIn_of _ (by decide +kernel)) ggL_note_X3_note
theorem dL_note_0 : decode cL_note 0 = .ok (.aload_n 0, 1) := by decide +kernel
theorem dL_note_1 : decode cL_note 1 = .ok (.iload_n 1, 1) := by decide +kernel
theorem dL_note_2 : decode cL_note 2 = .ok (.invokevirtual 38, 3) := by decide +kernel
theorem dL_note_5 : decode cL_note 5 = .ok (.ireturn, 1) := by decide +kernel
theorem dL_note_6 : decode cL_note 6 = .ok (.astore_n 2, 1) := by decide +kernel
theorem dL_note_7 : decode cL_note 7 = .ok (.ldc 15, 2) := by decide +kernel
theorem dL_note_9 : decode cL_note 9 = .ok (.ireturn, 1) := by decide +kernel
set_option maxRecDepth 20000 in
theorem ggL_count_X3_count : GoodIn wsL_count wsX3_count := goodIn_ca (goodIn_ca (goodIn_r _ [7, 8, 9, 10, 11, 12, 13, 14, 15, 16, 17, 18, 19, 20, 21, 22, 23, 24, 25, 26, 27, 28, 29, 30, 31, 32, 33, 34, 35, 36, 37, 38, 39, 40, 41, 42, 43, 44, 45, 46, 47, 48, 49, 50, 51, 52, 53, 54, 55] (by decide +kernel) (by decide +kernel)) (goodIn_sub (fun _ h => List.mem_cons_of_mem _ (List.mem_append_left _ (List.mem_append_right _ h))) (by decide +kernel))) (goodIn_sub (fun _ h => List.mem_cons_of_mem _ (List.mem_append_right _ h)) (by decide +kernel))
set_option maxRecDepth 20000 in
theorem gL_count_X3_count : GoodIn wsL_count (wsV RL 42 RX3 yX3_count wsX3_count) := goodIn_app (goodIn_of _ (by decide +kernel)) ggL_count_X3_count
theorem dL_count_0 : decode cL_count 0 = .ok (.aload_n 0, 1) := by decide +kernel
theorem dL_count_1 : decode cL_count 1 = .ok (.iload_n 1, 1) := by decide +kernel
theorem dL_count_2 : decode cL_count 2 = .ok (.invokevirtual 42, 3) := by decide +kernel
theorem dL_count_5 : decode cL_count 5 = .ok (.ireturn, 1) := by decide +kernel
theorem dL_count_6 : decode cL_count 6 = .ok (.astore_n 2, 1) := by decide +kernel
theorem dL_count_7 : decode cL_count 7 = .ok (.ldc 15, 2) := by decide +kernel
theorem dL_count_9 : decode cL_count 9 = .ok (.ireturn, 1) := by decide +kernel
set_option maxRecDepth 20000 in
theorem ggL_law_X3_init : GoodIn wsL_law wsX3_init := goodIn_r _ [7, 8, 9, 10, 11, 12, 13, 14, 15, 16, 17, 18, 19, 20, 21, 22, 23, 24, 25, 3, 26, 27, 28, 29, 30, 31, 32, 33, 34, 174, 175, 176, 177, 178, 179, 180, 181, 182, 183, 184, 185, 186] (by decide +kernel) (by decide +kernel)
set_option maxRecDepth 20000 in
theorem gL_law_X3_init : GoodIn wsL_law (wsX3_init) := ggL_law_X3_init
set_option maxRecDepth 20000 in
theorem ggL_law_L_set : GoodIn wsL_law wsL_set := goodIn_ca (goodIn_r _ [38, 39, 4, 40, 41, 42, 2, 43, 44, 45, 46, 12, 47, 48, 49, 187, 188, 189, 190, 191, 192, 174, 175, 176, 177, 183, 184, 185, 186] (by decide +kernel) (by decide +kernel)) (goodIn_sub (fun _ h => List.mem_append_left _ (List.mem_append_left _ (List.mem_append_left _ (List.mem_append_left _ (List.mem_append_right _ h))))) (by decide +kernel))
set_option maxRecDepth 20000 in
theorem gL_law_L_set : GoodIn wsL_law (va_wsS RL 46 yL_set wsL_set) := goodIn_app (goodIn_of _ (by decide +kernel)) ggL_law_L_set
set_option maxRecDepth 20000 in
theorem ggL_law_L_run : GoodIn wsL_law wsL_run := goodIn_ca (goodIn_ca (goodIn_ca (goodIn_ca (goodIn_ca (goodIn_r _ [52, 53, 54, 55, 56, 39, 57, 58, 59, 60, 61, 62, 63, 64, 2, 65, 44, 45, 46, 66, 16, 20, 47, 48, 49, 67, 68, 69, 15, 70, 71, 72, 73, 74, 19, 75, 76, 77, 78, 79, 80, 12, 81, 82, 83, 84, 26, 85, 86, 87, 88, 89, 90, 91, 30, 92, 93, 94, 22, 95, 96, 97, 98, 99, 100, 101, 102, 103, 104, 105, 106, 107, 108, 109, 110, 111, 31, 112, 113, 114, 115, 116, 117, 118, 119, 120, 121, 122, 123, 124, 125, 126, 127, 128, 129, 130, 131, 132, 133, 134, 187, 188, 189, 190, 191, 192, 174, 175, 176, 177, 178, 179, 180, 181, 182, 183, 184, 185, 186, 193, 194, 195, 196, 197, 198, 199, 200] (by decide +kernel) (by decide +kernel)) (goodIn_sub (fun _ h => List.mem_append_left _ (List.mem_append_left _ (List.mem_append_left _ (List.mem_append_left _ (List.mem_append_right _ h))))) (by decide +kernel))) (goodIn_sub (fun _ h => List.mem_append_left _ (List.mem_append_left _ (List.mem_append_left _ (List.mem_append_right _ h)))) (by decide +kernel))) (goodIn_sub (fun _ h => List.mem_append_left _ (List.mem_append_left _ (List.mem_append_right _ h))) (by decide +kernel))) (goodIn_sub (fun _ h => List.mem_append_left _ (List.mem_append_right _ h)) (by decide +kernel))) (goodIn_sub (fun _ h => List.mem_append_right _ h) (by decide +kernel))
set_option maxRecDepth 20000 in
theorem gL_law_L_run : GoodIn wsL_law (va_wsS RL 51 yL_run wsL_run) := goodIn_app (goodIn_of _ (by decide +kernel)) ggL_law_L_run
set_option maxRecDepth 20000 in
theorem ggL_law_L_count : GoodIn wsL_law wsL_count := goodIn_ca (goodIn_ca (goodIn_r _ [137, 56, 4, 138, 139, 140, 2, 141, 16, 66, 20, 132, 133, 134, 88, 89, 90, 19, 91, 76, 30, 142, 143, 144, 145, 31, 146, 147, 148, 149, 150, 151, 152, 153, 154, 155, 156, 157, 158, 174, 175, 176, 177, 178, 179, 193, 194, 195, 196, 197, 198, 199, 200, 180, 181, 182] (by decide +kernel) (by decide +kernel)) (goodIn_sub (fun _ h => List.mem_append_left _ (List.mem_append_left _ (List.mem_append_left _ (List.mem_append_left _ (List.mem_append_right _ h))))) (by decide +kernel))) (goodIn_sub (fun _ h => List.mem_append_left _ (List.mem_append_left _ (List.mem_append_left _ (List.mem_append_right _ h)))) (by decide +kernel))
set_option maxRecDepth 20000 in
theorem gL_law_L_count : GoodIn wsL_law (va_wsS RL 54 yL_count wsL_count) := goodIn_app (goodIn_of _ (by decide +kernel)) ggL_law_L_count
set_option maxRecDepth 20000 in
theorem ggL_law_L_note : GoodIn wsL_law wsL_note := goodIn_ca (goodIn_ca (goodIn_r _ [161, 39, 4, 162, 163, 164, 2, 165, 16, 44, 45, 46, 166, 167, 168, 15, 169, 71, 26, 170, 171, 172, 173, 174, 175, 176, 177, 187, 188, 189, 190, 191, 192, 178, 179] (by decide +kernel) (by decide +kernel)) (goodIn_sub (fun _ h => List.mem_append_left _ (List.mem_append_left _ (List.mem_append_left _ (List.mem_append_left _ (List.mem_append_right _ h))))) (by decide +kernel))) (goodIn_sub (fun _ h => List.mem_append_left _ (List.mem_append_left _ (List.mem_append_left _ (List.mem_append_right _ h)))) (by decide +kernel))
set_option maxRecDepth 20000 in
theorem gL_law_L_note : GoodIn wsL_law (va_wsS RL 57 yL_note wsL_note) := goodIn_app (goodIn_of _ (by decide +kernel)) ggL_law_L_note
theorem dL_law_0 : decode cL_law 0 = .ok (.new 8, 3) := by decide +kernel
theorem dL_law_3 : decode cL_law 3 = .ok (.dup, 1) := by decide +kernel
theorem dL_law_4 : decode cL_law 4 = .ok (.invokespecial 45, 3) := by decide +kernel
theorem dL_law_7 : decode cL_law 7 = .ok (.astore_n 1, 1) := by decide +kernel
theorem dL_law_8 : decode cL_law 8 = .ok (.iconst 0, 1) := by decide +kernel
theorem dL_law_9 : decode cL_law 9 = .ok (.istore_n 2, 1) := by decide +kernel
theorem dL_law_10 : decode cL_law 10 = .ok (.iload_n 2, 1) := by decide +kernel
theorem dL_law_11 : decode cL_law 11 = .ok (.iconst 4, 1) := by decide +kernel
theorem dL_law_12 : decode cL_law 12 = .ok (.iadd, 1) := by decide +kernel
theorem dL_law_13 : decode cL_law 13 = .ok (.aload_n 0, 1) := by decide +kernel
theorem dL_law_14 : decode cL_law 14 = .ok (.arraylength, 1) := by decide +kernel
theorem dL_law_15 : decode cL_law 15 = .ok (.if_icmp .gt 51, 3) := by decide +kernel
theorem dL_law_18 : decode cL_law 18 = .ok (.iload_n 2, 1) := by decide +kernel
theorem dL_law_19 : decode cL_law 19 = .ok (.bipush 24, 2) := by decide +kernel
theorem dL_law_21 : decode cL_law 21 = .ok (.if_icmp .ge 45, 3) := by decide +kernel
theorem dL_law_24 : decode cL_law 24 = .ok (.aload_n 1, 1) := by decide +kernel
theorem dL_law_25 : decode cL_law 25 = .ok (.iload_n 2, 1) := by decide +kernel
theorem dL_law_26 : decode cL_law 26 = .ok (.iconst 4, 1) := by decide +kernel
theorem dL_law_27 : decode cL_law 27 = .ok (.idiv, 1) := by decide +kernel
theorem dL_law_28 : decode cL_law 28 = .ok (.aload_n 0, 1) := by decide +kernel
theorem dL_law_29 : decode cL_law 29 = .ok (.iload_n 2, 1) := by decide +kernel
theorem dL_law_30 : decode cL_law 30 = .ok (.iaload, 1) := by decide +kernel
theorem dL_law_31 : decode cL_law 31 = .ok (.aload_n 0, 1) := by decide +kernel
theorem dL_law_32 : decode cL_law 32 = .ok (.iload_n 2, 1) := by decide +kernel
theorem dL_law_33 : decode cL_law 33 = .ok (.iconst 1, 1) := by decide +kernel
theorem dL_law_34 : decode cL_law 34 = .ok (.iadd, 1) := by decide +kernel
theorem dL_law_35 : decode cL_law 35 = .ok (.iaload, 1) := by decide +kernel
theorem dL_law_36 : decode cL_law 36 = .ok (.bipush 7, 2) := by decide +kernel
theorem dL_law_38 : decode cL_law 38 = .ok (.iand, 1) := by decide +kernel
theorem dL_law_39 : decode cL_law 39 = .ok (.iconst 1, 1) := by decide +kernel
theorem dL_law_40 : decode cL_law 40 = .ok (.isub, 1) := by decide +kernel
theorem dL_law_41 : decode cL_law 41 = .ok (.aload_n 0, 1) := by decide +kernel
theorem dL_law_42 : decode cL_law 42 = .ok (.iload_n 2, 1) := by decide +kernel
theorem dL_law_43 : decode cL_law 43 = .ok (.iconst 2, 1) := by decide +kernel
theorem dL_law_44 : decode cL_law 44 = .ok (.iadd, 1) := by decide +kernel
theorem dL_law_45 : decode cL_law 45 = .ok (.iaload, 1) := by decide +kernel
theorem dL_law_46 : decode cL_law 46 = .ok (.bipush 7, 2) := by decide +kernel
theorem dL_law_48 : decode cL_law 48 = .ok (.iand, 1) := by decide +kernel
theorem dL_law_49 : decode cL_law 49 = .ok (.iconst 1, 1) := by decide +kernel
theorem dL_law_50 : decode cL_law 50 = .ok (.isub, 1) := by decide +kernel
theorem dL_law_51 : decode cL_law 51 = .ok (.aload_n 0, 1) := by decide +kernel
theorem dL_law_52 : decode cL_law 52 = .ok (.iload_n 2, 1) := by decide +kernel
theorem dL_law_53 : decode cL_law 53 = .ok (.iconst 3, 1) := by decide +kernel
theorem dL_law_54 : decode cL_law 54 = .ok (.iadd, 1) := by decide +kernel
theorem dL_law_55 : decode cL_law 55 = .ok (.iaload, 1) := by decide +kernel
theorem dL_law_56 : decode cL_law 56 = .ok (.invokestatic 46, 3) := by decide +kernel
theorem dL_law_59 : decode cL_law 59 = .ok (.pop, 1) := by decide +kernel
theorem dL_law_60 : decode cL_law 60 = .ok (.iinc 2 4, 3) := by decide +kernel
theorem dL_law_63 : decode cL_law 63 = .ok (.goto (-53), 3) := by decide +kernel
theorem dL_law_66 : decode cL_law 66 = .ok (.bipush 64, 2) := by decide +kernel
theorem dL_law_68 : decode cL_law 68 = .ok (.newarray .int, 2) := by decide +kernel
theorem dL_law_70 : decode cL_law 70 = .ok (.astore_n 2, 1) := by decide +kernel
theorem dL_law_71 : decode cL_law 71 = .ok (.iconst 0, 1) := by decide +kernel
theorem dL_law_72 : decode cL_law 72 = .ok (.istore_n 3, 1) := by decide +kernel
theorem dL_law_73 : decode cL_law 73 = .ok (.iload_n 3, 1) := by decide +kernel
theorem dL_law_74 : decode cL_law 74 = .ok (.aload_n 0, 1) := by decide +kernel
theorem dL_law_75 : decode cL_law 75 = .ok (.arraylength, 1) := by decide +kernel
theorem dL_law_76 : decode cL_law 76 = .ok (.if_icmp .ge 272, 3) := by decide +kernel
theorem dL_law_79 : decode cL_law 79 = .ok (.iload_n 3, 1) := by decide +kernel
theorem dL_law_80 : decode cL_law 80 = .ok (.bipush 40, 2) := by decide +kernel
theorem dL_law_82 : decode cL_law 82 = .ok (.if_icmp .ge 266, 3) := by decide +kernel
theorem dL_law_85 : decode cL_law 85 = .ok (.aload_n 0, 1) := by decide +kernel
theorem dL_law_86 : decode cL_law 86 = .ok (.iload_n 3, 1) := by decide +kernel
theorem dL_law_87 : decode cL_law 87 = .ok (.iaload, 1) := by decide +kernel
theorem dL_law_88 : decode cL_law 88 = .ok (.bipush 15, 2) := by decide +kernel
theorem dL_law_90 : decode cL_law 90 = .ok (.iand, 1) := by decide +kernel
theorem dL_law_91 : decode cL_law 91 = .ok (.bipush 6, 2) := by decide +kernel
theorem dL_law_93 : decode cL_law 93 = .ok (.irem, 1) := by decide +kernel
theorem dL_law_94 : decode cL_law 94 = .ok (.istore 4, 2) := by decide +kernel
theorem dL_law_96 : decode cL_law 96 = .ok (.aload_n 1, 1) := by decide +kernel
theorem dL_law_97 : decode cL_law 97 = .ok (.iload 4, 2) := by decide +kernel
theorem dL_law_99 : decode cL_law 99 = .ok (.aload_n 0, 1) := by decide +kernel
theorem dL_law_100 : decode cL_law 100 = .ok (.iload_n 3, 1) := by decide +kernel
theorem dL_law_101 : decode cL_law 101 = .ok (.iaload, 1) := by decide +kernel
theorem dL_law_102 : decode cL_law 102 = .ok (.iconst 4, 1) := by decide +kernel
theorem dL_law_103 : decode cL_law 103 = .ok (.ishr, 1) := by decide +kernel
theorem dL_law_104 : decode cL_law 104 = .ok (.bipush 15, 2) := by decide +kernel
theorem dL_law_106 : decode cL_law 106 = .ok (.iand, 1) := by decide +kernel
theorem dL_law_107 : decode cL_law 107 = .ok (.iconst 1, 1) := by decide +kernel
theorem dL_law_108 : decode cL_law 108 = .ok (.isub, 1) := by decide +kernel
theorem dL_law_109 : decode cL_law 109 = .ok (.aload_n 0, 1) := by decide +kernel
theorem dL_law_110 : decode cL_law 110 = .ok (.iload_n 3, 1) := by decide +kernel
theorem dL_law_111 : decode cL_law 111 = .ok (.iaload, 1) := by decide +kernel
theorem dL_law_112 : decode cL_law 112 = .ok (.bipush 8, 2) := by decide +kernel
theorem dL_law_114 : decode cL_law 114 = .ok (.ishr, 1) := by decide +kernel
theorem dL_law_115 : decode cL_law 115 = .ok (.invokestatic 51, 3) := by decide +kernel
theorem dL_law_118 : decode cL_law 118 = .ok (.pop2, 1) := by decide +kernel
theorem dL_law_119 : decode cL_law 119 = .ok (.aload_n 1, 1) := by decide +kernel
theorem dL_law_120 : decode cL_law 120 = .ok (.iconst 1, 1) := by decide +kernel
theorem dL_law_121 : decode cL_law 121 = .ok (.invokestatic 54, 3) := by decide +kernel
theorem dL_law_124 : decode cL_law 124 = .ok (.iload_n 3, 1) := by decide +kernel
theorem dL_law_125 : decode cL_law 125 = .ok (.iconst 1, 1) := by decide +kernel
theorem dL_law_126 : decode cL_law 126 = .ok (.iadd, 1) := by decide +kernel
theorem dL_law_127 : decode cL_law 127 = .ok (.if_icmp .eq 5, 3) := by decide +kernel
theorem dL_law_130 : decode cL_law 130 = .ok (.iconst 0, 1) := by decide +kernel
theorem dL_law_131 : decode cL_law 131 = .ok (.ireturn, 1) := by decide +kernel
theorem dL_law_132 : decode cL_law 132 = .ok (.aload_n 1, 1) := by decide +kernel
theorem dL_law_133 : decode cL_law 133 = .ok (.iconst 0, 1) := by decide +kernel
theorem dL_law_134 : decode cL_law 134 = .ok (.invokestatic 54, 3) := by decide +kernel
theorem dL_law_137 : decode cL_law 137 = .ok (.istore 5, 2) := by decide +kernel
theorem dL_law_139 : decode cL_law 139 = .ok (.iconst 0, 1) := by decide +kernel
theorem dL_law_140 : decode cL_law 140 = .ok (.istore 6, 2) := by decide +kernel
theorem dL_law_142 : decode cL_law 142 = .ok (.iconst 1, 1) := by decide +kernel
theorem dL_law_143 : decode cL_law 143 = .ok (.istore 7, 2) := by decide +kernel
theorem dL_law_145 : decode cL_law 145 = .ok (.iconst 0, 1) := by decide +kernel
theorem dL_law_146 : decode cL_law 146 = .ok (.istore 8, 2) := by decide +kernel
theorem dL_law_148 : decode cL_law 148 = .ok (.iload 8, 2) := by decide +kernel
theorem dL_law_150 : decode cL_law 150 = .ok (.iload 5, 2) := by decide +kernel
theorem dL_law_152 : decode cL_law 152 = .ok (.if_icmp .ge 165, 3) := by decide +kernel
theorem dL_law_155 : decode cL_law 155 = .ok (.iload 8, 2) := by decide +kernel
theorem dL_law_157 : decode cL_law 157 = .ok (.bipush 64, 2) := by decide +kernel
theorem dL_law_159 : decode cL_law 159 = .ok (.if_icmp .ge 158, 3) := by decide +kernel
theorem dL_law_162 : decode cL_law 162 = .ok (.aload_n 1, 1) := by decide +kernel
theorem dL_law_163 : decode cL_law 163 = .ok (.iload 8, 2) := by decide +kernel
theorem dL_law_165 : decode cL_law 165 = .ok (.invokestatic 57, 3) := by decide +kernel
theorem dL_law_168 : decode cL_law 168 = .ok (.istore 9, 2) := by decide +kernel
theorem dL_law_170 : decode cL_law 170 = .ok (.iload 9, 2) := by decide +kernel
theorem dL_law_172 : decode cL_law 172 = .ok (.ifCond .lt 60, 3) := by decide +kernel
theorem dL_law_175 : decode cL_law 175 = .ok (.iload 9, 2) := by decide +kernel
theorem dL_law_177 : decode cL_law 177 = .ok (.bipush 6, 2) := by decide +kernel
theorem dL_law_179 : decode cL_law 179 = .ok (.if_icmp .ge 53, 3) := by decide +kernel
theorem dL_law_182 : decode cL_law 182 = .ok (.iload 7, 2) := by decide +kernel
theorem dL_law_184 : decode cL_law 184 = .ok (.ifCond .eq 13, 3) := by decide +kernel
theorem dL_law_187 : decode cL_law 187 = .ok (.iload 9, 2) := by decide +kernel
theorem dL_law_189 : decode cL_law 189 = .ok (.iload 4, 2) := by decide +kernel
theorem dL_law_191 : decode cL_law 191 = .ok (.if_icmp .eq 26, 3) := by decide +kernel
theorem dL_law_194 : decode cL_law 194 = .ok (.goto 21, 3) := by decide +kernel
theorem dL_law_197 : decode cL_law 197 = .ok (.iload 6, 2) := by decide +kernel
theorem dL_law_199 : decode cL_law 199 = .ok (.ifCond .eq 16, 3) := by decide +kernel
theorem dL_law_202 : decode cL_law 202 = .ok (.iload 9, 2) := by decide +kernel
theorem dL_law_204 : decode cL_law 204 = .ok (.aload_n 2, 1) := by decide +kernel
theorem dL_law_205 : decode cL_law 205 = .ok (.iload 6, 2) := by decide +kernel
theorem dL_law_207 : decode cL_law 207 = .ok (.iconst 1, 1) := by decide +kernel
theorem dL_law_208 : decode cL_law 208 = .ok (.isub, 1) := by decide +kernel
theorem dL_law_209 : decode cL_law 209 = .ok (.iaload, 1) := by decide +kernel
theorem dL_law_210 : decode cL_law 210 = .ok (.iconst 1, 1) := by decide +kernel
theorem dL_law_211 : decode cL_law 211 = .ok (.isub, 1) := by decide +kernel
theorem dL_law_212 : decode cL_law 212 = .ok (.if_icmp .eq 5, 3) := by decide +kernel
theorem dL_law_215 : decode cL_law 215 = .ok (.iconst 0, 1) := by decide +kernel
theorem dL_law_216 : decode cL_law 216 = .ok (.ireturn, 1) := by decide +kernel
theorem dL_law_217 : decode cL_law 217 = .ok (.aload_n 2, 1) := by decide +kernel
theorem dL_law_218 : decode cL_law 218 = .ok (.iload 6, 2) := by decide +kernel
theorem dL_law_220 : decode cL_law 220 = .ok (.iload 9, 2) := by decide +kernel
theorem dL_law_222 : decode cL_law 222 = .ok (.iastore, 1) := by decide +kernel
theorem dL_law_223 : decode cL_law 223 = .ok (.iinc 6 1, 3) := by decide +kernel
theorem dL_law_226 : decode cL_law 226 = .ok (.iconst 0, 1) := by decide +kernel
theorem dL_law_227 : decode cL_law 227 = .ok (.istore 7, 2) := by decide +kernel
theorem dL_law_229 : decode cL_law 229 = .ok (.goto 82, 3) := by decide +kernel
theorem dL_law_232 : decode cL_law 232 = .ok (.iload 9, 2) := by decide +kernel
theorem dL_law_234 : decode cL_law 234 = .ok (.sipush 600, 3) := by decide +kernel
theorem dL_law_237 : decode cL_law 237 = .ok (.if_icmp .lt 74, 3) := by decide +kernel
theorem dL_law_240 : decode cL_law 240 = .ok (.iload 9, 2) := by decide +kernel
theorem dL_law_242 : decode cL_law 242 = .ok (.sipush 606, 3) := by decide +kernel
theorem dL_law_245 : decode cL_law 245 = .ok (.if_icmp .ge 66, 3) := by decide +kernel
theorem dL_law_248 : decode cL_law 248 = .ok (.iload 6, 2) := by decide +kernel
theorem dL_law_250 : decode cL_law 250 = .ok (.ifCond .le 61, 3) := by decide +kernel
theorem dL_law_253 : decode cL_law 253 = .ok (.iload 9, 2) := by decide +kernel
theorem dL_law_255 : decode cL_law 255 = .ok (.sipush 600, 3) := by decide +kernel
theorem dL_law_258 : decode cL_law 258 = .ok (.aload_n 2, 1) := by decide +kernel
theorem dL_law_259 : decode cL_law 259 = .ok (.iload 6, 2) := by decide +kernel
theorem dL_law_261 : decode cL_law 261 = .ok (.iconst 1, 1) := by decide +kernel
theorem dL_law_262 : decode cL_law 262 = .ok (.isub, 1) := by decide +kernel
theorem dL_law_263 : decode cL_law 263 = .ok (.iaload, 1) := by decide +kernel
theorem dL_law_264 : decode cL_law 264 = .ok (.iadd, 1) := by decide +kernel
theorem dL_law_265 : decode cL_law 265 = .ok (.if_icmp .ne 46, 3) := by decide +kernel
theorem dL_law_268 : decode cL_law 268 = .ok (.iinc 6 (-1), 3) := by decide +kernel
theorem dL_law_271 : decode cL_law 271 = .ok (.iload 6, 2) := by decide +kernel
theorem dL_law_273 : decode cL_law 273 = .ok (.ifCond .ne 38, 3) := by decide +kernel
theorem dL_law_276 : decode cL_law 276 = .ok (.iload 8, 2) := by decide +kernel
theorem dL_law_278 : decode cL_law 278 = .ok (.iconst 1, 1) := by decide +kernel
theorem dL_law_279 : decode cL_law 279 = .ok (.iadd, 1) := by decide +kernel
theorem dL_law_280 : decode cL_law 280 = .ok (.iload 5, 2) := by decide +kernel
theorem dL_law_282 : decode cL_law 282 = .ok (.if_icmp .ge 29, 3) := by decide +kernel
theorem dL_law_285 : decode cL_law 285 = .ok (.aload_n 1, 1) := by decide +kernel
theorem dL_law_286 : decode cL_law 286 = .ok (.iload 8, 2) := by decide +kernel
theorem dL_law_288 : decode cL_law 288 = .ok (.iconst 1, 1) := by decide +kernel
theorem dL_law_289 : decode cL_law 289 = .ok (.iadd, 1) := by decide +kernel
theorem dL_law_290 : decode cL_law 290 = .ok (.invokestatic 57, 3) := by decide +kernel
theorem dL_law_293 : decode cL_law 293 = .ok (.ifCond .lt 18, 3) := by decide +kernel
theorem dL_law_296 : decode cL_law 296 = .ok (.aload_n 1, 1) := by decide +kernel
theorem dL_law_297 : decode cL_law 297 = .ok (.iload 8, 2) := by decide +kernel
theorem dL_law_299 : decode cL_law 299 = .ok (.iconst 1, 1) := by decide +kernel
theorem dL_law_300 : decode cL_law 300 = .ok (.iadd, 1) := by decide +kernel
theorem dL_law_301 : decode cL_law 301 = .ok (.invokestatic 57, 3) := by decide +kernel
theorem dL_law_304 : decode cL_law 304 = .ok (.bipush 6, 2) := by decide +kernel
theorem dL_law_306 : decode cL_law 306 = .ok (.if_icmp .ge 5, 3) := by decide +kernel
theorem dL_law_309 : decode cL_law 309 = .ok (.iconst 0, 1) := by decide +kernel
theorem dL_law_310 : decode cL_law 310 = .ok (.ireturn, 1) := by decide +kernel
theorem dL_law_311 : decode cL_law 311 = .ok (.iinc 8 1, 3) := by decide +kernel
theorem dL_law_314 : decode cL_law 314 = .ok (.goto (-166), 3) := by decide +kernel
theorem dL_law_317 : decode cL_law 317 = .ok (.iload 5, 2) := by decide +kernel
theorem dL_law_319 : decode cL_law 319 = .ok (.bipush 64, 2) := by decide +kernel
theorem dL_law_321 : decode cL_law 321 = .ok (.if_icmp .gt 8, 3) := by decide +kernel
theorem dL_law_324 : decode cL_law 324 = .ok (.iload 6, 2) := by decide +kernel
theorem dL_law_326 : decode cL_law 326 = .ok (.ifCond .ne 14, 3) := by decide +kernel
theorem dL_law_329 : decode cL_law 329 = .ok (.aload_n 1, 1) := by decide +kernel
theorem dL_law_330 : decode cL_law 330 = .ok (.iload 5, 2) := by decide +kernel
theorem dL_law_332 : decode cL_law 332 = .ok (.invokestatic 57, 3) := by decide +kernel
theorem dL_law_335 : decode cL_law 335 = .ok (.ldc 15, 2) := by decide +kernel
theorem dL_law_337 : decode cL_law 337 = .ok (.if_icmp .eq 5, 3) := by decide +kernel
theorem dL_law_340 : decode cL_law 340 = .ok (.iconst 0, 1) := by decide +kernel
theorem dL_law_341 : decode cL_law 341 = .ok (.ireturn, 1) := by decide +kernel
theorem dL_law_342 : decode cL_law 342 = .ok (.iinc 3 1, 3) := by decide +kernel
theorem dL_law_345 : decode cL_law 345 = .ok (.goto (-272), 3) := by decide +kernel
theorem dL_law_348 : decode cL_law 348 = .ok (.iconst 1, 1) := by decide +kernel
theorem dL_law_349 : decode cL_law 349 = .ok (.ireturn, 1) := by decide +kernel
