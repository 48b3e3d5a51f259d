theorem dX0_init_0 : decode cX0_init 0 = .ok (.aload_n 0, 1) := by decide +kernel
theorem dX0_init_1 : decode cX0_init 1 = .ok (.invokespecial 3, 3) := by decide +kernel
theorem dX0_init_4 : decode cX0_init 4 = .ok (.return_, 1) := by decide +kernel
theorem dX0_takesKind_0 : decode cX0_takesKind 0 = .ok (.iload_n 1, 1) := by decide +kernel
theorem dX0_takesKind_1 : decode cX0_takesKind 1 = .ok (.ifCond .eq 20, 3) := by decide +kernel
theorem dX0_takesKind_4 : decode cX0_takesKind 4 = .ok (.aload_n 0, 1) := by decide +kernel
theorem dX0_takesKind_5 : decode cX0_takesKind 5 = .ok (.getfield 9, 3) := by decide +kernel
theorem dX0_takesKind_8 : decode cX0_takesKind 8 = .ok (.iconst 1, 1) := by decide +kernel
theorem dX0_takesKind_9 : decode cX0_takesKind 9 = .ok (.iload_n 1, 1) := by decide +kernel
theorem dX0_takesKind_10 : decode cX0_takesKind 10 = .ok (.iconst 1, 1) := by decide +kernel
theorem dX0_takesKind_11 : decode cX0_takesKind 11 = .ok (.isub, 1) := by decide +kernel
theorem dX0_takesKind_12 : decode cX0_takesKind 12 = .ok (.ishl, 1) := by decide +kernel
theorem dX0_takesKind_13 : decode cX0_takesKind 13 = .ok (.iand, 1) := by decide +kernel
theorem dX0_takesKind_14 : decode cX0_takesKind 14 = .ok (.ifCond .eq 7, 3) := by decide +kernel
theorem dX0_takesKind_17 : decode cX0_takesKind 17 = .ok (.iconst 1, 1) := by decide +kernel
theorem dX0_takesKind_18 : decode cX0_takesKind 18 = .ok (.goto 4, 3) := by decide +kernel
theorem dX0_takesKind_21 : decode cX0_takesKind 21 = .ok (.iconst 0, 1) := by decide +kernel
theorem dX0_takesKind_22 : decode cX0_takesKind 22 = .ok (.ireturn, 1) := by decide +kernel
theorem dX1_init_0 : decode cX1_init 0 = .ok (.aload_n 0, 1) := by decide +kernel
theorem dX1_init_1 : decode cX1_init 1 = .ok (.invokespecial 3, 3) := by decide +kernel
theorem dX1_init_4 : decode cX1_init 4 = .ok (.aload_n 0, 1) := by decide +kernel
theorem dX1_init_5 : decode cX1_init 5 = .ok (.bipush 64, 2) := by decide +kernel
theorem dX1_init_7 : decode cX1_init 7 = .ok (.newarray .int, 2) := by decide +kernel
theorem dX1_init_9 : decode cX1_init 9 = .ok (.putfield 9, 3) := by decide +kernel
theorem dX1_init_12 : decode cX1_init 12 = .ok (.return_, 1) := by decide +kernel
theorem dX1_beginAnew_0 : decode cX1_beginAnew 0 = .ok (.aload_n 0, 1) := by decide +kernel
theorem dX1_beginAnew_1 : decode cX1_beginAnew 1 = .ok (.iconst 0, 1) := by decide +kernel
theorem dX1_beginAnew_2 : decode cX1_beginAnew 2 = .ok (.putfield 15, 3) := by decide +kernel
theorem dX1_beginAnew_5 : decode cX1_beginAnew 5 = .ok (.return_, 1) := by decide +kernel
theorem dX1_add_0 : decode cX1_add 0 = .ok (.aload_n 0, 1) := by decide +kernel
theorem dX1_add_1 : decode cX1_add 1 = .ok (.getfield 15, 3) := by decide +kernel
theorem dX1_add_4 : decode cX1_add 4 = .ok (.aload_n 0, 1) := by decide +kernel
theorem dX1_add_5 : decode cX1_add 5 = .ok (.getfield 9, 3) := by decide +kernel
theorem dX1_add_8 : decode cX1_add 8 = .ok (.arraylength, 1) := by decide +kernel
theorem dX1_add_9 : decode cX1_add 9 = .ok (.if_icmp .ge 13, 3) := by decide +kernel
theorem dX1_add_12 : decode cX1_add 12 = .ok (.aload_n 0, 1) := by decide +kernel
theorem dX1_add_13 : decode cX1_add 13 = .ok (.getfield 9, 3) := by decide +kernel
theorem dX1_add_16 : decode cX1_add 16 = .ok (.aload_n 0, 1) := by decide +kernel
theorem dX1_add_17 : decode cX1_add 17 = .ok (.getfield 15, 3) := by decide +kernel
theorem dX1_add_20 : decode cX1_add 20 = .ok (.iload_n 1, 1) := by decide +kernel
theorem dX1_add_21 : decode cX1_add 21 = .ok (.iastore, 1) := by decide +kernel
theorem dX1_add_22 : decode cX1_add 22 = .ok (.aload_n 0, 1) := by decide +kernel
theorem dX1_add_23 : decode cX1_add 23 = .ok (.dup, 1) := by decide +kernel
theorem dX1_add_24 : decode cX1_add 24 = .ok (.getfield 15, 3) := by decide +kernel
theorem dX1_add_27 : decode cX1_add 27 = .ok (.iconst 1, 1) := by decide +kernel
theorem dX1_add_28 : decode cX1_add 28 = .ok (.iadd, 1) := by decide +kernel
theorem dX1_add_29 : decode cX1_add 29 = .ok (.putfield 15, 3) := by decide +kernel
theorem dX1_add_32 : decode cX1_add 32 = .ok (.return_, 1) := by decide +kernel
theorem dX1_kept_0 : decode cX1_kept 0 = .ok (.aload_n 0, 1) := by decide +kernel
theorem dX1_kept_1 : decode cX1_kept 1 = .ok (.getfield 15, 3) := by decide +kernel
theorem dX1_kept_4 : decode cX1_kept 4 = .ok (.aload_n 0, 1) := by decide +kernel
theorem dX1_kept_5 : decode cX1_kept 5 = .ok (.getfield 9, 3) := by decide +kernel
theorem dX1_kept_8 : decode cX1_kept 8 = .ok (.arraylength, 1) := by decide +kernel
theorem dX1_kept_9 : decode cX1_kept 9 = .ok (.invokestatic 19, 3) := by decide +kernel
theorem dX1_kept_12 : decode cX1_kept 12 = .ok (.ireturn, 1) := by decide +kernel
theorem dX2_init_0 : decode cX2_init 0 = .ok (.aload_n 0, 1) := by decide +kernel
theorem dX2_init_1 : decode cX2_init 1 = .ok (.invokespecial 3, 3) := by decide +kernel
theorem dX2_init_4 : decode cX2_init 4 = .ok (.aload_n 0, 1) := by decide +kernel
theorem dX2_init_5 : decode cX2_init 5 = .ok (.bipush 7, 2) := by decide +kernel
theorem dX2_init_7 : decode cX2_init 7 = .ok (.newarray .int, 2) := by decide +kernel
theorem dX2_init_9 : decode cX2_init 9 = .ok (.putfield 11, 3) := by decide +kernel
theorem dX2_init_12 : decode cX2_init 12 = .ok (.aload_n 0, 1) := by decide +kernel
theorem dX2_init_13 : decode cX2_init 13 = .ok (.bipush 7, 2) := by decide +kernel
theorem dX2_init_15 : decode cX2_init 15 = .ok (.newarray .int, 2) := by decide +kernel
theorem dX2_init_17 : decode cX2_init 17 = .ok (.putfield 15, 3) := by decide +kernel
theorem dX2_init_20 : decode cX2_init 20 = .ok (.return_, 1) := by decide +kernel
theorem dX2_drop_0 : decode cX2_drop 0 = .ok (.aload_n 0, 1) := by decide +kernel
theorem dX2_drop_1 : decode cX2_drop 1 = .ok (.iconst 0, 1) := by decide +kernel
theorem dX2_drop_2 : decode cX2_drop 2 = .ok (.putfield 18, 3) := by decide +kernel
theorem dX2_drop_5 : decode cX2_drop 5 = .ok (.return_, 1) := by decide +kernel
theorem dX2_wrap_0 : decode cX2_wrap 0 = .ok (.aload_n 0, 1) := by decide +kernel
theorem dX2_wrap_1 : decode cX2_wrap 1 = .ok (.getfield 18, 3) := by decide +kernel
theorem dX2_wrap_4 : decode cX2_wrap 4 = .ok (.bipush 7, 2) := by decide +kernel
theorem dX2_wrap_6 : decode cX2_wrap 6 = .ok (.if_icmp .ge 33, 3) := by decide +kernel
theorem dX2_wrap_9 : decode cX2_wrap 9 = .ok (.aload_n 0, 1) := by decide +kernel
theorem dX2_wrap_10 : decode cX2_wrap 10 = .ok (.getfield 11, 3) := by decide +kernel
theorem dX2_wrap_13 : decode cX2_wrap 13 = .ok (.aload_n 0, 1) := by decide +kernel
theorem dX2_wrap_14 : decode cX2_wrap 14 = .ok (.getfield 18, 3) := by decide +kernel
theorem dX2_wrap_17 : decode cX2_wrap 17 = .ok (.iload_n 1, 1) := by decide +kernel
theorem dX2_wrap_18 : decode cX2_wrap 18 = .ok (.iastore, 1) := by decide +kernel
theorem dX2_wrap_19 : decode cX2_wrap 19 = .ok (.aload_n 0, 1) := by decide +kernel
theorem dX2_wrap_20 : decode cX2_wrap 20 = .ok (.getfield 15, 3) := by decide +kernel
theorem dX2_wrap_23 : decode cX2_wrap 23 = .ok (.aload_n 0, 1) := by decide +kernel
theorem dX2_wrap_24 : decode cX2_wrap 24 = .ok (.getfield 18, 3) := by decide +kernel
theorem dX2_wrap_27 : decode cX2_wrap 27 = .ok (.iload_n 2, 1) := by decide +kernel
theorem dX2_wrap_28 : decode cX2_wrap 28 = .ok (.iastore, 1) := by decide +kernel
theorem dX2_wrap_29 : decode cX2_wrap 29 = .ok (.aload_n 0, 1) := by decide +kernel
theorem dX2_wrap_30 : decode cX2_wrap 30 = .ok (.dup, 1) := by decide +kernel
theorem dX2_wrap_31 : decode cX2_wrap 31 = .ok (.getfield 18, 3) := by decide +kernel
theorem dX2_wrap_34 : decode cX2_wrap 34 = .ok (.iconst 1, 1) := by decide +kernel
theorem dX2_wrap_35 : decode cX2_wrap 35 = .ok (.iadd, 1) := by decide +kernel
theorem dX2_wrap_36 : decode cX2_wrap 36 = .ok (.putfield 18, 3) := by decide +kernel
theorem dX2_wrap_39 : decode cX2_wrap 39 = .ok (.return_, 1) := by decide +kernel
theorem dX2_kind_0 : decode cX2_kind 0 = .ok (.aload_n 0, 1) := by decide +kernel
theorem dX2_kind_1 : decode cX2_kind 1 = .ok (.getfield 18, 3) := by decide +kernel
theorem dX2_kind_4 : decode cX2_kind 4 = .ok (.ifCond .le 17, 3) := by decide +kernel
theorem dX2_kind_7 : decode cX2_kind 7 = .ok (.aload_n 0, 1) := by decide +kernel
theorem dX2_kind_8 : decode cX2_kind 8 = .ok (.getfield 11, 3) := by decide +kernel
theorem dX2_kind_11 : decode cX2_kind 11 = .ok (.aload_n 0, 1) := by decide +kernel
theorem dX2_kind_12 : decode cX2_kind 12 = .ok (.getfield 18, 3) := by decide +kernel
theorem dX2_kind_15 : decode cX2_kind 15 = .ok (.iconst 1, 1) := by decide +kernel
theorem dX2_kind_16 : decode cX2_kind 16 = .ok (.isub, 1) := by decide +kernel
theorem dX2_kind_17 : decode cX2_kind 17 = .ok (.iaload, 1) := by decide +kernel
theorem dX2_kind_18 : decode cX2_kind 18 = .ok (.goto 4, 3) := by decide +kernel
theorem dX2_kind_21 : decode cX2_kind 21 = .ok (.iconst 0, 1) := by decide +kernel
theorem dX2_kind_22 : decode cX2_kind 22 = .ok (.ireturn, 1) := by decide +kernel
theorem dX2_number_0 : decode cX2_number 0 = .ok (.aload_n 0, 1) := by decide +kernel
theorem dX2_number_1 : decode cX2_number 1 = .ok (.getfield 18, 3) := by decide +kernel
theorem dX2_number_4 : decode cX2_number 4 = .ok (.ifCond .le 17, 3) := by decide +kernel
theorem dX2_number_7 : decode cX2_number 7 = .ok (.aload_n 0, 1) := by decide +kernel
theorem dX2_number_8 : decode cX2_number 8 = .ok (.getfield 15, 3) := by decide +kernel
theorem dX2_number_11 : decode cX2_number 11 = .ok (.aload_n 0, 1) := by decide +kernel
theorem dX2_number_12 : decode cX2_number 12 = .ok (.getfield 18, 3) := by decide +kernel
theorem dX2_number_15 : decode cX2_number 15 = .ok (.iconst 1, 1) := by decide +kernel
theorem dX2_number_16 : decode cX2_number 16 = .ok (.isub, 1) := by decide +kernel
theorem dX2_number_17 : decode cX2_number 17 = .ok (.iaload, 1) := by decide +kernel
theorem dX2_number_18 : decode cX2_number 18 = .ok (.goto 4, 3) := by decide +kernel
theorem dX2_number_21 : decode cX2_number 21 = .ok (.iconst 0, 1) := by decide +kernel
theorem dX2_number_22 : decode cX2_number 22 = .ok (.ireturn, 1) := by decide +kernel
theorem dX2_causes_0 : decode cX2_causes 0 = .ok (.aload_n 0, 1) := by decide +kernel
theorem dX2_causes_1 : decode cX2_causes 1 = .ok (.getfield 18, 3) := by decide +kernel
theorem dX2_causes_4 : decode cX2_causes 4 = .ok (.ifCond .le 12, 3) := by decide +kernel
theorem dX2_causes_7 : decode cX2_causes 7 = .ok (.aload_n 0, 1) := by decide +kernel
theorem dX2_causes_8 : decode cX2_causes 8 = .ok (.getfield 18, 3) := by decide +kernel
theorem dX2_causes_11 : decode cX2_causes 11 = .ok (.iconst 1, 1) := by decide +kernel
theorem dX2_causes_12 : decode cX2_causes 12 = .ok (.isub, 1) := by decide +kernel
theorem dX2_causes_13 : decode cX2_causes 13 = .ok (.goto 4, 3) := by decide +kernel
theorem dX2_causes_16 : decode cX2_causes 16 = .ok (.iconst 0, 1) := by decide +kernel
theorem dX2_causes_17 : decode cX2_causes 17 = .ok (.ireturn, 1) := by decide +kernel
set_option maxRecDepth 20000 in
theorem ggX2_lastCauseKind_X2_causes : GoodIn wsX2_lastCauseKind wsX2_causes := goodIn_r _ [6, 7, 8, 9, 10] (by decide +kernel) (by decide +kernel)
set_option maxRecDepth 20000 in
theorem gX2_lastCauseKind_X2_causes : GoodIn wsX2_lastCauseKind (wsV RX2 22 RX2 yX2_causes wsX2_causes) := goodIn_app (goodIn_of _ (by decide +kernel)) ggX2_lastCauseKind_X2_causes
theorem dX2_lastCauseKind_0 : decode cX2_lastCauseKind 0 = .ok (.aload_n 0, 1) := by decide +kernel
theorem dX2_lastCauseKind_1 : decode cX2_lastCauseKind 1 = .ok (.invokevirtual 22, 3) := by decide +kernel
theorem dX2_lastCauseKind_4 : decode cX2_lastCauseKind 4 = .ok (.ifCond .le 12, 3) := by decide +kernel
theorem dX2_lastCauseKind_7 : decode cX2_lastCauseKind 7 = .ok (.aload_n 0, 1) := by decide +kernel
theorem dX2_lastCauseKind_8 : decode cX2_lastCauseKind 8 = .ok (.getfield 11, 3) := by decide +kernel
theorem dX2_lastCauseKind_11 : decode cX2_lastCauseKind 11 = .ok (.iconst 0, 1) := by decide +kernel
theorem dX2_lastCauseKind_12 : decode cX2_lastCauseKind 12 = .ok (.iaload, 1) := by decide +kernel
theorem dX2_lastCauseKind_13 : decode cX2_lastCauseKind 13 = .ok (.goto 4, 3) := by decide +kernel
theorem dX2_lastCauseKind_16 : decode cX2_lastCauseKind 16 = .ok (.iconst 0, 1) := by decide +kernel
theorem dX2_lastCauseKind_17 : decode cX2_lastCauseKind 17 = .ok (.ireturn, 1) := by decide +kernel
set_option maxRecDepth 20000 in
theorem ggX2_lastCauseNumber_X2_causes : GoodIn wsX2_lastCauseNumber wsX2_causes := goodIn_r _ [6, 7, 8, 9, 10] (by decide +kernel) (by decide +kernel)
set_option maxRecDepth 20000 in
theorem gX2_lastCauseNumber_X2_causes : GoodIn wsX2_lastCauseNumber (wsV RX2 22 RX2 yX2_causes wsX2_causes) := goodIn_app (goodIn_of _ (by decide +kernel)) ggX2_lastCauseNumber_X2_causes
theorem dX2_lastCauseNumber_0 : decode cX2_lastCauseNumber 0 = .ok (.aload_n 0, 1) := by decide +kernel
theorem dX2_lastCauseNumber_1 : decode cX2_lastCauseNumber 1 = .ok (.invokevirtual 22, 3) := by decide +kernel
theorem dX2_lastCauseNumber_4 : decode cX2_lastCauseNumber 4 = .ok (.ifCond .le 12, 3) := by decide +kernel
theorem dX2_lastCauseNumber_7 : decode cX2_lastCauseNumber 7 = .ok (.aload_n 0, 1) := by decide +kernel
theorem dX2_lastCauseNumber_8 : decode cX2_lastCauseNumber 8 = .ok (.getfield 15, 3) := by decide +kernel
theorem dX2_lastCauseNumber_11 : decode cX2_lastCauseNumber 11 = .ok (.iconst 0, 1) := by decide +kernel
theorem dX2_lastCauseNumber_12 : decode cX2_lastCauseNumber 12 = .ok (.iaload, 1) := by decide +kernel
theorem dX2_lastCauseNumber_13 : decode cX2_lastCauseNumber 13 = .ok (.goto 4, 3) := by decide +kernel
theorem dX2_lastCauseNumber_16 : decode cX2_lastCauseNumber 16 = .ok (.iconst 0, 1) := by decide +kernel
theorem dX2_lastCauseNumber_17 : decode cX2_lastCauseNumber 17 = .ok (.ireturn, 1) := by decide +kernel
set_option maxRecDepth 20000 in
theorem ggX3_init_X1_init : GoodIn wsX3_init wsX1_init := goodIn_r _ [17, 18, 2, 3, 19, 20, 33, 34] (by decide +kernel) (by decide +kernel)
set_option maxRecDepth 20000 in
theorem gX3_init_X1_init_n17 : GoodIn wsX3_init (wsX1_init) := ggX3_init_X1_init
set_option maxRecDepth 20000 in
theorem ggX3_init_X2_init : GoodIn wsX3_init wsX2_init := goodIn_r _ [22, 23, 2, 3, 19, 24, 25, 35, 36, 37] (by decide +kernel) (by decide +kernel)
set_option maxRecDepth 20000 in
theorem gX3_init_X2_init_n24 : GoodIn wsX3_init (wsX2_init) := ggX3_init_X2_init
set_option maxRecDepth 20000 in
theorem ggX3_init_X0_init : GoodIn wsX3_init wsX0_init := goodIn_r _ [27, 28, 2, 3] (by decide +kernel) (by decide +kernel)
set_option maxRecDepth 20000 in
theorem gX3_init_X0_init_n29 : GoodIn wsX3_init (wsX0_init) := ggX3_init_X0_init
theorem dX3_init_0 : decode cX3_init 0 = .ok (.aload_n 0, 1) := by decide +kernel
theorem dX3_init_1 : decode cX3_init 1 = .ok (.invokespecial 1, 3) := by decide +kernel
theorem dX3_init_4 : decode cX3_init 4 = .ok (.aload_n 0, 1) := by decide +kernel
theorem dX3_init_5 : decode cX3_init 5 = .ok (.bipush 6, 2) := by decide +kernel
theorem dX3_init_7 : decode cX3_init 7 = .ok (.anewarray 9, 3) := by decide +kernel
theorem dX3_init_10 : decode cX3_init 10 = .ok (.putfield 11, 3) := by decide +kernel
theorem dX3_init_13 : decode cX3_init 13 = .ok (.aload_n 0, 1) := by decide +kernel
theorem dX3_init_14 : decode cX3_init 14 = .ok (.new 15, 3) := by decide +kernel
theorem dX3_init_17 : decode cX3_init 17 = .ok (.dup, 1) := by decide +kernel
theorem dX3_init_18 : decode cX3_init 18 = .ok (.invokespecial 17, 3) := by decide +kernel
theorem dX3_init_21 : decode cX3_init 21 = .ok (.putfield 18, 3) := by decide +kernel
theorem dX3_init_24 : decode cX3_init 24 = .ok (.aload_n 0, 1) := by decide +kernel
theorem dX3_init_25 : decode cX3_init 25 = .ok (.new 22, 3) := by decide +kernel
theorem dX3_init_28 : decode cX3_init 28 = .ok (.dup, 1) := by decide +kernel
theorem dX3_init_29 : decode cX3_init 29 = .ok (.invokespecial 24, 3) := by decide +kernel
theorem dX3_init_32 : decode cX3_init 32 = .ok (.putfield 25, 3) := by decide +kernel
theorem dX3_init_35 : decode cX3_init 35 = .ok (.iconst 0, 1) := by decide +kernel
theorem dX3_init_36 : decode cX3_init 36 = .ok (.istore_n 1, 1) := by decide +kernel
theorem dX3_init_37 : decode cX3_init 37 = .ok (.iload_n 1, 1) := by decide +kernel
theorem dX3_init_38 : decode cX3_init 38 = .ok (.bipush 6, 2) := by decide +kernel
theorem dX3_init_40 : decode cX3_init 40 = .ok (.if_icmp .ge 22, 3) := by decide +kernel
theorem dX3_init_43 : decode cX3_init 43 = .ok (.aload_n 0, 1) := by decide +kernel
theorem dX3_init_44 : decode cX3_init 44 = .ok (.getfield 11, 3) := by decide +kernel
theorem dX3_init_47 : decode cX3_init 47 = .ok (.iload_n 1, 1) := by decide +kernel
theorem dX3_init_48 : decode cX3_init 48 = .ok (.new 9, 3) := by decide +kernel
theorem dX3_init_51 : decode cX3_init 51 = .ok (.dup, 1) := by decide +kernel
theorem dX3_init_52 : decode cX3_init 52 = .ok (.invokespecial 29, 3) := by decide +kernel
theorem dX3_init_55 : decode cX3_init 55 = .ok (.aastore, 1) := by decide +kernel
theorem dX3_init_56 : decode cX3_init 56 = .ok (.iinc 1 1, 3) := by decide +kernel
theorem dX3_init_59 : decode cX3_init 59 = .ok (.goto (-22), 3) := by decide +kernel
theorem dX3_init_62 : decode cX3_init 62 = .ok (.return_, 1) := by decide +kernel
set_option maxRecDepth 20000 in
theorem ggX3_set_X3_isLevel : GoodIn wsX3_set wsX3_isLevel := goodIn_r _ [8] (by decide +kernel) (by decide +kernel)
set_option maxRecDepth 20000 in
theorem gX3_set_X3_isLevel : GoodIn wsX3_set (va_wsS RX3 30 yX3_isLevel wsX3_isLevel) := goodIn_app (goodIn_of _ (by decide +kernel)) ggX3_set_X3_isLevel
theorem dX3_set_0 : decode cX3_set 0 = .ok (.iload_n 1, 1) := by decide +kernel
theorem dX3_set_1 : decode cX3_set 1 = .ok (.invokestatic 30, 3) := by decide +kernel
theorem dX3_set_4 : decode cX3_set 4 = .ok (.ifCond .ne 13, 3) := by decide +kernel
theorem dX3_set_7 : decode cX3_set 7 = .ok (.new 34, 3) := by decide +kernel
theorem dX3_set_10 : decode cX3_set 10 = .ok (.dup, 1) := by decide +kernel
theorem dX3_set_11 : decode cX3_set 11 = .ok (.ldc 36, 2) := by decide +kernel
theorem dX3_set_13 : decode cX3_set 13 = .ok (.invokespecial 38, 3) := by decide +kernel
theorem dX3_set_16 : decode cX3_set 16 = .ok (.athrow, 1) := by decide +kernel
theorem dX3_set_17 : decode cX3_set 17 = .ok (.aload_n 0, 1) := by decide +kernel
theorem dX3_set_18 : decode cX3_set 18 = .ok (.getfield 11, 3) := by decide +kernel
theorem dX3_set_21 : decode cX3_set 21 = .ok (.iload_n 1, 1) := by decide +kernel
theorem dX3_set_22 : decode cX3_set 22 = .ok (.aaload, 1) := by decide +kernel
theorem dX3_set_23 : decode cX3_set 23 = .ok (.astore 6, 2) := by decide +kernel
theorem dX3_set_25 : decode cX3_set 25 = .ok (.aload 6, 2) := by decide +kernel
theorem dX3_set_27 : decode cX3_set 27 = .ok (.getfield 41, 3) := by decide +kernel
theorem dX3_set_30 : decode cX3_set 30 = .ok (.istore 7, 2) := by decide +kernel
theorem dX3_set_32 : decode cX3_set 32 = .ok (.aload 6, 2) := by decide +kernel
theorem dX3_set_34 : decode cX3_set 34 = .ok (.iload_n 2, 1) := by decide +kernel
theorem dX3_set_35 : decode cX3_set 35 = .ok (.putfield 45, 3) := by decide +kernel
theorem dX3_set_38 : decode cX3_set 38 = .ok (.aload 6, 2) := by decide +kernel
theorem dX3_set_40 : decode cX3_set 40 = .ok (.iload_n 3, 1) := by decide +kernel
theorem dX3_set_41 : decode cX3_set 41 = .ok (.putfield 48, 3) := by decide +kernel
theorem dX3_set_44 : decode cX3_set 44 = .ok (.aload 6, 2) := by decide +kernel
theorem dX3_set_46 : decode cX3_set 46 = .ok (.iload 4, 2) := by decide +kernel
theorem dX3_set_48 : decode cX3_set 48 = .ok (.putfield 51, 3) := by decide +kernel
theorem dX3_set_51 : decode cX3_set 51 = .ok (.aload 6, 2) := by decide +kernel
theorem dX3_set_53 : decode cX3_set 53 = .ok (.iload 5, 2) := by decide +kernel
theorem dX3_set_55 : decode cX3_set 55 = .ok (.putfield 41, 3) := by decide +kernel
theorem dX3_set_58 : decode cX3_set 58 = .ok (.iload 7, 2) := by decide +kernel
theorem dX3_set_60 : decode cX3_set 60 = .ok (.ireturn, 1) := by decide +kernel
set_option maxRecDepth 20000 in
theorem ggX3_run_X3_isLevel : GoodIn wsX3_run wsX3_isLevel := goodIn_r _ [10] (by decide +kernel) (by decide +kernel)
set_option maxRecDepth 20000 in
theorem gX3_run_X3_isLevel : GoodIn wsX3_run (va_wsS RX3 30 yX3_isLevel wsX3_isLevel) := goodIn_app (goodIn_of _ (by decide +kernel)) ggX3_run_X3_isLevel
set_option maxRecDepth 20000 in
theorem ggX3_run_X1_beginAnew : GoodIn wsX3_run wsX1_beginAnew := goodIn_r _ [15, 16, 96, 97] (by decide +kernel) (by decide +kernel)
set_option maxRecDepth 20000 in
theorem gX3_run_X1_beginAnew : GoodIn wsX3_run (wsV RX3 57 RX1 yX1_beginAnew wsX1_beginAnew) := goodIn_app (goodIn_of _ (by decide +kernel)) ggX3_run_X1_beginAnew
set_option maxRecDepth 20000 in
theorem ggX3_run_X2_drop : GoodIn wsX3_run wsX2_drop := goodIn_r _ [21, 22, 98, 99, 100] (by decide +kernel) (by decide +kernel)
set_option maxRecDepth 20000 in
theorem gX3_run_X2_drop : GoodIn wsX3_run (wsV RX3 60 RX2 yX2_drop wsX2_drop) := goodIn_app (goodIn_of _ (by decide +kernel)) ggX3_run_X2_drop
set_option maxRecDepth 20000 in
theorem ggX3_run_X3_doLevel : GoodIn wsX3_run wsX3_doLevel := goodIn_ca (goodIn_ca (goodIn_r _ [26, 5, 27, 6, 28, 29, 30, 14, 31, 16, 32, 33, 34, 35, 9, 36, 37, 38, 20, 39, 22, 40, 41, 42, 43, 44, 45, 46, 47, 48, 49, 50, 51, 52, 53, 17, 18, 19, 21, 54, 55, 56, 57, 58, 59, 60, 61, 62, 63, 64, 65, 66, 67, 68, 69, 70, 71, 72, 73, 23, 24, 25, 92, 93, 94, 95, 96, 97, 98, 99, 100, 101, 102, 103, 104] (by decide +kernel) (by decide +kernel)) (goodIn_sub (fun _ h => List.mem_cons_of_mem _ (List.mem_append_left _ (List.mem_append_left _ (List.mem_append_left _ (List.mem_append_left _ (List.mem_append_right _ h)))))) (by decide +kernel))) (goodIn_sub (fun _ h => List.mem_cons_of_mem _ (List.mem_append_left _ (List.mem_append_left _ (List.mem_append_left _ (List.mem_append_right _ h))))) (by decide +kernel))
set_option maxRecDepth 20000 in
theorem gX3_run_X3_doLevel : GoodIn wsX3_run (wsV RX3 63 RX3 yX3_doLevel wsX3_doLevel) := goodIn_app (goodIn_of _ (by decide +kernel)) ggX3_run_X3_doLevel
set_option maxRecDepth 20000 in
theorem ggX3_run_X2_kind : GoodIn wsX3_run wsX2_kind := goodIn_ca (goodIn_ca (goodIn_r _ [39, 22, 40, 98, 99, 100] (by decide +kernel) (by decide +kernel)) (goodIn_sub (fun _ h => List.mem_cons_of_mem _ (List.mem_append_left _ (List.mem_append_left _ (List.mem_append_left _ (List.mem_append_right _ h))))) (by decide +kernel))) (goodIn_sub (fun _ h => List.mem_cons_of_mem _ (List.mem_append_left _ (List.mem_append_left _ (List.mem_append_left _ (List.mem_append_left _ (List.mem_append_right _ h)))))) (by decide +kernel))
set_option maxRecDepth 20000 in
theorem gX3_run_X2_kind : GoodIn wsX3_run (wsV RX3 67 RX2 yX2_kind wsX2_kind) := goodIn_app (goodIn_of _ (by decide +kernel)) ggX3_run_X2_kind
set_option maxRecDepth 20000 in
theorem ggX3_run_X3_throwOut : GoodIn wsX3_run wsX3_throwOut := goodIn_ca (goodIn_ca (goodIn_ca (goodIn_ca (goodIn_r _ [76, 77, 78, 79, 80, 81, 82, 83, 84, 85, 1, 2, 3, 105, 106, 107, 108, 109, 110, 111, 112, 86, 87, 88, 89, 90, 91] (by decide +kernel) (by decide +kernel)) (goodIn_sub (fun _ h => List.mem_cons_of_mem _ (List.mem_append_left _ (List.mem_append_left _ (List.mem_append_right _ h)))) (by decide +kernel))) (goodIn_sub (fun _ h => List.mem_cons_of_mem _ (List.mem_append_left _ (List.mem_append_left _ (List.mem_append_left _ (List.mem_append_left _ (List.mem_append_right _ h)))))) (by decide +kernel))) (goodIn_sub (fun _ h => List.mem_cons_of_mem _ (List.mem_append_left _ (List.mem_append_right _ h))) (by decide +kernel))) (goodIn_sub (fun _ h => List.mem_cons_of_mem _ (List.mem_append_right _ h)) (by decide +kernel))
set_option maxRecDepth 20000 in
theorem gX3_run_X3_throwOut : GoodIn wsX3_run (va_wsS RX3 71 yX3_throwOut wsX3_throwOut) := goodIn_app (goodIn_of _ (by decide +kernel)) ggX3_run_X3_throwOut
theorem dX3_run_0 : decode cX3_run 0 = .ok (.iload_n 1, 1) := by decide +kernel
theorem dX3_run_1 : decode cX3_run 1 = .ok (.invokestatic 30, 3) := by decide +kernel
theorem dX3_run_4 : decode cX3_run 4 = .ok (.ifCond .ne 13, 3) := by decide +kernel
theorem dX3_run_7 : decode cX3_run 7 = .ok (.new 34, 3) := by decide +kernel
theorem dX3_run_10 : decode cX3_run 10 = .ok (.dup, 1) := by decide +kernel
theorem dX3_run_11 : decode cX3_run 11 = .ok (.ldc 36, 2) := by decide +kernel
theorem dX3_run_13 : decode cX3_run 13 = .ok (.invokespecial 38, 3) := by decide +kernel
theorem dX3_run_16 : decode cX3_run 16 = .ok (.athrow, 1) := by decide +kernel
theorem dX3_run_17 : decode cX3_run 17 = .ok (.aload_n 0, 1) := by decide +kernel
theorem dX3_run_18 : decode cX3_run 18 = .ok (.dup, 1) := by decide +kernel
theorem dX3_run_19 : decode cX3_run 19 = .ok (.getfield 54, 3) := by decide +kernel
theorem dX3_run_22 : decode cX3_run 22 = .ok (.iconst 1, 1) := by decide +kernel
theorem dX3_run_23 : decode cX3_run 23 = .ok (.iadd, 1) := by decide +kernel
theorem dX3_run_24 : decode cX3_run 24 = .ok (.putfield 54, 3) := by decide +kernel
theorem dX3_run_27 : decode cX3_run 27 = .ok (.aload_n 0, 1) := by decide +kernel
theorem dX3_run_28 : decode cX3_run 28 = .ok (.getfield 18, 3) := by decide +kernel
theorem dX3_run_31 : decode cX3_run 31 = .ok (.invokevirtual 57, 3) := by decide +kernel
theorem dX3_run_34 : decode cX3_run 34 = .ok (.aload_n 0, 1) := by decide +kernel
theorem dX3_run_35 : decode cX3_run 35 = .ok (.getfield 25, 3) := by decide +kernel
theorem dX3_run_38 : decode cX3_run 38 = .ok (.invokevirtual 60, 3) := by decide +kernel
theorem dX3_run_41 : decode cX3_run 41 = .ok (.aload_n 0, 1) := by decide +kernel
theorem dX3_run_42 : decode cX3_run 42 = .ok (.iload_n 1, 1) := by decide +kernel
theorem dX3_run_43 : decode cX3_run 43 = .ok (.iload_n 2, 1) := by decide +kernel
theorem dX3_run_44 : decode cX3_run 44 = .ok (.iload_n 3, 1) := by decide +kernel
theorem dX3_run_45 : decode cX3_run 45 = .ok (.invokevirtual 63, 3) := by decide +kernel
theorem dX3_run_48 : decode cX3_run 48 = .ok (.lstore 4, 2) := by decide +kernel
theorem dX3_run_50 : decode cX3_run 50 = .ok (.aload_n 0, 1) := by decide +kernel
theorem dX3_run_51 : decode cX3_run 51 = .ok (.getfield 25, 3) := by decide +kernel
theorem dX3_run_54 : decode cX3_run 54 = .ok (.invokevirtual 67, 3) := by decide +kernel
theorem dX3_run_57 : decode cX3_run 57 = .ok (.invokestatic 71, 3) := by decide +kernel
theorem dX3_run_60 : decode cX3_run 60 = .ok (.lload 4, 2) := by decide +kernel
theorem dX3_run_62 : decode cX3_run 62 = .ok (.lreturn, 1) := by decide +kernel
set_option maxRecDepth 20000 in
theorem ggX3_note_X1_kept : GoodIn wsX3_note wsX1_kept := goodIn_ca (goodIn_r _ [9, 10, 11, 12, 13, 14, 15, 26, 27] (by decide +kernel) (by decide +kernel)) (goodIn_sub (fun _ h => List.mem_cons_of_mem _ (List.mem_append_left _ (List.mem_append_right _ h))) (by decide +kernel))
set_option maxRecDepth 20000 in
theorem gX3_note_X1_kept : GoodIn wsX3_note (wsV RX3 75 RX1 yX1_kept wsX1_kept) := goodIn_app (goodIn_of _ (by decide +kernel)) ggX3_note_X1_kept
theorem dX3_note_0 : decode cX3_note 0 = .ok (.iload_n 1, 1) := by decide +kernel
theorem dX3_note_1 : decode cX3_note 1 = .ok (.ifCond .lt 14, 3) := by decide +kernel
theorem dX3_note_4 : decode cX3_note 4 = .ok (.iload_n 1, 1) := by decide +kernel
theorem dX3_note_5 : decode cX3_note 5 = .ok (.aload_n 0, 1) := by decide +kernel
theorem dX3_note_6 : decode cX3_note 6 = .ok (.getfield 18, 3) := by decide +kernel
theorem dX3_note_9 : decode cX3_note 9 = .ok (.invokevirtual 75, 3) := by decide +kernel
theorem dX3_note_12 : decode cX3_note 12 = .ok (.if_icmp .lt 13, 3) := by decide +kernel
theorem dX3_note_15 : decode cX3_note 15 = .ok (.new 34, 3) := by decide +kernel
theorem dX3_note_18 : decode cX3_note 18 = .ok (.dup, 1) := by decide +kernel
theorem dX3_note_19 : decode cX3_note 19 = .ok (.ldc 78, 2) := by decide +kernel
theorem dX3_note_21 : decode cX3_note 21 = .ok (.invokespecial 38, 3) := by decide +kernel
theorem dX3_note_24 : decode cX3_note 24 = .ok (.athrow, 1) := by decide +kernel
theorem dX3_note_25 : decode cX3_note 25 = .ok (.aload_n 0, 1) := by decide +kernel
theorem dX3_note_26 : decode cX3_note 26 = .ok (.getfield 18, 3) := by decide +kernel
theorem dX3_note_29 : decode cX3_note 29 = .ok (.getfield 80, 3) := by decide +kernel
theorem dX3_note_32 : decode cX3_note 32 = .ok (.iload_n 1, 1) := by decide +kernel
theorem dX3_note_33 : decode cX3_note 33 = .ok (.iaload, 1) := by decide +kernel
theorem dX3_note_34 : decode cX3_note 34 = .ok (.ireturn, 1) := by decide +kernel
set_option maxRecDepth 20000 in
theorem ggX3_count_X2_kind : GoodIn wsX3_count wsX2_kind := goodIn_ca (goodIn_ca (goodIn_r _ [11, 12, 13, 46, 47, 48] (by decide +kernel) (by decide +kernel)) (goodIn_sub (fun _ h => List.mem_cons_of_mem _ (List.mem_append_right _ h)) (by decide +kernel))) (goodIn_sub (fun _ h => List.mem_cons_of_mem _ (List.mem_append_left _ (List.mem_append_right _ h))) (by decide +kernel))
set_option maxRecDepth 20000 in
theorem gX3_count_X2_kind : GoodIn wsX3_count (wsV RX3 67 RX2 yX2_kind wsX2_kind) := goodIn_app (goodIn_of _ (by decide +kernel)) ggX3_count_X2_kind
set_option maxRecDepth 20000 in
theorem ggX3_count_X2_number : GoodIn wsX3_count wsX2_number := goodIn_ca (goodIn_ca (goodIn_r _ [17, 12, 18, 46, 47, 48] (by decide +kernel) (by decide +kernel)) (goodIn_sub (fun _ h => List.mem_cons_of_mem _ (List.mem_append_right _ h)) (by decide +kernel))) (goodIn_sub (fun _ h => List.mem_cons_of_mem _ (List.mem_append_left _ (List.mem_append_right _ h))) (by decide +kernel))
set_option maxRecDepth 20000 in
theorem gX3_count_X2_number : GoodIn wsX3_count (wsV RX3 87 RX2 yX2_number wsX2_number) := goodIn_app (goodIn_of _ (by decide +kernel)) ggX3_count_X2_number
set_option maxRecDepth 20000 in
theorem ggX3_count_X2_causes : GoodIn wsX3_count wsX2_causes := goodIn_r _ [22, 12, 46, 47, 48] (by decide +kernel) (by decide +kernel)
set_option maxRecDepth 20000 in
theorem gX3_count_X2_causes : GoodIn wsX3_count (wsV RX3 90 RX2 yX2_causes wsX2_causes) := goodIn_app (goodIn_of _ (by decide +kernel)) ggX3_count_X2_causes
set_option maxRecDepth 20000 in
theorem ggX3_count_X2_lastCauseKind : GoodIn wsX3_count wsX2_lastCauseKind := goodIn_ca (goodIn_ca (goodIn_r _ [26, 13, 27, 20, 21, 10, 22, 12, 46, 47, 48] (by decide +kernel) (by decide +kernel)) (goodIn_sub (fun _ h => List.mem_cons_of_mem _ (List.mem_append_left _ (List.mem_append_right _ h))) (by decide +kernel))) (goodIn_sub (fun _ h => List.mem_cons_of_mem _ (List.mem_append_right _ h)) (by decide +kernel))
set_option maxRecDepth 20000 in
theorem gX3_count_X2_lastCauseKind : GoodIn wsX3_count (wsV RX3 93 RX2 yX2_lastCauseKind wsX2_lastCauseKind) := goodIn_app (goodIn_of _ (by decide +kernel)) ggX3_count_X2_lastCauseKind
set_option maxRecDepth 20000 in
theorem ggX3_count_X2_lastCauseNumber : GoodIn wsX3_count wsX2_lastCauseNumber := goodIn_ca (goodIn_ca (goodIn_r _ [31, 18, 27, 20, 21, 10, 22, 12, 46, 47, 48] (by decide +kernel) (by decide +kernel)) (goodIn_sub (fun _ h => List.mem_cons_of_mem _ (List.mem_append_left _ (List.mem_append_right _ h))) (by decide +kernel))) (goodIn_sub (fun _ h => List.mem_cons_of_mem _ (List.mem_append_right _ h)) (by decide +kernel))
set_option maxRecDepth 20000 in
theorem gX3_count_X2_lastCauseNumber : GoodIn wsX3_count (wsV RX3 96 RX2 yX2_lastCauseNumber wsX2_lastCauseNumber) := goodIn_app (goodIn_of _ (by decide +kernel)) ggX3_count_X2_lastCauseNumber
theorem dX3_count_0 : decode cX3_count 0 = .ok (.iload_n 1, 1) := by decide +kernel
theorem dX3_count_1 : decode cX3_count 1 = .ok (.tableswitch 96 0 6 #[43, 51, 56, 64, 72, 80, 88], 43) := by decide +kernel
theorem dX3_count_44 : decode cX3_count 44 = .ok (.aload_n 0, 1) := by decide +kernel
theorem dX3_count_45 : decode cX3_count 45 = .ok (.getfield 18, 3) := by decide +kernel
theorem dX3_count_48 : decode cX3_count 48 = .ok (.getfield 84, 3) := by decide +kernel
theorem dX3_count_51 : decode cX3_count 51 = .ok (.ireturn, 1) := by decide +kernel
theorem dX3_count_52 : decode cX3_count 52 = .ok (.aload_n 0, 1) := by decide +kernel
theorem dX3_count_53 : decode cX3_count 53 = .ok (.getfield 54, 3) := by decide +kernel
theorem dX3_count_56 : decode cX3_count 56 = .ok (.ireturn, 1) := by decide +kernel
theorem dX3_count_57 : decode cX3_count 57 = .ok (.aload_n 0, 1) := by decide +kernel
theorem dX3_count_58 : decode cX3_count 58 = .ok (.getfield 25, 3) := by decide +kernel
theorem dX3_count_61 : decode cX3_count 61 = .ok (.invokevirtual 67, 3) := by decide +kernel
theorem dX3_count_64 : decode cX3_count 64 = .ok (.ireturn, 1) := by decide +kernel
theorem dX3_count_65 : decode cX3_count 65 = .ok (.aload_n 0, 1) := by decide +kernel
theorem dX3_count_66 : decode cX3_count 66 = .ok (.getfield 25, 3) := by decide +kernel
theorem dX3_count_69 : decode cX3_count 69 = .ok (.invokevirtual 87, 3) := by decide +kernel
theorem dX3_count_72 : decode cX3_count 72 = .ok (.ireturn, 1) := by decide +kernel
theorem dX3_count_73 : decode cX3_count 73 = .ok (.aload_n 0, 1) := by decide +kernel
theorem dX3_count_74 : decode cX3_count 74 = .ok (.getfield 25, 3) := by decide +kernel
theorem dX3_count_77 : decode cX3_count 77 = .ok (.invokevirtual 90, 3) := by decide +kernel
theorem dX3_count_80 : decode cX3_count 80 = .ok (.ireturn, 1) := by decide +kernel
theorem dX3_count_81 : decode cX3_count 81 = .ok (.aload_n 0, 1) := by decide +kernel
theorem dX3_count_82 : decode cX3_count 82 = .ok (.getfield 25, 3) := by decide +kernel
theorem dX3_count_85 : decode cX3_count 85 = .ok (.invokevirtual 93, 3) := by decide +kernel
theorem dX3_count_88 : decode cX3_count 88 = .ok (.ireturn, 1) := by decide +kernel
theorem dX3_count_89 : decode cX3_count 89 = .ok (.aload_n 0, 1) := by decide +kernel
theorem dX3_count_90 : decode cX3_count 90 = .ok (.getfield 25, 3) := by decide +kernel
theorem dX3_count_93 : decode cX3_count 93 = .ok (.invokevirtual 96, 3) := by decide +kernel
theorem dX3_count_96 : decode cX3_count 96 = .ok (.ireturn, 1) := by decide +kernel
theorem dX3_count_97 : decode cX3_count 97 = .ok (.new 99, 3) := by decide +kernel
theorem dX3_count_100 : decode cX3_count 100 = .ok (.dup, 1) := by decide +kernel
theorem dX3_count_101 : decode cX3_count 101 = .ok (.ldc 101, 2) := by decide +kernel
theorem dX3_count_103 : decode cX3_count 103 = .ok (.invokespecial 103, 3) := by decide +kernel
theorem dX3_count_106 : decode cX3_count 106 = .ok (.athrow, 1) := by decide +kernel
theorem dX3_isLevel_0 : decode cX3_isLevel 0 = .ok (.iload_n 0, 1) := by decide +kernel
theorem dX3_isLevel_1 : decode cX3_isLevel 1 = .ok (.ifCond .lt 13, 3) := by decide +kernel
theorem dX3_isLevel_4 : decode cX3_isLevel 4 = .ok (.iload_n 0, 1) := by decide +kernel
theorem dX3_isLevel_5 : decode cX3_isLevel 5 = .ok (.bipush 6, 2) := by decide +kernel
theorem dX3_isLevel_7 : decode cX3_isLevel 7 = .ok (.if_icmp .ge 7, 3) := by decide +kernel
theorem dX3_isLevel_10 : decode cX3_isLevel 10 = .ok (.iconst 1, 1) := by decide +kernel
theorem dX3_isLevel_11 : decode cX3_isLevel 11 = .ok (.goto 4, 3) := by decide +kernel
theorem dX3_isLevel_14 : decode cX3_isLevel 14 = .ok (.iconst 0, 1) := by decide +kernel
theorem dX3_isLevel_15 : decode cX3_isLevel 15 = .ok (.ireturn, 1) := by decide +kernel
set_option maxRecDepth 20000 in
theorem ggX3_doLevel_X1_add : GoodIn wsX3_doLevel wsX1_add := goodIn_ca (goodIn_ca (goodIn_r _ [8, 9, 10, 66, 67] (by decide +kernel) (by decide +kernel)) (goodIn_sub (fun _ h => List.mem_cons_of_mem _ (List.mem_append_left _ (List.mem_append_right _ h))) (by decide +kernel))) (goodIn_sub (fun _ h => List.mem_cons_of_mem _ (List.mem_append_right _ h)) (by decide +kernel))
set_option maxRecDepth 20000 in
theorem gX3_doLevel_X1_add : GoodIn wsX3_doLevel (wsV RX3 104 RX1 yX1_add wsX1_add) := goodIn_app (goodIn_of _ (by decide +kernel)) ggX3_doLevel_X1_add
set_option maxRecDepth 20000 in
theorem ggX3_doLevel_X3_goDown : GoodIn wsX3_doLevel wsX3_goDown := goodIn_ca (goodIn_ca (goodIn_r _ [49, 2, 50, 51, 52, 14, 53, 54, 39, 40, 41, 42, 3, 35, 36, 37, 18, 38, 20, 43, 44, 45, 46, 21, 47, 55, 56, 57, 58, 1, 4, 5, 6, 7, 8, 9, 10, 59, 60, 61, 0, 11, 12, 13, 15, 16, 17, 19, 22, 23, 24, 25, 26, 27, 28, 29, 30, 31, 32, 33, 34, 48, 62, 63, 64, 65, 66, 67, 68, 69, 70, 71, 72, 73, 74] (by decide +kernel) (by decide +kernel)) (goodIn_sub (fun _ h => List.mem_cons_of_mem _ (List.mem_append_left _ (List.mem_append_right _ h))) (by decide +kernel))) (goodIn_sub (fun _ h => List.mem_cons_of_mem _ (List.mem_append_right _ h)) (by decide +kernel))
set_option maxRecDepth 20000 in
theorem gX3_doLevel_X3_goDown : GoodIn wsX3_doLevel (wsV RX3 107 RX3 yX3_goDown wsX3_goDown) := goodIn_app (goodIn_of _ (by decide +kernel)) ggX3_doLevel_X3_goDown
set_option maxRecDepth 20000 in
theorem ggX3_doLevel_X2_kind : GoodIn wsX3_doLevel wsX2_kind := goodIn_ca (goodIn_ca (goodIn_r _ [19, 20, 21, 68, 69, 70] (by decide +kernel) (by decide +kernel)) (goodIn_sub (fun _ h => List.mem_cons_of_mem _ (List.mem_append_right _ h)) (by decide +kernel))) (goodIn_sub (fun _ h => List.mem_cons_of_mem _ (List.mem_append_left _ (List.mem_append_right _ h))) (by decide +kernel))
set_option maxRecDepth 20000 in
theorem gX3_doLevel_X2_kind : GoodIn wsX3_doLevel (wsV RX3 67 RX2 yX2_kind wsX2_kind) := goodIn_app (goodIn_of _ (by decide +kernel)) ggX3_doLevel_X2_kind
set_option maxRecDepth 20000 in
theorem ggX3_doLevel_X0_takesKind : GoodIn wsX3_doLevel wsX0_takesKind := goodIn_r _ [26, 27, 71, 72, 73, 74] (by decide +kernel) (by decide +kernel)
set_option maxRecDepth 20000 in
theorem gX3_doLevel_X0_takesKind : GoodIn wsX3_doLevel (wsV RX3 110 RX0 yX0_takesKind wsX0_takesKind) := goodIn_app (goodIn_of _ (by decide +kernel)) ggX3_doLevel_X0_takesKind
set_option maxRecDepth 20000 in
theorem ggX3_doLevel_X3_doThen : GoodIn wsX3_doLevel wsX3_doThen := goodIn_ca (goodIn_ca (goodIn_r _ [48, 2, 1, 3, 15, 16, 17, 18, 19, 20, 21, 4, 5, 6, 7, 8, 9, 10, 35, 36, 37, 38, 43, 44, 45, 46, 47, 39, 40, 41, 14, 42, 11, 12, 13, 0, 22, 23, 24, 25, 26, 27, 28, 29, 30, 31, 32, 33, 34, 49, 50, 51, 52, 53, 54, 55, 56, 57, 58, 59, 60, 61, 62, 63, 64, 65, 66, 67, 68, 69, 70, 71, 72, 73, 74] (by decide +kernel) (by decide +kernel)) (goodIn_sub (fun _ h => List.mem_cons_of_mem _ (List.mem_append_left _ (List.mem_append_right _ h))) (by decide +kernel))) (goodIn_sub (fun _ h => List.mem_cons_of_mem _ (List.mem_append_right _ h)) (by decide +kernel))
set_option maxRecDepth 20000 in
theorem gX3_doLevel_X3_doThen : GoodIn wsX3_doLevel (wsV RX3 113 RX3 yX3_doThen wsX3_doThen) := goodIn_app (goodIn_of _ (by decide +kernel)) ggX3_doLevel_X3_doThen
set_option maxRecDepth 20000 in
theorem ggX3_doLevel_X3_doLast : GoodIn wsX3_doLevel wsX3_doLast := goodIn_ca (goodIn_ca (goodIn_r _ [34, 2, 1, 3, 4, 5, 6, 7, 8, 9, 10, 35, 36, 37, 18, 38, 20, 39, 40, 41, 14, 42, 43, 44, 45, 46, 21, 47, 62, 63, 64, 65, 71, 72, 73, 74, 66, 67, 68, 69, 70] (by decide +kernel) (by decide +kernel)) (goodIn_sub (fun _ h => List.mem_cons_of_mem _ (List.mem_append_left _ (List.mem_append_right _ h))) (by decide +kernel))) (goodIn_sub (fun _ h => List.mem_cons_of_mem _ (List.mem_append_right _ h)) (by decide +kernel))
set_option maxRecDepth 20000 in
theorem gX3_doLevel_X3_doLast : GoodIn wsX3_doLevel (wsV RX3 117 RX3 yX3_doLast wsX3_doLast) := goodIn_app (goodIn_of _ (by decide +kernel)) ggX3_doLevel_X3_doLast
theorem dX3_doLevel_0 : decode cX3_doLevel 0 = .ok (.aload_n 0, 1) := by decide +kernel
theorem dX3_doLevel_1 : decode cX3_doLevel 1 = .ok (.getfield 18, 3) := by decide +kernel
theorem dX3_doLevel_4 : decode cX3_doLevel 4 = .ok (.iload_n 1, 1) := by decide +kernel
theorem dX3_doLevel_5 : decode cX3_doLevel 5 = .ok (.invokevirtual 104, 3) := by decide +kernel
theorem dX3_doLevel_8 : decode cX3_doLevel 8 = .ok (.aload_n 0, 1) := by decide +kernel
theorem dX3_doLevel_9 : decode cX3_doLevel 9 = .ok (.iload_n 1, 1) := by decide +kernel
theorem dX3_doLevel_10 : decode cX3_doLevel 10 = .ok (.iload_n 2, 1) := by decide +kernel
theorem dX3_doLevel_11 : decode cX3_doLevel 11 = .ok (.iload_n 3, 1) := by decide +kernel
theorem dX3_doLevel_12 : decode cX3_doLevel 12 = .ok (.invokevirtual 107, 3) := by decide +kernel
theorem dX3_doLevel_15 : decode cX3_doLevel 15 = .ok (.lstore 4, 2) := by decide +kernel
theorem dX3_doLevel_17 : decode cX3_doLevel 17 = .ok (.aload_n 0, 1) := by decide +kernel
theorem dX3_doLevel_18 : decode cX3_doLevel 18 = .ok (.getfield 11, 3) := by decide +kernel
theorem dX3_doLevel_21 : decode cX3_doLevel 21 = .ok (.iload_n 1, 1) := by decide +kernel
theorem dX3_doLevel_22 : decode cX3_doLevel 22 = .ok (.aaload, 1) := by decide +kernel
theorem dX3_doLevel_23 : decode cX3_doLevel 23 = .ok (.aload_n 0, 1) := by decide +kernel
theorem dX3_doLevel_24 : decode cX3_doLevel 24 = .ok (.getfield 25, 3) := by decide +kernel
theorem dX3_doLevel_27 : decode cX3_doLevel 27 = .ok (.invokevirtual 67, 3) := by decide +kernel
theorem dX3_doLevel_30 : decode cX3_doLevel 30 = .ok (.invokevirtual 110, 3) := by decide +kernel
theorem dX3_doLevel_33 : decode cX3_doLevel 33 = .ok (.ifCond .eq 10, 3) := by decide +kernel
theorem dX3_doLevel_36 : decode cX3_doLevel 36 = .ok (.aload_n 0, 1) := by decide +kernel
theorem dX3_doLevel_37 : decode cX3_doLevel 37 = .ok (.iload_n 1, 1) := by decide +kernel
theorem dX3_doLevel_38 : decode cX3_doLevel 38 = .ok (.invokevirtual 113, 3) := by decide +kernel
theorem dX3_doLevel_41 : decode cX3_doLevel 41 = .ok (.lstore 4, 2) := by decide +kernel
theorem dX3_doLevel_43 : decode cX3_doLevel 43 = .ok (.aload_n 0, 1) := by decide +kernel
theorem dX3_doLevel_44 : decode cX3_doLevel 44 = .ok (.iload_n 1, 1) := by decide +kernel
theorem dX3_doLevel_45 : decode cX3_doLevel 45 = .ok (.lload 4, 2) := by decide +kernel
theorem dX3_doLevel_47 : decode cX3_doLevel 47 = .ok (.invokevirtual 117, 3) := by decide +kernel
theorem dX3_doLevel_50 : decode cX3_doLevel 50 = .ok (.lreturn, 1) := by decide +kernel
set_option maxRecDepth 20000 in
theorem ggX3_goDown_X3_reachBottom : GoodIn wsX3_goDown wsX3_reachBottom := goodIn_ca (goodIn_ca (goodIn_r _ [6, 7, 8, 9, 10, 5, 11, 12, 13, 14, 15, 16, 17, 18, 19, 20, 21, 22, 23, 24, 25, 26, 27, 28, 29, 30, 31, 32, 33, 34, 35, 36, 62, 63, 64, 65, 68, 69, 70, 66, 67] (by decide +kernel) (by decide +kernel)) (goodIn_sub (fun _ h => List.mem_cons_of_mem _ (List.mem_append_left _ (List.mem_append_right _ h))) (by decide +kernel))) (goodIn_sub (fun _ h => List.mem_cons_of_mem _ (List.mem_append_right _ h)) (by decide +kernel))
set_option maxRecDepth 20000 in
theorem gX3_goDown_X3_reachBottom : GoodIn wsX3_goDown (wsV RX3 121 RX3 yX3_reachBottom wsX3_reachBottom) := goodIn_app (goodIn_of _ (by decide +kernel)) ggX3_goDown_X3_reachBottom
set_option maxRecDepth 20000 in
theorem ggX3_goDown_X3_doLevel : GoodIn wsX3_goDown wsX3_doLevel := goodIn_ca (goodIn_ca (goodIn_r _ [40, 29, 1, 12, 30, 31, 32, 33, 34, 35, 36, 41, 42, 43, 5, 44, 45, 46, 16, 47, 18, 23, 48, 49, 50, 51, 52, 53, 54, 55, 56, 57, 58, 59, 60, 13, 14, 15, 17, 8, 9, 10, 11, 19, 20, 21, 22, 24, 61, 0, 2, 3, 4, 6, 7, 25, 26, 27, 28, 37, 38, 39, 62, 63, 64, 65, 66, 67, 68, 69, 70, 71, 72, 73, 74] (by decide +kernel) (by decide +kernel)) (goodIn_sub (fun _ h => List.mem_cons_of_mem _ (List.mem_append_left _ (List.mem_append_right _ h))) (by decide +kernel))) (goodIn_sub (fun _ h => List.mem_cons_of_mem _ (List.mem_append_right _ h)) (by decide +kernel))
set_option maxRecDepth 20000 in
theorem gX3_goDown_X3_doLevel : GoodIn wsX3_goDown (wsV RX3 63 RX3 yX3_doLevel wsX3_doLevel) := goodIn_app (goodIn_of _ (by decide +kernel)) ggX3_goDown_X3_doLevel
theorem dX3_goDown_0 : decode cX3_goDown 0 = .ok (.iload_n 1, 1) := by decide +kernel
theorem dX3_goDown_1 : decode cX3_goDown 1 = .ok (.ifCond .gt 10, 3) := by decide +kernel
theorem dX3_goDown_4 : decode cX3_goDown 4 = .ok (.aload_n 0, 1) := by decide +kernel
theorem dX3_goDown_5 : decode cX3_goDown 5 = .ok (.iload_n 2, 1) := by decide +kernel
theorem dX3_goDown_6 : decode cX3_goDown 6 = .ok (.iload_n 3, 1) := by decide +kernel
theorem dX3_goDown_7 : decode cX3_goDown 7 = .ok (.invokevirtual 121, 3) := by decide +kernel
theorem dX3_goDown_10 : decode cX3_goDown 10 = .ok (.lreturn, 1) := by decide +kernel
theorem dX3_goDown_11 : decode cX3_goDown 11 = .ok (.aload_n 0, 1) := by decide +kernel
theorem dX3_goDown_12 : decode cX3_goDown 12 = .ok (.iload_n 1, 1) := by decide +kernel
theorem dX3_goDown_13 : decode cX3_goDown 13 = .ok (.iconst 1, 1) := by decide +kernel
theorem dX3_goDown_14 : decode cX3_goDown 14 = .ok (.isub, 1) := by decide +kernel
theorem dX3_goDown_15 : decode cX3_goDown 15 = .ok (.iload_n 2, 1) := by decide +kernel
theorem dX3_goDown_16 : decode cX3_goDown 16 = .ok (.iload_n 3, 1) := by decide +kernel
theorem dX3_goDown_17 : decode cX3_goDown 17 = .ok (.invokevirtual 63, 3) := by decide +kernel
theorem dX3_goDown_20 : decode cX3_goDown 20 = .ok (.aload_n 0, 1) := by decide +kernel
theorem dX3_goDown_21 : decode cX3_goDown 21 = .ok (.getfield 11, 3) := by decide +kernel
theorem dX3_goDown_24 : decode cX3_goDown 24 = .ok (.iload_n 1, 1) := by decide +kernel
theorem dX3_goDown_25 : decode cX3_goDown 25 = .ok (.aaload, 1) := by decide +kernel
theorem dX3_goDown_26 : decode cX3_goDown 26 = .ok (.getfield 41, 3) := by decide +kernel
theorem dX3_goDown_29 : decode cX3_goDown 29 = .ok (.i2l, 1) := by decide +kernel
theorem dX3_goDown_30 : decode cX3_goDown 30 = .ok (.ladd, 1) := by decide +kernel
theorem dX3_goDown_31 : decode cX3_goDown 31 = .ok (.lreturn, 1) := by decide +kernel
set_option maxRecDepth 20000 in
theorem ggX3_doThen_X2_kind : GoodIn wsX3_doThen wsX2_kind := goodIn_ca (goodIn_ca (goodIn_r _ [8, 9, 10, 68, 69, 70] (by decide +kernel) (by decide +kernel)) (goodIn_sub (fun _ h => List.mem_cons_of_mem _ (List.mem_append_right _ h)) (by decide +kernel))) (goodIn_sub (fun _ h => List.mem_cons_of_mem _ (List.mem_append_left _ (List.mem_append_right _ h))) (by decide +kernel))
set_option maxRecDepth 20000 in
theorem gX3_doThen_X2_kind : GoodIn wsX3_doThen (wsV RX3 67 RX2 yX2_kind wsX2_kind) := goodIn_app (goodIn_of _ (by decide +kernel)) ggX3_doThen_X2_kind
set_option maxRecDepth 20000 in
theorem ggX3_doThen_X1_add : GoodIn wsX3_doThen wsX1_add := goodIn_ca (goodIn_ca (goodIn_r _ [15, 16, 17, 66, 67] (by decide +kernel) (by decide +kernel)) (goodIn_sub (fun _ h => List.mem_cons_of_mem _ (List.mem_append_left _ (List.mem_append_right _ h))) (by decide +kernel))) (goodIn_sub (fun _ h => List.mem_cons_of_mem _ (List.mem_append_right _ h)) (by decide +kernel))
set_option maxRecDepth 20000 in
theorem gX3_doThen_X1_add : GoodIn wsX3_doThen (wsV RX3 104 RX1 yX1_add wsX1_add) := goodIn_app (goodIn_of _ (by decide +kernel)) ggX3_doThen_X1_add
set_option maxRecDepth 20000 in
theorem ggX3_doThen_X2_drop : GoodIn wsX3_doThen wsX2_drop := goodIn_r _ [21, 9, 68, 69, 70] (by decide +kernel) (by decide +kernel)
set_option maxRecDepth 20000 in
theorem gX3_doThen_X2_drop : GoodIn wsX3_doThen (wsV RX3 60 RX2 yX2_drop wsX2_drop) := goodIn_app (goodIn_of _ (by decide +kernel)) ggX3_doThen_X2_drop
set_option maxRecDepth 20000 in
theorem ggX3_doThen_X2_wrap : GoodIn wsX3_doThen wsX2_wrap := goodIn_ca (goodIn_ca (goodIn_r _ [25, 9, 10, 26, 68, 69, 70] (by decide +kernel) (by decide +kernel)) (goodIn_sub (fun _ h => List.mem_cons_of_mem _ (List.mem_append_right _ h)) (by decide +kernel))) (goodIn_sub (fun _ h => List.mem_cons_of_mem _ (List.mem_append_left _ (List.mem_append_right _ h))) (by decide +kernel))
set_option maxRecDepth 20000 in
theorem gX3_doThen_X2_wrap : GoodIn wsX3_doThen (wsV RX3 125 RX2 yX2_wrap wsX2_wrap) := goodIn_app (goodIn_of _ (by decide +kernel)) ggX3_doThen_X2_wrap
set_option maxRecDepth 20000 in
theorem ggX3_doThen_X3_throwNew : GoodIn wsX3_doThen wsX3_throwNew := goodIn_ca (goodIn_ca (goodIn_r _ [31, 3, 18, 19, 20, 7, 21, 9, 22, 23, 24, 25, 10, 26, 62, 63, 64, 65, 68, 69, 70] (by decide +kernel) (by decide +kernel)) (goodIn_sub (fun _ h => List.mem_cons_of_mem _ (List.mem_append_left _ (List.mem_append_right _ h))) (by decide +kernel))) (goodIn_sub (fun _ h => List.mem_cons_of_mem _ (List.mem_append_right _ h)) (by decide +kernel))
set_option maxRecDepth 20000 in
theorem gX3_doThen_X3_throwNew : GoodIn wsX3_doThen (wsV RX3 129 RX3 yX3_throwNew wsX3_throwNew) := goodIn_app (goodIn_of _ (by decide +kernel)) ggX3_doThen_X3_throwNew
set_option maxRecDepth 20000 in
theorem ggX3_doThen_X3_goDown : GoodIn wsX3_doThen wsX3_goDown := goodIn_ca (goodIn_ca (goodIn_r _ [49, 1, 50, 51, 52, 30, 53, 54, 27, 28, 29, 31, 3, 18, 19, 20, 7, 21, 9, 22, 23, 24, 25, 10, 26, 55, 56, 57, 58, 2, 11, 12, 13, 14, 15, 16, 17, 59, 60, 61, 35, 32, 33, 34, 4, 5, 6, 8, 36, 37, 38, 39, 40, 41, 42, 43, 44, 45, 46, 47, 48, 0, 62, 63, 64, 65, 66, 67, 68, 69, 70, 71, 72, 73, 74] (by decide +kernel) (by decide +kernel)) (goodIn_sub (fun _ h => List.mem_cons_of_mem _ (List.mem_append_left _ (List.mem_append_right _ h))) (by decide +kernel))) (goodIn_sub (fun _ h => List.mem_cons_of_mem _ (List.mem_append_right _ h)) (by decide +kernel))
set_option maxRecDepth 20000 in
theorem gX3_doThen_X3_goDown : GoodIn wsX3_doThen (wsV RX3 107 RX3 yX3_goDown wsX3_goDown) := goodIn_app (goodIn_of _ (by decide +kernel)) ggX3_doThen_X3_goDown
theorem dX3_doThen_0 : decode cX3_doThen 0 = .ok (.aload_n 0, 1) := by decide +kernel
theorem dX3_doThen_1 : decode cX3_doThen 1 = .ok (.getfield 11, 3) := by decide +kernel
theorem dX3_doThen_4 : decode cX3_doThen 4 = .ok (.iload_n 1, 1) := by decide +kernel
theorem dX3_doThen_5 : decode cX3_doThen 5 = .ok (.aaload, 1) := by decide +kernel
theorem dX3_doThen_6 : decode cX3_doThen 6 = .ok (.getfield 41, 3) := by decide +kernel
theorem dX3_doThen_9 : decode cX3_doThen 9 = .ok (.istore_n 2, 1) := by decide +kernel
theorem dX3_doThen_10 : decode cX3_doThen 10 = .ok (.aload_n 0, 1) := by decide +kernel
theorem dX3_doThen_11 : decode cX3_doThen 11 = .ok (.getfield 18, 3) := by decide +kernel
theorem dX3_doThen_14 : decode cX3_doThen 14 = .ok (.bipush 100, 2) := by decide +kernel
theorem dX3_doThen_16 : decode cX3_doThen 16 = .ok (.aload_n 0, 1) := by decide +kernel
theorem dX3_doThen_17 : decode cX3_doThen 17 = .ok (.getfield 25, 3) := by decide +kernel
theorem dX3_doThen_20 : decode cX3_doThen 20 = .ok (.invokevirtual 67, 3) := by decide +kernel
theorem dX3_doThen_23 : decode cX3_doThen 23 = .ok (.imul, 1) := by decide +kernel
theorem dX3_doThen_24 : decode cX3_doThen 24 = .ok (.iload_n 1, 1) := by decide +kernel
theorem dX3_doThen_25 : decode cX3_doThen 25 = .ok (.iadd, 1) := by decide +kernel
theorem dX3_doThen_26 : decode cX3_doThen 26 = .ok (.invokevirtual 104, 3) := by decide +kernel
theorem dX3_doThen_29 : decode cX3_doThen 29 = .ok (.aload_n 0, 1) := by decide +kernel
theorem dX3_doThen_30 : decode cX3_doThen 30 = .ok (.getfield 11, 3) := by decide +kernel
theorem dX3_doThen_33 : decode cX3_doThen 33 = .ok (.iload_n 1, 1) := by decide +kernel
theorem dX3_doThen_34 : decode cX3_doThen 34 = .ok (.aaload, 1) := by decide +kernel
theorem dX3_doThen_35 : decode cX3_doThen 35 = .ok (.getfield 48, 3) := by decide +kernel
theorem dX3_doThen_38 : decode cX3_doThen 38 = .ok (.tableswitch 75 0 4 #[34, 44, 46, 57, 68], 34) := by decide +kernel
theorem dX3_doThen_72 : decode cX3_doThen 72 = .ok (.aload_n 0, 1) := by decide +kernel
theorem dX3_doThen_73 : decode cX3_doThen 73 = .ok (.getfield 25, 3) := by decide +kernel
theorem dX3_doThen_76 : decode cX3_doThen 76 = .ok (.invokevirtual 60, 3) := by decide +kernel
theorem dX3_doThen_79 : decode cX3_doThen 79 = .ok (.iload_n 2, 1) := by decide +kernel
theorem dX3_doThen_80 : decode cX3_doThen 80 = .ok (.i2l, 1) := by decide +kernel
theorem dX3_doThen_81 : decode cX3_doThen 81 = .ok (.lreturn, 1) := by decide +kernel
theorem dX3_doThen_82 : decode cX3_doThen 82 = .ok (.lconst 0, 1) := by decide +kernel
theorem dX3_doThen_83 : decode cX3_doThen 83 = .ok (.lreturn, 1) := by decide +kernel
theorem dX3_doThen_84 : decode cX3_doThen 84 = .ok (.aload_n 0, 1) := by decide +kernel
theorem dX3_doThen_85 : decode cX3_doThen 85 = .ok (.getfield 25, 3) := by decide +kernel
theorem dX3_doThen_88 : decode cX3_doThen 88 = .ok (.iconst 1, 1) := by decide +kernel
theorem dX3_doThen_89 : decode cX3_doThen 89 = .ok (.iload_n 2, 1) := by decide +kernel
theorem dX3_doThen_90 : decode cX3_doThen 90 = .ok (.invokevirtual 125, 3) := by decide +kernel
theorem dX3_doThen_93 : decode cX3_doThen 93 = .ok (.lconst 0, 1) := by decide +kernel
theorem dX3_doThen_94 : decode cX3_doThen 94 = .ok (.lreturn, 1) := by decide +kernel
theorem dX3_doThen_95 : decode cX3_doThen 95 = .ok (.aload_n 0, 1) := by decide +kernel
theorem dX3_doThen_96 : decode cX3_doThen 96 = .ok (.getfield 25, 3) := by decide +kernel
theorem dX3_doThen_99 : decode cX3_doThen 99 = .ok (.iconst 2, 1) := by decide +kernel
theorem dX3_doThen_100 : decode cX3_doThen 100 = .ok (.iload_n 2, 1) := by decide +kernel
theorem dX3_doThen_101 : decode cX3_doThen 101 = .ok (.invokevirtual 125, 3) := by decide +kernel
theorem dX3_doThen_104 : decode cX3_doThen 104 = .ok (.lconst 0, 1) := by decide +kernel
theorem dX3_doThen_105 : decode cX3_doThen 105 = .ok (.lreturn, 1) := by decide +kernel
theorem dX3_doThen_106 : decode cX3_doThen 106 = .ok (.aload_n 0, 1) := by decide +kernel
theorem dX3_doThen_107 : decode cX3_doThen 107 = .ok (.iconst 3, 1) := by decide +kernel
theorem dX3_doThen_108 : decode cX3_doThen 108 = .ok (.iconst 0, 1) := by decide +kernel
theorem dX3_doThen_109 : decode cX3_doThen 109 = .ok (.invokevirtual 129, 3) := by decide +kernel
theorem dX3_doThen_112 : decode cX3_doThen 112 = .ok (.lreturn, 1) := by decide +kernel
theorem dX3_doThen_113 : decode cX3_doThen 113 = .ok (.aload_n 0, 1) := by decide +kernel
theorem dX3_doThen_114 : decode cX3_doThen 114 = .ok (.getfield 25, 3) := by decide +kernel
theorem dX3_doThen_117 : decode cX3_doThen 117 = .ok (.invokevirtual 60, 3) := by decide +kernel
theorem dX3_doThen_120 : decode cX3_doThen 120 = .ok (.aload_n 0, 1) := by decide +kernel
theorem dX3_doThen_121 : decode cX3_doThen 121 = .ok (.iload_n 1, 1) := by decide +kernel
theorem dX3_doThen_122 : decode cX3_doThen 122 = .ok (.iconst 0, 1) := by decide +kernel
theorem dX3_doThen_123 : decode cX3_doThen 123 = .ok (.iload_n 2, 1) := by decide +kernel
theorem dX3_doThen_124 : decode cX3_doThen 124 = .ok (.invokevirtual 107, 3) := by decide +kernel
theorem dX3_doThen_127 : decode cX3_doThen 127 = .ok (.lreturn, 1) := by decide +kernel
set_option maxRecDepth 20000 in
theorem ggX3_doLast_X1_add : GoodIn wsX3_doLast wsX1_add := goodIn_ca (goodIn_ca (goodIn_r _ [8, 9, 10, 36, 37] (by decide +kernel) (by decide +kernel)) (goodIn_sub (fun _ h => List.mem_cons_of_mem _ (List.mem_append_left _ (List.mem_append_right _ h))) (by decide +kernel))) (goodIn_sub (fun _ h => List.mem_cons_of_mem _ (List.mem_append_right _ h)) (by decide +kernel))
set_option maxRecDepth 20000 in
theorem gX3_doLast_X1_add : GoodIn wsX3_doLast (wsV RX3 104 RX1 yX1_add wsX1_add) := goodIn_app (goodIn_of _ (by decide +kernel)) ggX3_doLast_X1_add
set_option maxRecDepth 20000 in
theorem ggX3_doLast_X2_drop : GoodIn wsX3_doLast wsX2_drop := goodIn_r _ [15, 16, 38, 39, 40] (by decide +kernel) (by decide +kernel)
set_option maxRecDepth 20000 in
theorem gX3_doLast_X2_drop : GoodIn wsX3_doLast (wsV RX3 60 RX2 yX2_drop wsX2_drop) := goodIn_app (goodIn_of _ (by decide +kernel)) ggX3_doLast_X2_drop
set_option maxRecDepth 20000 in
theorem ggX3_doLast_X3_throwNew : GoodIn wsX3_doLast wsX3_throwNew := goodIn_ca (goodIn_ca (goodIn_r _ [21, 3, 11, 12, 13, 14, 15, 16, 22, 23, 24, 25, 26, 27, 28, 29, 30, 31, 38, 39, 40] (by decide +kernel) (by decide +kernel)) (goodIn_sub (fun _ h => List.mem_cons_of_mem _ (List.mem_append_left _ (List.mem_append_right _ h))) (by decide +kernel))) (goodIn_sub (fun _ h => List.mem_cons_of_mem _ (List.mem_append_right _ h)) (by decide +kernel))
set_option maxRecDepth 20000 in
theorem gX3_doLast_X3_throwNew : GoodIn wsX3_doLast (wsV RX3 129 RX3 yX3_throwNew wsX3_throwNew) := goodIn_app (goodIn_of _ (by decide +kernel)) ggX3_doLast_X3_throwNew
theorem dX3_doLast_0 : decode cX3_doLast 0 = .ok (.aload_n 0, 1) := by decide +kernel
theorem dX3_doLast_1 : decode cX3_doLast 1 = .ok (.getfield 11, 3) := by decide +kernel
theorem dX3_doLast_4 : decode cX3_doLast 4 = .ok (.iload_n 1, 1) := by decide +kernel
theorem dX3_doLast_5 : decode cX3_doLast 5 = .ok (.aaload, 1) := by decide +kernel
theorem dX3_doLast_6 : decode cX3_doLast 6 = .ok (.getfield 41, 3) := by decide +kernel
theorem dX3_doLast_9 : decode cX3_doLast 9 = .ok (.istore 4, 2) := by decide +kernel
theorem dX3_doLast_11 : decode cX3_doLast 11 = .ok (.aload_n 0, 1) := by decide +kernel
theorem dX3_doLast_12 : decode cX3_doLast 12 = .ok (.getfield 18, 3) := by decide +kernel
theorem dX3_doLast_15 : decode cX3_doLast 15 = .ok (.sipush 600, 3) := by decide +kernel
theorem dX3_doLast_18 : decode cX3_doLast 18 = .ok (.iload_n 1, 1) := by decide +kernel
theorem dX3_doLast_19 : decode cX3_doLast 19 = .ok (.iadd, 1) := by decide +kernel
theorem dX3_doLast_20 : decode cX3_doLast 20 = .ok (.invokevirtual 104, 3) := by decide +kernel
theorem dX3_doLast_23 : decode cX3_doLast 23 = .ok (.aload_n 0, 1) := by decide +kernel
theorem dX3_doLast_24 : decode cX3_doLast 24 = .ok (.getfield 11, 3) := by decide +kernel
theorem dX3_doLast_27 : decode cX3_doLast 27 = .ok (.iload_n 1, 1) := by decide +kernel
theorem dX3_doLast_28 : decode cX3_doLast 28 = .ok (.aaload, 1) := by decide +kernel
theorem dX3_doLast_29 : decode cX3_doLast 29 = .ok (.getfield 51, 3) := by decide +kernel
theorem dX3_doLast_32 : decode cX3_doLast 32 = .ok (.tableswitch 54 1 3 #[28, 39, 47], 28) := by decide +kernel
theorem dX3_doLast_60 : decode cX3_doLast 60 = .ok (.aload_n 0, 1) := by decide +kernel
theorem dX3_doLast_61 : decode cX3_doLast 61 = .ok (.getfield 25, 3) := by decide +kernel
theorem dX3_doLast_64 : decode cX3_doLast 64 = .ok (.invokevirtual 60, 3) := by decide +kernel
theorem dX3_doLast_67 : decode cX3_doLast 67 = .ok (.iload 4, 2) := by decide +kernel
theorem dX3_doLast_69 : decode cX3_doLast 69 = .ok (.i2l, 1) := by decide +kernel
theorem dX3_doLast_70 : decode cX3_doLast 70 = .ok (.lreturn, 1) := by decide +kernel
theorem dX3_doLast_71 : decode cX3_doLast 71 = .ok (.aload_n 0, 1) := by decide +kernel
theorem dX3_doLast_72 : decode cX3_doLast 72 = .ok (.iconst 1, 1) := by decide +kernel
theorem dX3_doLast_73 : decode cX3_doLast 73 = .ok (.iload 4, 2) := by decide +kernel
theorem dX3_doLast_75 : decode cX3_doLast 75 = .ok (.invokevirtual 129, 3) := by decide +kernel
theorem dX3_doLast_78 : decode cX3_doLast 78 = .ok (.lreturn, 1) := by decide +kernel
theorem dX3_doLast_79 : decode cX3_doLast 79 = .ok (.aload_n 0, 1) := by decide +kernel
theorem dX3_doLast_80 : decode cX3_doLast 80 = .ok (.iconst 3, 1) := by decide +kernel
theorem dX3_doLast_81 : decode cX3_doLast 81 = .ok (.iconst 0, 1) := by decide +kernel
theorem dX3_doLast_82 : decode cX3_doLast 82 = .ok (.invokevirtual 129, 3) := by decide +kernel
theorem dX3_doLast_85 : decode cX3_doLast 85 = .ok (.lreturn, 1) := by decide +kernel
theorem dX3_doLast_86 : decode cX3_doLast 86 = .ok (.lload_n 2, 1) := by decide +kernel
theorem dX3_doLast_87 : decode cX3_doLast 87 = .ok (.lreturn, 1) := by decide +kernel
set_option maxRecDepth 20000 in
theorem ggX3_reachBottom_X3_throwNew : GoodIn wsX3_reachBottom wsX3_throwNew := goodIn_ca (goodIn_ca (goodIn_r _ [6, 7, 8, 9, 10, 11, 12, 13, 14, 15, 16, 17, 18, 19, 32, 33, 34, 35, 36, 37, 38] (by decide +kernel) (by decide +kernel)) (goodIn_sub (fun _ h => List.mem_cons_of_mem _ (List.mem_append_left _ (List.mem_append_right _ h))) (by decide +kernel))) (goodIn_sub (fun _ h => List.mem_cons_of_mem _ (List.mem_append_right _ h)) (by decide +kernel))
set_option maxRecDepth 20000 in
theorem gX3_reachBottom_X3_throwNew : GoodIn wsX3_reachBottom (wsV RX3 129 RX3 yX3_throwNew wsX3_throwNew) := goodIn_app (goodIn_of _ (by decide +kernel)) ggX3_reachBottom_X3_throwNew
set_option maxRecDepth 20000 in
theorem ggX3_reachBottom_X3_throwFromWithin : GoodIn wsX3_reachBottom wsX3_throwFromWithin := goodIn_ca (goodIn_ca (goodIn_r _ [23, 24, 25, 26, 27, 28, 29, 30, 31, 2, 3, 4, 5, 6, 7, 8, 9, 10, 11, 12, 13, 14, 15, 16, 17, 18, 19, 32, 33, 34, 35, 39, 40, 36, 37, 38] (by decide +kernel) (by decide +kernel)) (goodIn_sub (fun _ h => List.mem_cons_of_mem _ (List.mem_append_left _ (List.mem_append_right _ h))) (by decide +kernel))) (goodIn_sub (fun _ h => List.mem_cons_of_mem _ (List.mem_append_right _ h)) (by decide +kernel))
set_option maxRecDepth 20000 in
theorem gX3_reachBottom_X3_throwFromWithin : GoodIn wsX3_reachBottom (wsV RX3 134 RX3 yX3_throwFromWithin wsX3_throwFromWithin) := goodIn_app (goodIn_of _ (by decide +kernel)) ggX3_reachBottom_X3_throwFromWithin
theorem dX3_reachBottom_0 : decode cX3_reachBottom 0 = .ok (.iload_n 1, 1) := by decide +kernel
theorem dX3_reachBottom_1 : decode cX3_reachBottom 1 = .ok (.tableswitch 99 1 7 #[43, 50, 57, 64, 64, 71, 93], 43) := by decide +kernel
theorem dX3_reachBottom_44 : decode cX3_reachBottom 44 = .ok (.aload_n 0, 1) := by decide +kernel
theorem dX3_reachBottom_45 : decode cX3_reachBottom 45 = .ok (.iconst 1, 1) := by decide +kernel
theorem dX3_reachBottom_46 : decode cX3_reachBottom 46 = .ok (.iload_n 2, 1) := by decide +kernel
theorem dX3_reachBottom_47 : decode cX3_reachBottom 47 = .ok (.invokevirtual 129, 3) := by decide +kernel
theorem dX3_reachBottom_50 : decode cX3_reachBottom 50 = .ok (.lreturn, 1) := by decide +kernel
theorem dX3_reachBottom_51 : decode cX3_reachBottom 51 = .ok (.aload_n 0, 1) := by decide +kernel
theorem dX3_reachBottom_52 : decode cX3_reachBottom 52 = .ok (.iconst 2, 1) := by decide +kernel
theorem dX3_reachBottom_53 : decode cX3_reachBottom 53 = .ok (.iload_n 2, 1) := by decide +kernel
theorem dX3_reachBottom_54 : decode cX3_reachBottom 54 = .ok (.invokevirtual 129, 3) := by decide +kernel
theorem dX3_reachBottom_57 : decode cX3_reachBottom 57 = .ok (.lreturn, 1) := by decide +kernel
theorem dX3_reachBottom_58 : decode cX3_reachBottom 58 = .ok (.aload_n 0, 1) := by decide +kernel
theorem dX3_reachBottom_59 : decode cX3_reachBottom 59 = .ok (.iconst 3, 1) := by decide +kernel
theorem dX3_reachBottom_60 : decode cX3_reachBottom 60 = .ok (.iconst 0, 1) := by decide +kernel
theorem dX3_reachBottom_61 : decode cX3_reachBottom 61 = .ok (.invokevirtual 129, 3) := by decide +kernel
theorem dX3_reachBottom_64 : decode cX3_reachBottom 64 = .ok (.lreturn, 1) := by decide +kernel
theorem dX3_reachBottom_65 : decode cX3_reachBottom 65 = .ok (.aload_n 0, 1) := by decide +kernel
theorem dX3_reachBottom_66 : decode cX3_reachBottom 66 = .ok (.iconst 4, 1) := by decide +kernel
theorem dX3_reachBottom_67 : decode cX3_reachBottom 67 = .ok (.iconst 0, 1) := by decide +kernel
theorem dX3_reachBottom_68 : decode cX3_reachBottom 68 = .ok (.invokevirtual 129, 3) := by decide +kernel
theorem dX3_reachBottom_71 : decode cX3_reachBottom 71 = .ok (.lreturn, 1) := by decide +kernel
theorem dX3_reachBottom_72 : decode cX3_reachBottom 72 = .ok (.iload_n 2, 1) := by decide +kernel
theorem dX3_reachBottom_73 : decode cX3_reachBottom 73 = .ok (.ifCond .lt 14, 3) := by decide +kernel
theorem dX3_reachBottom_76 : decode cX3_reachBottom 76 = .ok (.iload_n 2, 1) := by decide +kernel
theorem dX3_reachBottom_77 : decode cX3_reachBottom 77 = .ok (.iconst 3, 1) := by decide +kernel
theorem dX3_reachBottom_78 : decode cX3_reachBottom 78 = .ok (.if_icmp .ge 9, 3) := by decide +kernel
theorem dX3_reachBottom_81 : decode cX3_reachBottom 81 = .ok (.ldc2_w 132, 3) := by decide +kernel
theorem dX3_reachBottom_84 : decode cX3_reachBottom 84 = .ok (.goto 9, 3) := by decide +kernel
theorem dX3_reachBottom_87 : decode cX3_reachBottom 87 = .ok (.aload_n 0, 1) := by decide +kernel
theorem dX3_reachBottom_88 : decode cX3_reachBottom 88 = .ok (.iconst 5, 1) := by decide +kernel
theorem dX3_reachBottom_89 : decode cX3_reachBottom 89 = .ok (.iconst 0, 1) := by decide +kernel
theorem dX3_reachBottom_90 : decode cX3_reachBottom 90 = .ok (.invokevirtual 129, 3) := by decide +kernel
theorem dX3_reachBottom_93 : decode cX3_reachBottom 93 = .ok (.lreturn, 1) := by decide +kernel
theorem dX3_reachBottom_94 : decode cX3_reachBottom 94 = .ok (.aload_n 0, 1) := by decide +kernel
theorem dX3_reachBottom_95 : decode cX3_reachBottom 95 = .ok (.iload_n 2, 1) := by decide +kernel
theorem dX3_reachBottom_96 : decode cX3_reachBottom 96 = .ok (.invokevirtual 134, 3) := by decide +kernel
theorem dX3_reachBottom_99 : decode cX3_reachBottom 99 = .ok (.lreturn, 1) := by decide +kernel
theorem dX3_reachBottom_100 : decode cX3_reachBottom 100 = .ok (.iload_n 2, 1) := by decide +kernel
theorem dX3_reachBottom_101 : decode cX3_reachBottom 101 = .ok (.i2l, 1) := by decide +kernel
theorem dX3_reachBottom_102 : decode cX3_reachBottom 102 = .ok (.lreturn, 1) := by decide +kernel
set_option maxRecDepth 20000 in
theorem ggX3_throwFromWithin_X1_add : GoodIn wsX3_throwFromWithin wsX1_add := goodIn_ca (goodIn_ca (goodIn_r _ [6, 7, 8, 31, 32] (by decide +kernel) (by decide +kernel)) (goodIn_sub (fun _ h => List.mem_cons_of_mem _ (List.mem_append_left _ (List.mem_append_right _ h))) (by decide +kernel))) (goodIn_sub (fun _ h => List.mem_cons_of_mem _ (List.mem_append_right _ h)) (by decide +kernel))
set_option maxRecDepth 20000 in
theorem gX3_throwFromWithin_X1_add : GoodIn wsX3_throwFromWithin (wsV RX3 104 RX1 yX1_add wsX1_add) := goodIn_app (goodIn_of _ (by decide +kernel)) ggX3_throwFromWithin_X1_add
set_option maxRecDepth 20000 in
theorem ggX3_throwFromWithin_X3_throwNew : GoodIn wsX3_throwFromWithin wsX3_throwNew := goodIn_ca (goodIn_ca (goodIn_r _ [13, 14, 15, 16, 17, 18, 19, 20, 21, 22, 23, 24, 25, 26, 27, 28, 29, 30, 33, 34, 35] (by decide +kernel) (by decide +kernel)) (goodIn_sub (fun _ h => List.mem_cons_of_mem _ (List.mem_append_left _ (List.mem_append_right _ h))) (by decide +kernel))) (goodIn_sub (fun _ h => List.mem_cons_of_mem _ (List.mem_append_right _ h)) (by decide +kernel))
set_option maxRecDepth 20000 in
theorem gX3_throwFromWithin_X3_throwNew : GoodIn wsX3_throwFromWithin (wsV RX3 129 RX3 yX3_throwNew wsX3_throwNew) := goodIn_app (goodIn_of _ (by decide +kernel)) ggX3_throwFromWithin_X3_throwNew
theorem dX3_throwFromWithin_0 : decode cX3_throwFromWithin 0 = .ok (.iconst 0, 1) := by decide +kernel
theorem dX3_throwFromWithin_1 : decode cX3_throwFromWithin 1 = .ok (.istore_n 2, 1) := by decide +kernel
theorem dX3_throwFromWithin_2 : decode cX3_throwFromWithin 2 = .ok (.iload_n 2, 1) := by decide +kernel
theorem dX3_throwFromWithin_3 : decode cX3_throwFromWithin 3 = .ok (.iconst 3, 1) := by decide +kernel
theorem dX3_throwFromWithin_4 : decode cX3_throwFromWithin 4 = .ok (.if_icmp .ge 24, 3) := by decide +kernel
theorem dX3_throwFromWithin_7 : decode cX3_throwFromWithin 7 = .ok (.aload_n 0, 1) := by decide +kernel
theorem dX3_throwFromWithin_8 : decode cX3_throwFromWithin 8 = .ok (.getfield 18, 3) := by decide +kernel
theorem dX3_throwFromWithin_11 : decode cX3_throwFromWithin 11 = .ok (.sipush 700, 3) := by decide +kernel
theorem dX3_throwFromWithin_14 : decode cX3_throwFromWithin 14 = .ok (.iload_n 1, 1) := by decide +kernel
theorem dX3_throwFromWithin_15 : decode cX3_throwFromWithin 15 = .ok (.bipush 100, 2) := by decide +kernel
theorem dX3_throwFromWithin_17 : decode cX3_throwFromWithin 17 = .ok (.irem, 1) := by decide +kernel
theorem dX3_throwFromWithin_18 : decode cX3_throwFromWithin 18 = .ok (.iadd, 1) := by decide +kernel
theorem dX3_throwFromWithin_19 : decode cX3_throwFromWithin 19 = .ok (.invokevirtual 104, 3) := by decide +kernel
theorem dX3_throwFromWithin_22 : decode cX3_throwFromWithin 22 = .ok (.iinc 2 1, 3) := by decide +kernel
theorem dX3_throwFromWithin_25 : decode cX3_throwFromWithin 25 = .ok (.goto (-23), 3) := by decide +kernel
theorem dX3_throwFromWithin_28 : decode cX3_throwFromWithin 28 = .ok (.aload_n 0, 1) := by decide +kernel
theorem dX3_throwFromWithin_29 : decode cX3_throwFromWithin 29 = .ok (.iconst 1, 1) := by decide +kernel
theorem dX3_throwFromWithin_30 : decode cX3_throwFromWithin 30 = .ok (.iload_n 1, 1) := by decide +kernel
theorem dX3_throwFromWithin_31 : decode cX3_throwFromWithin 31 = .ok (.invokevirtual 129, 3) := by decide +kernel
theorem dX3_throwFromWithin_34 : decode cX3_throwFromWithin 34 = .ok (.lreturn, 1) := by decide +kernel
set_option maxRecDepth 20000 in
theorem ggX3_throwNew_X2_drop : GoodIn wsX3_throwNew wsX2_drop := goodIn_r _ [6, 7, 18, 19, 20] (by decide +kernel) (by decide +kernel)
set_option maxRecDepth 20000 in
theorem gX3_throwNew_X2_drop : GoodIn wsX3_throwNew (wsV RX3 60 RX2 yX2_drop wsX2_drop) := goodIn_app (goodIn_of _ (by decide +kernel)) ggX3_throwNew_X2_drop
set_option maxRecDepth 20000 in
theorem ggX3_throwNew_X2_wrap : GoodIn wsX3_throwNew wsX2_wrap := goodIn_ca (goodIn_ca (goodIn_r _ [11, 7, 12, 13, 18, 19, 20] (by decide +kernel) (by decide +kernel)) (goodIn_sub (fun _ h => List.mem_cons_of_mem _ (List.mem_append_right _ h)) (by decide +kernel))) (goodIn_sub (fun _ h => List.mem_cons_of_mem _ (List.mem_append_left _ (List.mem_append_right _ h))) (by decide +kernel))
set_option maxRecDepth 20000 in
theorem gX3_throwNew_X2_wrap : GoodIn wsX3_throwNew (wsV RX3 125 RX2 yX2_wrap wsX2_wrap) := goodIn_app (goodIn_of _ (by decide +kernel)) ggX3_throwNew_X2_wrap
theorem dX3_throwNew_0 : decode cX3_throwNew 0 = .ok (.aload_n 0, 1) := by decide +kernel
theorem dX3_throwNew_1 : decode cX3_throwNew 1 = .ok (.getfield 25, 3) := by decide +kernel
theorem dX3_throwNew_4 : decode cX3_throwNew 4 = .ok (.invokevirtual 60, 3) := by decide +kernel
theorem dX3_throwNew_7 : decode cX3_throwNew 7 = .ok (.aload_n 0, 1) := by decide +kernel
theorem dX3_throwNew_8 : decode cX3_throwNew 8 = .ok (.getfield 25, 3) := by decide +kernel
theorem dX3_throwNew_11 : decode cX3_throwNew 11 = .ok (.iload_n 1, 1) := by decide +kernel
theorem dX3_throwNew_12 : decode cX3_throwNew 12 = .ok (.iload_n 2, 1) := by decide +kernel
theorem dX3_throwNew_13 : decode cX3_throwNew 13 = .ok (.invokevirtual 125, 3) := by decide +kernel
theorem dX3_throwNew_16 : decode cX3_throwNew 16 = .ok (.lconst 0, 1) := by decide +kernel
theorem dX3_throwNew_17 : decode cX3_throwNew 17 = .ok (.lreturn, 1) := by decide +kernel
theorem dX3_throwOut_0 : decode cX3_throwOut 0 = .ok (.iload_n 0, 1) := by decide +kernel
theorem dX3_throwOut_1 : decode cX3_throwOut 1 = .ok (.tableswitch 85 1 5 #[35, 45, 55, 65, 75], 35) := by decide +kernel
theorem dX3_throwOut_36 : decode cX3_throwOut 36 = .ok (.new 137, 3) := by decide +kernel
theorem dX3_throwOut_39 : decode cX3_throwOut 39 = .ok (.dup, 1) := by decide +kernel
theorem dX3_throwOut_40 : decode cX3_throwOut 40 = .ok (.ldc 139, 2) := by decide +kernel
theorem dX3_throwOut_42 : decode cX3_throwOut 42 = .ok (.invokespecial 141, 3) := by decide +kernel
theorem dX3_throwOut_45 : decode cX3_throwOut 45 = .ok (.athrow, 1) := by decide +kernel
theorem dX3_throwOut_46 : decode cX3_throwOut 46 = .ok (.new 142, 3) := by decide +kernel
theorem dX3_throwOut_49 : decode cX3_throwOut 49 = .ok (.dup, 1) := by decide +kernel
theorem dX3_throwOut_50 : decode cX3_throwOut 50 = .ok (.ldc 144, 2) := by decide +kernel
theorem dX3_throwOut_52 : decode cX3_throwOut 52 = .ok (.invokespecial 146, 3) := by decide +kernel
theorem dX3_throwOut_55 : decode cX3_throwOut 55 = .ok (.athrow, 1) := by decide +kernel
theorem dX3_throwOut_56 : decode cX3_throwOut 56 = .ok (.new 147, 3) := by decide +kernel
theorem dX3_throwOut_59 : decode cX3_throwOut 59 = .ok (.dup, 1) := by decide +kernel
theorem dX3_throwOut_60 : decode cX3_throwOut 60 = .ok (.ldc 149, 2) := by decide +kernel
theorem dX3_throwOut_62 : decode cX3_throwOut 62 = .ok (.invokespecial 151, 3) := by decide +kernel
theorem dX3_throwOut_65 : decode cX3_throwOut 65 = .ok (.athrow, 1) := by decide +kernel
theorem dX3_throwOut_66 : decode cX3_throwOut 66 = .ok (.new 99, 3) := by decide +kernel
theorem dX3_throwOut_69 : decode cX3_throwOut 69 = .ok (.dup, 1) := by decide +kernel
theorem dX3_throwOut_70 : decode cX3_throwOut 70 = .ok (.ldc 152, 2) := by decide +kernel
theorem dX3_throwOut_72 : decode cX3_throwOut 72 = .ok (.invokespecial 103, 3) := by decide +kernel
theorem dX3_throwOut_75 : decode cX3_throwOut 75 = .ok (.athrow, 1) := by decide +kernel
theorem dX3_throwOut_76 : decode cX3_throwOut 76 = .ok (.new 34, 3) := by decide +kernel
theorem dX3_throwOut_79 : decode cX3_throwOut 79 = .ok (.dup, 1) := by decide +kernel
theorem dX3_throwOut_80 : decode cX3_throwOut 80 = .ok (.ldc 154, 2) := by decide +kernel
theorem dX3_throwOut_82 : decode cX3_throwOut 82 = .ok (.invokespecial 38, 3) := by decide +kernel
theorem dX3_throwOut_85 : decode cX3_throwOut 85 = .ok (.athrow, 1) := by decide +kernel
theorem dX3_throwOut_86 : decode cX3_throwOut 86 = .ok (.return_, 1) := by decide +kernel
theorem dX4_init_0 : decode cX4_init 0 = .ok (.aload_n 0, 1) := by decide +kernel
theorem dX4_init_1 : decode cX4_init 1 = .ok (.invokespecial 1, 3) := by decide +kernel
theorem dX4_init_4 : decode cX4_init 4 = .ok (.aload_n 0, 1) := by decide +kernel
theorem dX4_init_5 : decode cX4_init 5 = .ok (.bipush 6, 2) := by decide +kernel
theorem dX4_init_7 : decode cX4_init 7 = .ok (.newarray .int, 2) := by decide +kernel
theorem dX4_init_9 : decode cX4_init 9 = .ok (.putfield 7, 3) := by decide +kernel
theorem dX4_init_12 : decode cX4_init 12 = .ok (.aload_n 0, 1) := by decide +kernel
theorem dX4_init_13 : decode cX4_init 13 = .ok (.bipush 6, 2) := by decide +kernel
theorem dX4_init_15 : decode cX4_init 15 = .ok (.newarray .int, 2) := by decide +kernel
theorem dX4_init_17 : decode cX4_init 17 = .ok (.putfield 13, 3) := by decide +kernel
theorem dX4_init_20 : decode cX4_init 20 = .ok (.aload_n 0, 1) := by decide +kernel
theorem dX4_init_21 : decode cX4_init 21 = .ok (.bipush 6, 2) := by decide +kernel
theorem dX4_init_23 : decode cX4_init 23 = .ok (.newarray .int, 2) := by decide +kernel
theorem dX4_init_25 : decode cX4_init 25 = .ok (.putfield 16, 3) := by decide +kernel
theorem dX4_init_28 : decode cX4_init 28 = .ok (.aload_n 0, 1) := by decide +kernel
theorem dX4_init_29 : decode cX4_init 29 = .ok (.bipush 6, 2) := by decide +kernel
theorem dX4_init_31 : decode cX4_init 31 = .ok (.newarray .int, 2) := by decide +kernel
theorem dX4_init_33 : decode cX4_init 33 = .ok (.putfield 19, 3) := by decide +kernel
theorem dX4_init_36 : decode cX4_init 36 = .ok (.aload_n 0, 1) := by decide +kernel
theorem dX4_init_37 : decode cX4_init 37 = .ok (.bipush 64, 2) := by decide +kernel
theorem dX4_init_39 : decode cX4_init 39 = .ok (.newarray .int, 2) := by decide +kernel
theorem dX4_init_41 : decode cX4_init 41 = .ok (.putfield 22, 3) := by decide +kernel
theorem dX4_init_44 : decode cX4_init 44 = .ok (.aload_n 0, 1) := by decide +kernel
theorem dX4_init_45 : decode cX4_init 45 = .ok (.sipush 4096, 3) := by decide +kernel
theorem dX4_init_48 : decode cX4_init 48 = .ok (.newarray .int, 2) := by decide +kernel
theorem dX4_init_50 : decode cX4_init 50 = .ok (.putfield 25, 3) := by decide +kernel
theorem dX4_init_53 : decode cX4_init 53 = .ok (.aload_n 0, 1) := by decide +kernel
theorem dX4_init_54 : decode cX4_init 54 = .ok (.sipush 4096, 3) := by decide +kernel
theorem dX4_init_57 : decode cX4_init 57 = .ok (.newarray .int, 2) := by decide +kernel
theorem dX4_init_59 : decode cX4_init 59 = .ok (.putfield 28, 3) := by decide +kernel
theorem dX4_init_62 : decode cX4_init 62 = .ok (.aload_n 0, 1) := by decide +kernel
theorem dX4_init_63 : decode cX4_init 63 = .ok (.sipush 4096, 3) := by decide +kernel
theorem dX4_init_66 : decode cX4_init 66 = .ok (.newarray .int, 2) := by decide +kernel
theorem dX4_init_68 : decode cX4_init 68 = .ok (.putfield 31, 3) := by decide +kernel
theorem dX4_init_71 : decode cX4_init 71 = .ok (.aload_n 0, 1) := by decide +kernel
theorem dX4_init_72 : decode cX4_init 72 = .ok (.iconst (-1), 1) := by decide +kernel
theorem dX4_init_73 : decode cX4_init 73 = .ok (.putfield 34, 3) := by decide +kernel
theorem dX4_init_76 : decode cX4_init 76 = .ok (.aload_n 0, 1) := by decide +kernel
theorem dX4_init_77 : decode cX4_init 77 = .ok (.bipush 6, 2) := by decide +kernel
theorem dX4_init_79 : decode cX4_init 79 = .ok (.newarray .int, 2) := by decide +kernel
theorem dX4_init_81 : decode cX4_init 81 = .ok (.putfield 38, 3) := by decide +kernel
theorem dX4_init_84 : decode cX4_init 84 = .ok (.return_, 1) := by decide +kernel
theorem dX4_thrown_0 : decode cX4_thrown 0 = .ok (.aload_n 0, 1) := by decide +kernel
theorem dX4_thrown_1 : decode cX4_thrown 1 = .ok (.getfield 41, 3) := by decide +kernel
theorem dX4_thrown_4 : decode cX4_thrown 4 = .ok (.ireturn, 1) := by decide +kernel
theorem dX4_good_0 : decode cX4_good 0 = .ok (.aload_n 0, 1) := by decide +kernel
theorem dX4_good_1 : decode cX4_good 1 = .ok (.iload_n 1, 1) := by decide +kernel
theorem dX4_good_2 : decode cX4_good 2 = .ok (.ifCond .eq 7, 3) := by decide +kernel
theorem dX4_good_5 : decode cX4_good 5 = .ok (.iconst 0, 1) := by decide +kernel
theorem dX4_good_6 : decode cX4_good 6 = .ok (.goto 4, 3) := by decide +kernel
theorem dX4_good_9 : decode cX4_good 9 = .ok (.iload_n 2, 1) := by decide +kernel
theorem dX4_good_10 : decode cX4_good 10 = .ok (.putfield 41, 3) := by decide +kernel
theorem dX4_good_13 : decode cX4_good 13 = .ok (.iload_n 1, 1) := by decide +kernel
theorem dX4_good_14 : decode cX4_good 14 = .ok (.ireturn, 1) := by decide +kernel
theorem dX4_isLevel_0 : decode cX4_isLevel 0 = .ok (.iload_n 0, 1) := by decide +kernel
theorem dX4_isLevel_1 : decode cX4_isLevel 1 = .ok (.ifCond .lt 13, 3) := by decide +kernel
theorem dX4_isLevel_4 : decode cX4_isLevel 4 = .ok (.iload_n 0, 1) := by decide +kernel
theorem dX4_isLevel_5 : decode cX4_isLevel 5 = .ok (.bipush 6, 2) := by decide +kernel
theorem dX4_isLevel_7 : decode cX4_isLevel 7 = .ok (.if_icmp .ge 7, 3) := by decide +kernel
theorem dX4_isLevel_10 : decode cX4_isLevel 10 = .ok (.iconst 1, 1) := by decide +kernel
theorem dX4_isLevel_11 : decode cX4_isLevel 11 = .ok (.goto 4, 3) := by decide +kernel
theorem dX4_isLevel_14 : decode cX4_isLevel 14 = .ok (.iconst 0, 1) := by decide +kernel
theorem dX4_isLevel_15 : decode cX4_isLevel 15 = .ok (.ireturn, 1) := by decide +kernel
set_option maxRecDepth 20000 in
theorem ggX4_set_X4_isLevel : GoodIn wsX4_set wsX4_isLevel := goodIn_r _ [8] (by decide +kernel) (by decide +kernel)
set_option maxRecDepth 20000 in
theorem gX4_set_X4_isLevel : GoodIn wsX4_set (va_wsS RX4 44 yX4_isLevel wsX4_isLevel) := goodIn_app (goodIn_of _ (by decide +kernel)) ggX4_set_X4_isLevel
set_option maxRecDepth 20000 in
theorem ggX4_set_X4_good : GoodIn wsX4_set wsX4_good := goodIn_ca (goodIn_r _ [12, 13, 14, 15, 16, 17, 18, 19, 20, 21, 22, 23, 24, 25, 26, 27, 28] (by decide +kernel) (by decide +kernel)) (goodIn_sub (fun _ h => List.mem_cons_of_mem _ (List.mem_append_left _ (List.mem_append_right _ h))) (by decide +kernel))
set_option maxRecDepth 20000 in
theorem gX4_set_X4_good : GoodIn wsX4_set (wsV RX4 48 RX4 yX4_good wsX4_good) := goodIn_app (goodIn_of _ (by decide +kernel)) ggX4_set_X4_good
theorem dX4_set_0 : decode cX4_set 0 = .ok (.aload_n 0, 1) := by decide +kernel
theorem dX4_set_1 : decode cX4_set 1 = .ok (.iload_n 1, 1) := by decide +kernel
theorem dX4_set_2 : decode cX4_set 2 = .ok (.invokestatic 44, 3) := by decide +kernel
theorem dX4_set_5 : decode cX4_set 5 = .ok (.iconst 1, 1) := by decide +kernel
theorem dX4_set_6 : decode cX4_set 6 = .ok (.invokevirtual 48, 3) := by decide +kernel
theorem dX4_set_9 : decode cX4_set 9 = .ok (.ifCond .ne 5, 3) := by decide +kernel
theorem dX4_set_12 : decode cX4_set 12 = .ok (.iconst 0, 1) := by decide +kernel
theorem dX4_set_13 : decode cX4_set 13 = .ok (.ireturn, 1) := by decide +kernel
theorem dX4_set_14 : decode cX4_set 14 = .ok (.aload_n 0, 1) := by decide +kernel
theorem dX4_set_15 : decode cX4_set 15 = .ok (.getfield 19, 3) := by decide +kernel
theorem dX4_set_18 : decode cX4_set 18 = .ok (.iload_n 1, 1) := by decide +kernel
theorem dX4_set_19 : decode cX4_set 19 = .ok (.iaload, 1) := by decide +kernel
theorem dX4_set_20 : decode cX4_set 20 = .ok (.istore 6, 2) := by decide +kernel
theorem dX4_set_22 : decode cX4_set 22 = .ok (.aload_n 0, 1) := by decide +kernel
theorem dX4_set_23 : decode cX4_set 23 = .ok (.getfield 7, 3) := by decide +kernel
theorem dX4_set_26 : decode cX4_set 26 = .ok (.iload_n 1, 1) := by decide +kernel
theorem dX4_set_27 : decode cX4_set 27 = .ok (.iload_n 2, 1) := by decide +kernel
theorem dX4_set_28 : decode cX4_set 28 = .ok (.iastore, 1) := by decide +kernel
theorem dX4_set_29 : decode cX4_set 29 = .ok (.aload_n 0, 1) := by decide +kernel
theorem dX4_set_30 : decode cX4_set 30 = .ok (.getfield 13, 3) := by decide +kernel
theorem dX4_set_33 : decode cX4_set 33 = .ok (.iload_n 1, 1) := by decide +kernel
theorem dX4_set_34 : decode cX4_set 34 = .ok (.iload_n 3, 1) := by decide +kernel
theorem dX4_set_35 : decode cX4_set 35 = .ok (.iastore, 1) := by decide +kernel
theorem dX4_set_36 : decode cX4_set 36 = .ok (.aload_n 0, 1) := by decide +kernel
theorem dX4_set_37 : decode cX4_set 37 = .ok (.getfield 16, 3) := by decide +kernel
theorem dX4_set_40 : decode cX4_set 40 = .ok (.iload_n 1, 1) := by decide +kernel
theorem dX4_set_41 : decode cX4_set 41 = .ok (.iload 4, 2) := by decide +kernel
theorem dX4_set_43 : decode cX4_set 43 = .ok (.iastore, 1) := by decide +kernel
theorem dX4_set_44 : decode cX4_set 44 = .ok (.aload_n 0, 1) := by decide +kernel
theorem dX4_set_45 : decode cX4_set 45 = .ok (.getfield 19, 3) := by decide +kernel
theorem dX4_set_48 : decode cX4_set 48 = .ok (.iload_n 1, 1) := by decide +kernel
theorem dX4_set_49 : decode cX4_set 49 = .ok (.iload 5, 2) := by decide +kernel
theorem dX4_set_51 : decode cX4_set 51 = .ok (.iastore, 1) := by decide +kernel
theorem dX4_set_52 : decode cX4_set 52 = .ok (.iload 6, 2) := by decide +kernel
theorem dX4_set_54 : decode cX4_set 54 = .ok (.ireturn, 1) := by decide +kernel
theorem dX4_note0_0 : decode cX4_note0 0 = .ok (.aload_n 0, 1) := by decide +kernel
theorem dX4_note0_1 : decode cX4_note0 1 = .ok (.getfield 52, 3) := by decide +kernel
theorem dX4_note0_4 : decode cX4_note0 4 = .ok (.bipush 64, 2) := by decide +kernel
theorem dX4_note0_6 : decode cX4_note0 6 = .ok (.if_icmp .ge 13, 3) := by decide +kernel
theorem dX4_note0_9 : decode cX4_note0 9 = .ok (.aload_n 0, 1) := by decide +kernel
theorem dX4_note0_10 : decode cX4_note0 10 = .ok (.getfield 22, 3) := by decide +kernel
theorem dX4_note0_13 : decode cX4_note0 13 = .ok (.aload_n 0, 1) := by decide +kernel
theorem dX4_note0_14 : decode cX4_note0 14 = .ok (.getfield 52, 3) := by decide +kernel
theorem dX4_note0_17 : decode cX4_note0 17 = .ok (.iload_n 1, 1) := by decide +kernel
theorem dX4_note0_18 : decode cX4_note0 18 = .ok (.iastore, 1) := by decide +kernel
theorem dX4_note0_19 : decode cX4_note0 19 = .ok (.aload_n 0, 1) := by decide +kernel
theorem dX4_note0_20 : decode cX4_note0 20 = .ok (.dup, 1) := by decide +kernel
theorem dX4_note0_21 : decode cX4_note0 21 = .ok (.getfield 52, 3) := by decide +kernel
theorem dX4_note0_24 : decode cX4_note0 24 = .ok (.iconst 1, 1) := by decide +kernel
theorem dX4_note0_25 : decode cX4_note0 25 = .ok (.iadd, 1) := by decide +kernel
theorem dX4_note0_26 : decode cX4_note0 26 = .ok (.putfield 52, 3) := by decide +kernel
theorem dX4_note0_29 : decode cX4_note0 29 = .ok (.return_, 1) := by decide +kernel
theorem dX4_make_0 : decode cX4_make 0 = .ok (.aload_n 0, 1) := by decide +kernel
theorem dX4_make_1 : decode cX4_make 1 = .ok (.getfield 25, 3) := by decide +kernel
theorem dX4_make_4 : decode cX4_make 4 = .ok (.aload_n 0, 1) := by decide +kernel
theorem dX4_make_5 : decode cX4_make 5 = .ok (.getfield 55, 3) := by decide +kernel
theorem dX4_make_8 : decode cX4_make 8 = .ok (.iload_n 1, 1) := by decide +kernel
theorem dX4_make_9 : decode cX4_make 9 = .ok (.iastore, 1) := by decide +kernel
theorem dX4_make_10 : decode cX4_make 10 = .ok (.aload_n 0, 1) := by decide +kernel
theorem dX4_make_11 : decode cX4_make 11 = .ok (.getfield 28, 3) := by decide +kernel
theorem dX4_make_14 : decode cX4_make 14 = .ok (.aload_n 0, 1) := by decide +kernel
theorem dX4_make_15 : decode cX4_make 15 = .ok (.getfield 55, 3) := by decide +kernel
theorem dX4_make_18 : decode cX4_make 18 = .ok (.iload_n 2, 1) := by decide +kernel
theorem dX4_make_19 : decode cX4_make 19 = .ok (.iastore, 1) := by decide +kernel
theorem dX4_make_20 : decode cX4_make 20 = .ok (.aload_n 0, 1) := by decide +kernel
theorem dX4_make_21 : decode cX4_make 21 = .ok (.getfield 31, 3) := by decide +kernel
theorem dX4_make_24 : decode cX4_make 24 = .ok (.aload_n 0, 1) := by decide +kernel
theorem dX4_make_25 : decode cX4_make 25 = .ok (.getfield 55, 3) := by decide +kernel
theorem dX4_make_28 : decode cX4_make 28 = .ok (.iload_n 3, 1) := by decide +kernel
theorem dX4_make_29 : decode cX4_make 29 = .ok (.iastore, 1) := by decide +kernel
theorem dX4_make_30 : decode cX4_make 30 = .ok (.aload_n 0, 1) := by decide +kernel
theorem dX4_make_31 : decode cX4_make 31 = .ok (.dup, 1) := by decide +kernel
theorem dX4_make_32 : decode cX4_make 32 = .ok (.getfield 55, 3) := by decide +kernel
theorem dX4_make_35 : decode cX4_make 35 = .ok (.iconst 1, 1) := by decide +kernel
theorem dX4_make_36 : decode cX4_make 36 = .ok (.iadd, 1) := by decide +kernel
theorem dX4_make_37 : decode cX4_make 37 = .ok (.putfield 55, 3) := by decide +kernel
theorem dX4_make_40 : decode cX4_make 40 = .ok (.aload_n 0, 1) := by decide +kernel
theorem dX4_make_41 : decode cX4_make 41 = .ok (.getfield 55, 3) := by decide +kernel
theorem dX4_make_44 : decode cX4_make 44 = .ok (.iconst 1, 1) := by decide +kernel
theorem dX4_make_45 : decode cX4_make 45 = .ok (.isub, 1) := by decide +kernel
theorem dX4_make_46 : decode cX4_make 46 = .ok (.ireturn, 1) := by decide +kernel
theorem dX4_answers_0 : decode cX4_answers 0 = .ok (.aload_n 0, 1) := by decide +kernel
theorem dX4_answers_1 : decode cX4_answers 1 = .ok (.lload_n 1, 1) := by decide +kernel
theorem dX4_answers_2 : decode cX4_answers 2 = .ok (.putfield 58, 3) := by decide +kernel
theorem dX4_answers_5 : decode cX4_answers 5 = .ok (.iconst (-1), 1) := by decide +kernel
theorem dX4_answers_6 : decode cX4_answers 6 = .ok (.ireturn, 1) := by decide +kernel
set_option maxRecDepth 20000 in
theorem ggX4_bottom_X4_make : GoodIn wsX4_bottom wsX4_make := goodIn_ca (goodIn_ca (goodIn_r _ [6, 7, 8, 9, 10, 22, 23, 24, 25, 26, 27, 28, 29, 30, 31, 32, 33, 34, 35, 36] (by decide +kernel) (by decide +kernel)) (goodIn_sub (fun _ h => List.mem_cons_of_mem _ (List.mem_append_right _ h)) (by decide +kernel))) (goodIn_sub (fun _ h => List.mem_cons_of_mem _ (List.mem_append_left _ (List.mem_append_right _ h))) (by decide +kernel))
set_option maxRecDepth 20000 in
theorem gX4_bottom_X4_make : GoodIn wsX4_bottom (wsV RX4 62 RX4 yX4_make wsX4_make) := goodIn_app (goodIn_of _ (by decide +kernel)) ggX4_bottom_X4_make
set_option maxRecDepth 20000 in
theorem ggX4_bottom_X4_answers : GoodIn wsX4_bottom wsX4_answers := goodIn_r _ [14, 15, 22, 23, 24, 25, 26, 27, 28, 29, 30, 31, 32, 33, 34, 35, 36] (by decide +kernel) (by decide +kernel)
set_option maxRecDepth 20000 in
theorem gX4_bottom_X4_answers : GoodIn wsX4_bottom (wsV RX4 68 RX4 yX4_answers wsX4_answers) := goodIn_app (goodIn_of _ (by decide +kernel)) ggX4_bottom_X4_answers
set_option maxRecDepth 20000 in
theorem ggX4_bottom_X4_note0 : GoodIn wsX4_bottom wsX4_note0 := goodIn_ca (goodIn_ca (goodIn_r _ [19, 20, 21, 22, 23, 24, 25, 26, 27, 28, 29, 30, 31, 32, 33, 34, 35, 36] (by decide +kernel) (by decide +kernel)) (goodIn_sub (fun _ h => List.mem_cons_of_mem _ (List.mem_append_right _ h)) (by decide +kernel))) (goodIn_sub (fun _ h => List.mem_cons_of_mem _ (List.mem_append_left _ (List.mem_append_right _ h))) (by decide +kernel))
set_option maxRecDepth 20000 in
theorem gX4_bottom_X4_note0 : GoodIn wsX4_bottom (wsV RX4 72 RX4 yX4_note0 wsX4_note0) := goodIn_app (goodIn_of _ (by decide +kernel)) ggX4_bottom_X4_note0
theorem dX4_bottom_0 : decode cX4_bottom 0 = .ok (.iload_n 1, 1) := by decide +kernel
theorem dX4_bottom_1 : decode cX4_bottom 1 = .ok (.tableswitch 135 1 7 #[43, 51, 59, 67, 67, 75, 102], 43) := by decide +kernel
theorem dX4_bottom_44 : decode cX4_bottom 44 = .ok (.aload_n 0, 1) := by decide +kernel
theorem dX4_bottom_45 : decode cX4_bottom 45 = .ok (.iconst 1, 1) := by decide +kernel
theorem dX4_bottom_46 : decode cX4_bottom 46 = .ok (.iload_n 2, 1) := by decide +kernel
theorem dX4_bottom_47 : decode cX4_bottom 47 = .ok (.iconst (-1), 1) := by decide +kernel
theorem dX4_bottom_48 : decode cX4_bottom 48 = .ok (.invokevirtual 62, 3) := by decide +kernel
theorem dX4_bottom_51 : decode cX4_bottom 51 = .ok (.ireturn, 1) := by decide +kernel
theorem dX4_bottom_52 : decode cX4_bottom 52 = .ok (.aload_n 0, 1) := by decide +kernel
theorem dX4_bottom_53 : decode cX4_bottom 53 = .ok (.iconst 2, 1) := by decide +kernel
theorem dX4_bottom_54 : decode cX4_bottom 54 = .ok (.iload_n 2, 1) := by decide +kernel
theorem dX4_bottom_55 : decode cX4_bottom 55 = .ok (.iconst (-1), 1) := by decide +kernel
theorem dX4_bottom_56 : decode cX4_bottom 56 = .ok (.invokevirtual 62, 3) := by decide +kernel
theorem dX4_bottom_59 : decode cX4_bottom 59 = .ok (.ireturn, 1) := by decide +kernel
theorem dX4_bottom_60 : decode cX4_bottom 60 = .ok (.aload_n 0, 1) := by decide +kernel
theorem dX4_bottom_61 : decode cX4_bottom 61 = .ok (.iconst 3, 1) := by decide +kernel
theorem dX4_bottom_62 : decode cX4_bottom 62 = .ok (.iconst 0, 1) := by decide +kernel
theorem dX4_bottom_63 : decode cX4_bottom 63 = .ok (.iconst (-1), 1) := by decide +kernel
theorem dX4_bottom_64 : decode cX4_bottom 64 = .ok (.invokevirtual 62, 3) := by decide +kernel
theorem dX4_bottom_67 : decode cX4_bottom 67 = .ok (.ireturn, 1) := by decide +kernel
theorem dX4_bottom_68 : decode cX4_bottom 68 = .ok (.aload_n 0, 1) := by decide +kernel
theorem dX4_bottom_69 : decode cX4_bottom 69 = .ok (.iconst 4, 1) := by decide +kernel
theorem dX4_bottom_70 : decode cX4_bottom 70 = .ok (.iconst 0, 1) := by decide +kernel
theorem dX4_bottom_71 : decode cX4_bottom 71 = .ok (.iconst (-1), 1) := by decide +kernel
theorem dX4_bottom_72 : decode cX4_bottom 72 = .ok (.invokevirtual 62, 3) := by decide +kernel
theorem dX4_bottom_75 : decode cX4_bottom 75 = .ok (.ireturn, 1) := by decide +kernel
theorem dX4_bottom_76 : decode cX4_bottom 76 = .ok (.iload_n 2, 1) := by decide +kernel
theorem dX4_bottom_77 : decode cX4_bottom 77 = .ok (.ifCond .lt 18, 3) := by decide +kernel
theorem dX4_bottom_80 : decode cX4_bottom 80 = .ok (.iload_n 2, 1) := by decide +kernel
theorem dX4_bottom_81 : decode cX4_bottom 81 = .ok (.iconst 3, 1) := by decide +kernel
theorem dX4_bottom_82 : decode cX4_bottom 82 = .ok (.if_icmp .ge 13, 3) := by decide +kernel
theorem dX4_bottom_85 : decode cX4_bottom 85 = .ok (.aload_n 0, 1) := by decide +kernel
theorem dX4_bottom_86 : decode cX4_bottom 86 = .ok (.ldc2_w 66, 3) := by decide +kernel
theorem dX4_bottom_89 : decode cX4_bottom 89 = .ok (.invokevirtual 68, 3) := by decide +kernel
theorem dX4_bottom_92 : decode cX4_bottom 92 = .ok (.goto 10, 3) := by decide +kernel
theorem dX4_bottom_95 : decode cX4_bottom 95 = .ok (.aload_n 0, 1) := by decide +kernel
theorem dX4_bottom_96 : decode cX4_bottom 96 = .ok (.iconst 5, 1) := by decide +kernel
theorem dX4_bottom_97 : decode cX4_bottom 97 = .ok (.iconst 0, 1) := by decide +kernel
theorem dX4_bottom_98 : decode cX4_bottom 98 = .ok (.iconst (-1), 1) := by decide +kernel
theorem dX4_bottom_99 : decode cX4_bottom 99 = .ok (.invokevirtual 62, 3) := by decide +kernel
theorem dX4_bottom_102 : decode cX4_bottom 102 = .ok (.ireturn, 1) := by decide +kernel
theorem dX4_bottom_103 : decode cX4_bottom 103 = .ok (.iconst 0, 1) := by decide +kernel
theorem dX4_bottom_104 : decode cX4_bottom 104 = .ok (.istore_n 3, 1) := by decide +kernel
theorem dX4_bottom_105 : decode cX4_bottom 105 = .ok (.iload_n 3, 1) := by decide +kernel
theorem dX4_bottom_106 : decode cX4_bottom 106 = .ok (.iconst 3, 1) := by decide +kernel
theorem dX4_bottom_107 : decode cX4_bottom 107 = .ok (.if_icmp .ge 21, 3) := by decide +kernel
theorem dX4_bottom_110 : decode cX4_bottom 110 = .ok (.aload_n 0, 1) := by decide +kernel
theorem dX4_bottom_111 : decode cX4_bottom 111 = .ok (.sipush 700, 3) := by decide +kernel
theorem dX4_bottom_114 : decode cX4_bottom 114 = .ok (.iload_n 2, 1) := by decide +kernel
theorem dX4_bottom_115 : decode cX4_bottom 115 = .ok (.bipush 100, 2) := by decide +kernel
theorem dX4_bottom_117 : decode cX4_bottom 117 = .ok (.irem, 1) := by decide +kernel
theorem dX4_bottom_118 : decode cX4_bottom 118 = .ok (.iadd, 1) := by decide +kernel
theorem dX4_bottom_119 : decode cX4_bottom 119 = .ok (.invokevirtual 72, 3) := by decide +kernel
theorem dX4_bottom_122 : decode cX4_bottom 122 = .ok (.iinc 3 1, 3) := by decide +kernel
theorem dX4_bottom_125 : decode cX4_bottom 125 = .ok (.goto (-20), 3) := by decide +kernel
theorem dX4_bottom_128 : decode cX4_bottom 128 = .ok (.aload_n 0, 1) := by decide +kernel
theorem dX4_bottom_129 : decode cX4_bottom 129 = .ok (.iconst 1, 1) := by decide +kernel
theorem dX4_bottom_130 : decode cX4_bottom 130 = .ok (.iload_n 2, 1) := by decide +kernel
theorem dX4_bottom_131 : decode cX4_bottom 131 = .ok (.iconst (-1), 1) := by decide +kernel
theorem dX4_bottom_132 : decode cX4_bottom 132 = .ok (.invokevirtual 62, 3) := by decide +kernel
theorem dX4_bottom_135 : decode cX4_bottom 135 = .ok (.ireturn, 1) := by decide +kernel
theorem dX4_bottom_136 : decode cX4_bottom 136 = .ok (.aload_n 0, 1) := by decide +kernel
theorem dX4_bottom_137 : decode cX4_bottom 137 = .ok (.iload_n 2, 1) := by decide +kernel
theorem dX4_bottom_138 : decode cX4_bottom 138 = .ok (.i2l, 1) := by decide +kernel
theorem dX4_bottom_139 : decode cX4_bottom 139 = .ok (.invokevirtual 68, 3) := by decide +kernel
theorem dX4_bottom_142 : decode cX4_bottom 142 = .ok (.ireturn, 1) := by decide +kernel
set_option maxRecDepth 20000 in
theorem ggX4_sink_X4_note0 : GoodIn wsX4_sink wsX4_note0 := goodIn_ca (goodIn_ca (goodIn_r _ [6, 7, 8, 27, 28, 29, 30, 31, 32, 33, 34, 35, 36, 37, 38, 39, 40, 41] (by decide +kernel) (by decide +kernel)) (goodIn_sub (fun _ h => List.mem_cons_of_mem _ (List.mem_append_right _ h)) (by decide +kernel))) (goodIn_sub (fun _ h => List.mem_cons_of_mem _ (List.mem_append_left _ (List.mem_append_right _ h))) (by decide +kernel))
set_option maxRecDepth 20000 in
theorem gX4_sink_X4_note0 : GoodIn wsX4_sink (wsV RX4 72 RX4 yX4_note0 wsX4_note0) := goodIn_app (goodIn_of _ (by decide +kernel)) ggX4_sink_X4_note0
set_option maxRecDepth 20000 in
theorem ggX4_sink_X4_bottom : GoodIn wsX4_sink wsX4_bottom := goodIn_ca (goodIn_ca (goodIn_r _ [12, 13, 14, 15, 16, 5, 17, 18, 19, 20, 21, 22, 23, 24, 25, 26, 2, 3, 4, 6, 7, 8, 27, 28, 29, 30, 31, 32, 33, 34, 35, 36, 37, 38, 39, 40, 41] (by decide +kernel) (by decide +kernel)) (goodIn_sub (fun _ h => List.mem_cons_of_mem _ (List.mem_append_left _ (List.mem_append_right _ h))) (by decide +kernel))) (goodIn_sub (fun _ h => List.mem_cons_of_mem _ (List.mem_append_right _ h)) (by decide +kernel))
set_option maxRecDepth 20000 in
theorem gX4_sink_X4_bottom : GoodIn wsX4_sink (wsV RX4 76 RX4 yX4_bottom wsX4_bottom) := goodIn_app (goodIn_of _ (by decide +kernel)) ggX4_sink_X4_bottom
theorem dX4_sink_0 : decode cX4_sink 0 = .ok (.iload_n 1, 1) := by decide +kernel
theorem dX4_sink_1 : decode cX4_sink 1 = .ok (.istore 4, 2) := by decide +kernel
theorem dX4_sink_3 : decode cX4_sink 3 = .ok (.iload 4, 2) := by decide +kernel
theorem dX4_sink_5 : decode cX4_sink 5 = .ok (.ifCond .lt 23, 3) := by decide +kernel
theorem dX4_sink_8 : decode cX4_sink 8 = .ok (.aload_n 0, 1) := by decide +kernel
theorem dX4_sink_9 : decode cX4_sink 9 = .ok (.iload 4, 2) := by decide +kernel
theorem dX4_sink_11 : decode cX4_sink 11 = .ok (.invokevirtual 72, 3) := by decide +kernel
theorem dX4_sink_14 : decode cX4_sink 14 = .ok (.aload_n 0, 1) := by decide +kernel
theorem dX4_sink_15 : decode cX4_sink 15 = .ok (.getfield 38, 3) := by decide +kernel
theorem dX4_sink_18 : decode cX4_sink 18 = .ok (.iload 4, 2) := by decide +kernel
theorem dX4_sink_20 : decode cX4_sink 20 = .ok (.iconst 0, 1) := by decide +kernel
theorem dX4_sink_21 : decode cX4_sink 21 = .ok (.iastore, 1) := by decide +kernel
theorem dX4_sink_22 : decode cX4_sink 22 = .ok (.iinc 4 (-1), 3) := by decide +kernel
theorem dX4_sink_25 : decode cX4_sink 25 = .ok (.goto (-22), 3) := by decide +kernel
theorem dX4_sink_28 : decode cX4_sink 28 = .ok (.aload_n 0, 1) := by decide +kernel
theorem dX4_sink_29 : decode cX4_sink 29 = .ok (.iload_n 2, 1) := by decide +kernel
theorem dX4_sink_30 : decode cX4_sink 30 = .ok (.iload_n 3, 1) := by decide +kernel
theorem dX4_sink_31 : decode cX4_sink 31 = .ok (.invokevirtual 76, 3) := by decide +kernel
theorem dX4_sink_34 : decode cX4_sink 34 = .ok (.ireturn, 1) := by decide +kernel
set_option maxRecDepth 20000 in
theorem ggX4_handle_X4_note0 : GoodIn wsX4_handle wsX4_note0 := goodIn_ca (goodIn_ca (goodIn_r _ [9, 10, 11, 24, 25, 26, 27, 28, 29, 30, 31, 32, 33, 34, 35, 36, 37, 38] (by decide +kernel) (by decide +kernel)) (goodIn_sub (fun _ h => List.mem_cons_of_mem _ (List.mem_append_left _ (List.mem_append_right _ h))) (by decide +kernel))) (goodIn_sub (fun _ h => List.mem_cons_of_mem _ (List.mem_append_right _ h)) (by decide +kernel))
set_option maxRecDepth 20000 in
theorem gX4_handle_X4_note0 : GoodIn wsX4_handle (wsV RX4 72 RX4 yX4_note0 wsX4_note0) := goodIn_app (goodIn_of _ (by decide +kernel)) ggX4_handle_X4_note0
set_option maxRecDepth 20000 in
theorem ggX4_handle_X4_answers : GoodIn wsX4_handle wsX4_answers := goodIn_r _ [15, 16, 24, 25, 26, 27, 28, 29, 30, 31, 32, 33, 34, 35, 36, 37, 38] (by decide +kernel) (by decide +kernel)
set_option maxRecDepth 20000 in
theorem gX4_handle_X4_answers : GoodIn wsX4_handle (wsV RX4 68 RX4 yX4_answers wsX4_answers) := goodIn_app (goodIn_of _ (by decide +kernel)) ggX4_handle_X4_answers
set_option maxRecDepth 20000 in
theorem ggX4_handle_X4_make : GoodIn wsX4_handle wsX4_make := goodIn_ca (goodIn_ca (goodIn_r _ [20, 1, 21, 22, 23, 24, 25, 26, 27, 28, 29, 30, 31, 32, 33, 34, 35, 36, 37, 38] (by decide +kernel) (by decide +kernel)) (goodIn_sub (fun _ h => List.mem_cons_of_mem _ (List.mem_append_left _ (List.mem_append_right _ h))) (by decide +kernel))) (goodIn_sub (fun _ h => List.mem_cons_of_mem _ (List.mem_append_right _ h)) (by decide +kernel))
set_option maxRecDepth 20000 in
theorem gX4_handle_X4_make : GoodIn wsX4_handle (wsV RX4 62 RX4 yX4_make wsX4_make) := goodIn_app (goodIn_of _ (by decide +kernel)) ggX4_handle_X4_make
theorem dX4_handle_0 : decode cX4_handle 0 = .ok (.aload_n 0, 1) := by decide +kernel
theorem dX4_handle_1 : decode cX4_handle 1 = .ok (.getfield 25, 3) := by decide +kernel
theorem dX4_handle_4 : decode cX4_handle 4 = .ok (.iload_n 2, 1) := by decide +kernel
theorem dX4_handle_5 : decode cX4_handle 5 = .ok (.iaload, 1) := by decide +kernel
theorem dX4_handle_6 : decode cX4_handle 6 = .ok (.istore_n 3, 1) := by decide +kernel
theorem dX4_handle_7 : decode cX4_handle 7 = .ok (.aload_n 0, 1) := by decide +kernel
theorem dX4_handle_8 : decode cX4_handle 8 = .ok (.getfield 7, 3) := by decide +kernel
theorem dX4_handle_11 : decode cX4_handle 11 = .ok (.iload_n 1, 1) := by decide +kernel
theorem dX4_handle_12 : decode cX4_handle 12 = .ok (.iaload, 1) := by decide +kernel
theorem dX4_handle_13 : decode cX4_handle 13 = .ok (.iload_n 3, 1) := by decide +kernel
theorem dX4_handle_14 : decode cX4_handle 14 = .ok (.iconst 1, 1) := by decide +kernel
theorem dX4_handle_15 : decode cX4_handle 15 = .ok (.isub, 1) := by decide +kernel
theorem dX4_handle_16 : decode cX4_handle 16 = .ok (.ishr, 1) := by decide +kernel
theorem dX4_handle_17 : decode cX4_handle 17 = .ok (.iconst 1, 1) := by decide +kernel
theorem dX4_handle_18 : decode cX4_handle 18 = .ok (.iand, 1) := by decide +kernel
theorem dX4_handle_19 : decode cX4_handle 19 = .ok (.ifCond .ne 5, 3) := by decide +kernel
theorem dX4_handle_22 : decode cX4_handle 22 = .ok (.iload_n 2, 1) := by decide +kernel
theorem dX4_handle_23 : decode cX4_handle 23 = .ok (.ireturn, 1) := by decide +kernel
theorem dX4_handle_24 : decode cX4_handle 24 = .ok (.aload_n 0, 1) := by decide +kernel
theorem dX4_handle_25 : decode cX4_handle 25 = .ok (.bipush 100, 2) := by decide +kernel
theorem dX4_handle_27 : decode cX4_handle 27 = .ok (.iload_n 3, 1) := by decide +kernel
theorem dX4_handle_28 : decode cX4_handle 28 = .ok (.imul, 1) := by decide +kernel
theorem dX4_handle_29 : decode cX4_handle 29 = .ok (.iload_n 1, 1) := by decide +kernel
theorem dX4_handle_30 : decode cX4_handle 30 = .ok (.iadd, 1) := by decide +kernel
theorem dX4_handle_31 : decode cX4_handle 31 = .ok (.invokevirtual 72, 3) := by decide +kernel
theorem dX4_handle_34 : decode cX4_handle 34 = .ok (.aload_n 0, 1) := by decide +kernel
theorem dX4_handle_35 : decode cX4_handle 35 = .ok (.getfield 13, 3) := by decide +kernel
theorem dX4_handle_38 : decode cX4_handle 38 = .ok (.iload_n 1, 1) := by decide +kernel
theorem dX4_handle_39 : decode cX4_handle 39 = .ok (.iaload, 1) := by decide +kernel
theorem dX4_handle_40 : decode cX4_handle 40 = .ok (.tableswitch 84 0 4 #[36, 48, 50, 63, 76], 36) := by decide +kernel
theorem dX4_handle_76 : decode cX4_handle 76 = .ok (.aload_n 0, 1) := by decide +kernel
theorem dX4_handle_77 : decode cX4_handle 77 = .ok (.aload_n 0, 1) := by decide +kernel
theorem dX4_handle_78 : decode cX4_handle 78 = .ok (.getfield 19, 3) := by decide +kernel
theorem dX4_handle_81 : decode cX4_handle 81 = .ok (.iload_n 1, 1) := by decide +kernel
theorem dX4_handle_82 : decode cX4_handle 82 = .ok (.iaload, 1) := by decide +kernel
theorem dX4_handle_83 : decode cX4_handle 83 = .ok (.i2l, 1) := by decide +kernel
theorem dX4_handle_84 : decode cX4_handle 84 = .ok (.invokevirtual 68, 3) := by decide +kernel
theorem dX4_handle_87 : decode cX4_handle 87 = .ok (.ireturn, 1) := by decide +kernel
theorem dX4_handle_88 : decode cX4_handle 88 = .ok (.iload_n 2, 1) := by decide +kernel
theorem dX4_handle_89 : decode cX4_handle 89 = .ok (.ireturn, 1) := by decide +kernel
theorem dX4_handle_90 : decode cX4_handle 90 = .ok (.aload_n 0, 1) := by decide +kernel
theorem dX4_handle_91 : decode cX4_handle 91 = .ok (.iconst 1, 1) := by decide +kernel
theorem dX4_handle_92 : decode cX4_handle 92 = .ok (.aload_n 0, 1) := by decide +kernel
theorem dX4_handle_93 : decode cX4_handle 93 = .ok (.getfield 19, 3) := by decide +kernel
theorem dX4_handle_96 : decode cX4_handle 96 = .ok (.iload_n 1, 1) := by decide +kernel
theorem dX4_handle_97 : decode cX4_handle 97 = .ok (.iaload, 1) := by decide +kernel
theorem dX4_handle_98 : decode cX4_handle 98 = .ok (.iload_n 2, 1) := by decide +kernel
theorem dX4_handle_99 : decode cX4_handle 99 = .ok (.invokevirtual 62, 3) := by decide +kernel
theorem dX4_handle_102 : decode cX4_handle 102 = .ok (.ireturn, 1) := by decide +kernel
theorem dX4_handle_103 : decode cX4_handle 103 = .ok (.aload_n 0, 1) := by decide +kernel
theorem dX4_handle_104 : decode cX4_handle 104 = .ok (.iconst 2, 1) := by decide +kernel
theorem dX4_handle_105 : decode cX4_handle 105 = .ok (.aload_n 0, 1) := by decide +kernel
theorem dX4_handle_106 : decode cX4_handle 106 = .ok (.getfield 19, 3) := by decide +kernel
theorem dX4_handle_109 : decode cX4_handle 109 = .ok (.iload_n 1, 1) := by decide +kernel
theorem dX4_handle_110 : decode cX4_handle 110 = .ok (.iaload, 1) := by decide +kernel
theorem dX4_handle_111 : decode cX4_handle 111 = .ok (.iload_n 2, 1) := by decide +kernel
theorem dX4_handle_112 : decode cX4_handle 112 = .ok (.invokevirtual 62, 3) := by decide +kernel
theorem dX4_handle_115 : decode cX4_handle 115 = .ok (.ireturn, 1) := by decide +kernel
theorem dX4_handle_116 : decode cX4_handle 116 = .ok (.aload_n 0, 1) := by decide +kernel
theorem dX4_handle_117 : decode cX4_handle 117 = .ok (.iconst 3, 1) := by decide +kernel
theorem dX4_handle_118 : decode cX4_handle 118 = .ok (.iconst 0, 1) := by decide +kernel
theorem dX4_handle_119 : decode cX4_handle 119 = .ok (.iconst (-1), 1) := by decide +kernel
theorem dX4_handle_120 : decode cX4_handle 120 = .ok (.invokevirtual 62, 3) := by decide +kernel
theorem dX4_handle_123 : decode cX4_handle 123 = .ok (.ireturn, 1) := by decide +kernel
theorem dX4_handle_124 : decode cX4_handle 124 = .ok (.bipush (-2), 2) := by decide +kernel
theorem dX4_handle_126 : decode cX4_handle 126 = .ok (.ireturn, 1) := by decide +kernel
set_option maxRecDepth 20000 in
theorem ggX4_last_X4_note0 : GoodIn wsX4_last wsX4_note0 := goodIn_ca (goodIn_ca (goodIn_r _ [7, 8, 9, 23, 24, 25, 26, 27, 28, 29, 30, 31, 32, 33, 34, 35, 36, 37] (by decide +kernel) (by decide +kernel)) (goodIn_sub (fun _ h => List.mem_cons_of_mem _ (List.mem_append_right _ h)) (by decide +kernel))) (goodIn_sub (fun _ h => List.mem_cons_of_mem _ (List.mem_append_left _ (List.mem_append_right _ h))) (by decide +kernel))
set_option maxRecDepth 20000 in
theorem gX4_last_X4_note0 : GoodIn wsX4_last (wsV RX4 72 RX4 yX4_note0 wsX4_note0) := goodIn_app (goodIn_of _ (by decide +kernel)) ggX4_last_X4_note0
set_option maxRecDepth 20000 in
theorem ggX4_last_X4_answers : GoodIn wsX4_last wsX4_answers := goodIn_r _ [13, 14, 23, 24, 25, 26, 27, 28, 29, 30, 31, 32, 33, 34, 35, 36, 37] (by decide +kernel) (by decide +kernel)
set_option maxRecDepth 20000 in
theorem gX4_last_X4_answers : GoodIn wsX4_last (wsV RX4 68 RX4 yX4_answers wsX4_answers) := goodIn_app (goodIn_of _ (by decide +kernel)) ggX4_last_X4_answers
set_option maxRecDepth 20000 in
theorem ggX4_last_X4_make : GoodIn wsX4_last wsX4_make := goodIn_ca (goodIn_ca (goodIn_r _ [18, 19, 20, 21, 22, 23, 24, 25, 26, 27, 28, 29, 30, 31, 32, 33, 34, 35, 36, 37] (by decide +kernel) (by decide +kernel)) (goodIn_sub (fun _ h => List.mem_cons_of_mem _ (List.mem_append_right _ h)) (by decide +kernel))) (goodIn_sub (fun _ h => List.mem_cons_of_mem _ (List.mem_append_left _ (List.mem_append_right _ h))) (by decide +kernel))
set_option maxRecDepth 20000 in
theorem gX4_last_X4_make : GoodIn wsX4_last (wsV RX4 62 RX4 yX4_make wsX4_make) := goodIn_app (goodIn_of _ (by decide +kernel)) ggX4_last_X4_make
theorem dX4_last_0 : decode cX4_last 0 = .ok (.aload_n 0, 1) := by decide +kernel
theorem dX4_last_1 : decode cX4_last 1 = .ok (.sipush 600, 3) := by decide +kernel
theorem dX4_last_4 : decode cX4_last 4 = .ok (.iload_n 1, 1) := by decide +kernel
theorem dX4_last_5 : decode cX4_last 5 = .ok (.iadd, 1) := by decide +kernel
theorem dX4_last_6 : decode cX4_last 6 = .ok (.invokevirtual 72, 3) := by decide +kernel
theorem dX4_last_9 : decode cX4_last 9 = .ok (.aload_n 0, 1) := by decide +kernel
theorem dX4_last_10 : decode cX4_last 10 = .ok (.getfield 16, 3) := by decide +kernel
theorem dX4_last_13 : decode cX4_last 13 = .ok (.iload_n 1, 1) := by decide +kernel
theorem dX4_last_14 : decode cX4_last 14 = .ok (.iaload, 1) := by decide +kernel
theorem dX4_last_15 : decode cX4_last 15 = .ok (.iconst 1, 1) := by decide +kernel
theorem dX4_last_16 : decode cX4_last 16 = .ok (.if_icmp .ne 15, 3) := by decide +kernel
theorem dX4_last_19 : decode cX4_last 19 = .ok (.aload_n 0, 1) := by decide +kernel
theorem dX4_last_20 : decode cX4_last 20 = .ok (.aload_n 0, 1) := by decide +kernel
theorem dX4_last_21 : decode cX4_last 21 = .ok (.getfield 19, 3) := by decide +kernel
theorem dX4_last_24 : decode cX4_last 24 = .ok (.iload_n 1, 1) := by decide +kernel
theorem dX4_last_25 : decode cX4_last 25 = .ok (.iaload, 1) := by decide +kernel
theorem dX4_last_26 : decode cX4_last 26 = .ok (.i2l, 1) := by decide +kernel
theorem dX4_last_27 : decode cX4_last 27 = .ok (.invokevirtual 68, 3) := by decide +kernel
theorem dX4_last_30 : decode cX4_last 30 = .ok (.ireturn, 1) := by decide +kernel
theorem dX4_last_31 : decode cX4_last 31 = .ok (.aload_n 0, 1) := by decide +kernel
theorem dX4_last_32 : decode cX4_last 32 = .ok (.getfield 16, 3) := by decide +kernel
theorem dX4_last_35 : decode cX4_last 35 = .ok (.iload_n 1, 1) := by decide +kernel
theorem dX4_last_36 : decode cX4_last 36 = .ok (.iaload, 1) := by decide +kernel
theorem dX4_last_37 : decode cX4_last 37 = .ok (.iconst 2, 1) := by decide +kernel
theorem dX4_last_38 : decode cX4_last 38 = .ok (.if_icmp .ne 16, 3) := by decide +kernel
theorem dX4_last_41 : decode cX4_last 41 = .ok (.aload_n 0, 1) := by decide +kernel
theorem dX4_last_42 : decode cX4_last 42 = .ok (.iconst 1, 1) := by decide +kernel
theorem dX4_last_43 : decode cX4_last 43 = .ok (.aload_n 0, 1) := by decide +kernel
theorem dX4_last_44 : decode cX4_last 44 = .ok (.getfield 19, 3) := by decide +kernel
theorem dX4_last_47 : decode cX4_last 47 = .ok (.iload_n 1, 1) := by decide +kernel
theorem dX4_last_48 : decode cX4_last 48 = .ok (.iaload, 1) := by decide +kernel
theorem dX4_last_49 : decode cX4_last 49 = .ok (.iconst (-1), 1) := by decide +kernel
theorem dX4_last_50 : decode cX4_last 50 = .ok (.invokevirtual 62, 3) := by decide +kernel
theorem dX4_last_53 : decode cX4_last 53 = .ok (.ireturn, 1) := by decide +kernel
theorem dX4_last_54 : decode cX4_last 54 = .ok (.aload_n 0, 1) := by decide +kernel
theorem dX4_last_55 : decode cX4_last 55 = .ok (.getfield 16, 3) := by decide +kernel
theorem dX4_last_58 : decode cX4_last 58 = .ok (.iload_n 1, 1) := by decide +kernel
theorem dX4_last_59 : decode cX4_last 59 = .ok (.iaload, 1) := by decide +kernel
theorem dX4_last_60 : decode cX4_last 60 = .ok (.iconst 3, 1) := by decide +kernel
theorem dX4_last_61 : decode cX4_last 61 = .ok (.if_icmp .ne 11, 3) := by decide +kernel
theorem dX4_last_64 : decode cX4_last 64 = .ok (.aload_n 0, 1) := by decide +kernel
theorem dX4_last_65 : decode cX4_last 65 = .ok (.iconst 3, 1) := by decide +kernel
theorem dX4_last_66 : decode cX4_last 66 = .ok (.iconst 0, 1) := by decide +kernel
theorem dX4_last_67 : decode cX4_last 67 = .ok (.iconst (-1), 1) := by decide +kernel
theorem dX4_last_68 : decode cX4_last 68 = .ok (.invokevirtual 62, 3) := by decide +kernel
theorem dX4_last_71 : decode cX4_last 71 = .ok (.ireturn, 1) := by decide +kernel
theorem dX4_last_72 : decode cX4_last 72 = .ok (.iload_n 2, 1) := by decide +kernel
theorem dX4_last_73 : decode cX4_last 73 = .ok (.ireturn, 1) := by decide +kernel
set_option maxRecDepth 20000 in
theorem ggX4_rise_X4_handle : GoodIn wsX4_rise wsX4_handle := goodIn_ca (goodIn_ca (goodIn_r _ [8, 9, 10, 11, 2, 12, 13, 14, 7, 15, 16, 17, 18, 19, 20, 21, 1, 22, 23, 24, 25, 26, 27, 28, 43, 44, 45, 46, 47, 48, 49, 50, 51, 52, 53, 54, 55, 56, 57] (by decide +kernel) (by decide +kernel)) (goodIn_sub (fun _ h => List.mem_cons_of_mem _ (List.mem_append_right _ h)) (by decide +kernel))) (goodIn_sub (fun _ h => List.mem_cons_of_mem _ (List.mem_append_left _ (List.mem_append_right _ h))) (by decide +kernel))
set_option maxRecDepth 20000 in
theorem gX4_rise_X4_handle : GoodIn wsX4_rise (wsV RX4 80 RX4 yX4_handle wsX4_handle) := goodIn_app (goodIn_of _ (by decide +kernel)) ggX4_rise_X4_handle
set_option maxRecDepth 20000 in
theorem ggX4_rise_X4_bottom : GoodIn wsX4_rise wsX4_bottom := goodIn_ca (goodIn_ca (goodIn_r _ [32, 33, 22, 23, 24, 7, 25, 9, 26, 27, 28, 18, 19, 20, 21, 1, 12, 13, 14, 15, 16, 17, 43, 44, 45, 46, 47, 48, 49, 50, 51, 52, 53, 54, 55, 56, 57] (by decide +kernel) (by decide +kernel)) (goodIn_sub (fun _ h => List.mem_cons_of_mem _ (List.mem_append_left _ (List.mem_append_right _ h))) (by decide +kernel))) (goodIn_sub (fun _ h => List.mem_cons_of_mem _ (List.mem_append_right _ h)) (by decide +kernel))
set_option maxRecDepth 20000 in
theorem gX4_rise_X4_bottom : GoodIn wsX4_rise (wsV RX4 76 RX4 yX4_bottom wsX4_bottom) := goodIn_app (goodIn_of _ (by decide +kernel)) ggX4_rise_X4_bottom
set_option maxRecDepth 20000 in
theorem ggX4_rise_X4_sink : GoodIn wsX4_rise wsX4_sink := goodIn_ca (goodIn_ca (goodIn_r _ [37, 3, 12, 13, 14, 7, 15, 16, 17, 29, 30, 31, 32, 33, 22, 23, 24, 25, 9, 26, 27, 28, 18, 19, 20, 21, 1, 43, 44, 45, 46, 47, 48, 49, 50, 51, 52, 53, 54, 55, 56, 57] (by decide +kernel) (by decide +kernel)) (goodIn_sub (fun _ h => List.mem_cons_of_mem _ (List.mem_append_left _ (List.mem_append_right _ h))) (by decide +kernel))) (goodIn_sub (fun _ h => List.mem_cons_of_mem _ (List.mem_append_right _ h)) (by decide +kernel))
set_option maxRecDepth 20000 in
theorem gX4_rise_X4_sink : GoodIn wsX4_rise (wsV RX4 83 RX4 yX4_sink wsX4_sink) := goodIn_app (goodIn_of _ (by decide +kernel)) ggX4_rise_X4_sink
set_option maxRecDepth 20000 in
theorem ggX4_rise_X4_last : GoodIn wsX4_rise wsX4_last := goodIn_ca (goodIn_ca (goodIn_r _ [41, 42, 2, 12, 13, 14, 7, 15, 16, 17, 18, 19, 20, 21, 1, 22, 23, 24, 25, 9, 26, 27, 28, 43, 44, 45, 46, 47, 48, 49, 50, 51, 52, 53, 54, 55, 56, 57] (by decide +kernel) (by decide +kernel)) (goodIn_sub (fun _ h => List.mem_cons_of_mem _ (List.mem_append_left _ (List.mem_append_right _ h))) (by decide +kernel))) (goodIn_sub (fun _ h => List.mem_cons_of_mem _ (List.mem_append_right _ h)) (by decide +kernel))
set_option maxRecDepth 20000 in
theorem gX4_rise_X4_last : GoodIn wsX4_rise (wsV RX4 86 RX4 yX4_last wsX4_last) := goodIn_app (goodIn_of _ (by decide +kernel)) ggX4_rise_X4_last
theorem dX4_rise_0 : decode cX4_rise 0 = .ok (.iload_n 2, 1) := by decide +kernel
theorem dX4_rise_1 : decode cX4_rise 1 = .ok (.istore_n 3, 1) := by decide +kernel
theorem dX4_rise_2 : decode cX4_rise 2 = .ok (.iconst 0, 1) := by decide +kernel
theorem dX4_rise_3 : decode cX4_rise 3 = .ok (.istore 4, 2) := by decide +kernel
theorem dX4_rise_5 : decode cX4_rise 5 = .ok (.iload 4, 2) := by decide +kernel
theorem dX4_rise_7 : decode cX4_rise 7 = .ok (.iload_n 1, 1) := by decide +kernel
theorem dX4_rise_8 : decode cX4_rise 8 = .ok (.if_icmp .gt 126, 3) := by decide +kernel
theorem dX4_rise_11 : decode cX4_rise 11 = .ok (.iload 4, 2) := by decide +kernel
theorem dX4_rise_13 : decode cX4_rise 13 = .ok (.ifCond .le 24, 3) := by decide +kernel
theorem dX4_rise_16 : decode cX4_rise 16 = .ok (.iload_n 3, 1) := by decide +kernel
theorem dX4_rise_17 : decode cX4_rise 17 = .ok (.ifCond .ge 20, 3) := by decide +kernel
theorem dX4_rise_20 : decode cX4_rise 20 = .ok (.aload_n 0, 1) := by decide +kernel
theorem dX4_rise_21 : decode cX4_rise 21 = .ok (.dup, 1) := by decide +kernel
theorem dX4_rise_22 : decode cX4_rise 22 = .ok (.getfield 58, 3) := by decide +kernel
theorem dX4_rise_25 : decode cX4_rise 25 = .ok (.aload_n 0, 1) := by decide +kernel
theorem dX4_rise_26 : decode cX4_rise 26 = .ok (.getfield 19, 3) := by decide +kernel
theorem dX4_rise_29 : decode cX4_rise 29 = .ok (.iload 4, 2) := by decide +kernel
theorem dX4_rise_31 : decode cX4_rise 31 = .ok (.iaload, 1) := by decide +kernel
theorem dX4_rise_32 : decode cX4_rise 32 = .ok (.i2l, 1) := by decide +kernel
theorem dX4_rise_33 : decode cX4_rise 33 = .ok (.ladd, 1) := by decide +kernel
theorem dX4_rise_34 : decode cX4_rise 34 = .ok (.putfield 58, 3) := by decide +kernel
theorem dX4_rise_37 : decode cX4_rise 37 = .ok (.iload_n 3, 1) := by decide +kernel
theorem dX4_rise_38 : decode cX4_rise 38 = .ok (.ifCond .lt 82, 3) := by decide +kernel
theorem dX4_rise_41 : decode cX4_rise 41 = .ok (.aload_n 0, 1) := by decide +kernel
theorem dX4_rise_42 : decode cX4_rise 42 = .ok (.getfield 38, 3) := by decide +kernel
theorem dX4_rise_45 : decode cX4_rise 45 = .ok (.iload 4, 2) := by decide +kernel
theorem dX4_rise_47 : decode cX4_rise 47 = .ok (.iaload, 1) := by decide +kernel
theorem dX4_rise_48 : decode cX4_rise 48 = .ok (.ifCond .ne 72, 3) := by decide +kernel
theorem dX4_rise_51 : decode cX4_rise 51 = .ok (.aload_n 0, 1) := by decide +kernel
theorem dX4_rise_52 : decode cX4_rise 52 = .ok (.iload 4, 2) := by decide +kernel
theorem dX4_rise_54 : decode cX4_rise 54 = .ok (.iload_n 3, 1) := by decide +kernel
theorem dX4_rise_55 : decode cX4_rise 55 = .ok (.invokevirtual 80, 3) := by decide +kernel
theorem dX4_rise_58 : decode cX4_rise 58 = .ok (.istore_n 3, 1) := by decide +kernel
theorem dX4_rise_59 : decode cX4_rise 59 = .ok (.iload_n 3, 1) := by decide +kernel
theorem dX4_rise_60 : decode cX4_rise 60 = .ok (.bipush (-2), 2) := by decide +kernel
theorem dX4_rise_62 : decode cX4_rise 62 = .ok (.if_icmp .ne 58, 3) := by decide +kernel
theorem dX4_rise_65 : decode cX4_rise 65 = .ok (.aload_n 0, 1) := by decide +kernel
theorem dX4_rise_66 : decode cX4_rise 66 = .ok (.getfield 38, 3) := by decide +kernel
theorem dX4_rise_69 : decode cX4_rise 69 = .ok (.iload 4, 2) := by decide +kernel
theorem dX4_rise_71 : decode cX4_rise 71 = .ok (.iconst 1, 1) := by decide +kernel
theorem dX4_rise_72 : decode cX4_rise 72 = .ok (.iastore, 1) := by decide +kernel
theorem dX4_rise_73 : decode cX4_rise 73 = .ok (.iload 4, 2) := by decide +kernel
theorem dX4_rise_75 : decode cX4_rise 75 = .ok (.ifCond .ne 17, 3) := by decide +kernel
theorem dX4_rise_78 : decode cX4_rise 78 = .ok (.aload_n 0, 1) := by decide +kernel
theorem dX4_rise_79 : decode cX4_rise 79 = .ok (.iconst 0, 1) := by decide +kernel
theorem dX4_rise_80 : decode cX4_rise 80 = .ok (.aload_n 0, 1) := by decide +kernel
theorem dX4_rise_81 : decode cX4_rise 81 = .ok (.getfield 19, 3) := by decide +kernel
theorem dX4_rise_84 : decode cX4_rise 84 = .ok (.iconst 0, 1) := by decide +kernel
theorem dX4_rise_85 : decode cX4_rise 85 = .ok (.iaload, 1) := by decide +kernel
theorem dX4_rise_86 : decode cX4_rise 86 = .ok (.invokevirtual 76, 3) := by decide +kernel
theorem dX4_rise_89 : decode cX4_rise 89 = .ok (.goto 19, 3) := by decide +kernel
theorem dX4_rise_92 : decode cX4_rise 92 = .ok (.aload_n 0, 1) := by decide +kernel
theorem dX4_rise_93 : decode cX4_rise 93 = .ok (.iload 4, 2) := by decide +kernel
theorem dX4_rise_95 : decode cX4_rise 95 = .ok (.iconst 1, 1) := by decide +kernel
theorem dX4_rise_96 : decode cX4_rise 96 = .ok (.isub, 1) := by decide +kernel
theorem dX4_rise_97 : decode cX4_rise 97 = .ok (.iconst 0, 1) := by decide +kernel
theorem dX4_rise_98 : decode cX4_rise 98 = .ok (.aload_n 0, 1) := by decide +kernel
theorem dX4_rise_99 : decode cX4_rise 99 = .ok (.getfield 19, 3) := by decide +kernel
theorem dX4_rise_102 : decode cX4_rise 102 = .ok (.iload 4, 2) := by decide +kernel
theorem dX4_rise_104 : decode cX4_rise 104 = .ok (.iaload, 1) := by decide +kernel
theorem dX4_rise_105 : decode cX4_rise 105 = .ok (.invokevirtual 83, 3) := by decide +kernel
theorem dX4_rise_108 : decode cX4_rise 108 = .ok (.istore_n 3, 1) := by decide +kernel
theorem dX4_rise_109 : decode cX4_rise 109 = .ok (.iload 4, 2) := by decide +kernel
theorem dX4_rise_111 : decode cX4_rise 111 = .ok (.ifCond .le 9, 3) := by decide +kernel
theorem dX4_rise_114 : decode cX4_rise 114 = .ok (.iconst 0, 1) := by decide +kernel
theorem dX4_rise_115 : decode cX4_rise 115 = .ok (.istore 4, 2) := by decide +kernel
theorem dX4_rise_117 : decode cX4_rise 117 = .ok (.goto (-112), 3) := by decide +kernel
theorem dX4_rise_120 : decode cX4_rise 120 = .ok (.aload_n 0, 1) := by decide +kernel
theorem dX4_rise_121 : decode cX4_rise 121 = .ok (.iload 4, 2) := by decide +kernel
theorem dX4_rise_123 : decode cX4_rise 123 = .ok (.iload_n 3, 1) := by decide +kernel
theorem dX4_rise_124 : decode cX4_rise 124 = .ok (.invokevirtual 86, 3) := by decide +kernel
theorem dX4_rise_127 : decode cX4_rise 127 = .ok (.istore_n 3, 1) := by decide +kernel
theorem dX4_rise_128 : decode cX4_rise 128 = .ok (.iinc 4 1, 3) := by decide +kernel
theorem dX4_rise_131 : decode cX4_rise 131 = .ok (.goto (-126), 3) := by decide +kernel
theorem dX4_rise_134 : decode cX4_rise 134 = .ok (.iload_n 3, 1) := by decide +kernel
theorem dX4_rise_135 : decode cX4_rise 135 = .ok (.ireturn, 1) := by decide +kernel
set_option maxRecDepth 20000 in
theorem ggX4_run_X4_isLevel : GoodIn wsX4_run wsX4_isLevel := goodIn_r _ [11] (by decide +kernel) (by decide +kernel)
set_option maxRecDepth 20000 in
theorem gX4_run_X4_isLevel : GoodIn wsX4_run (va_wsS RX4 44 yX4_isLevel wsX4_isLevel) := goodIn_app (goodIn_of _ (by decide +kernel)) ggX4_run_X4_isLevel
set_option maxRecDepth 20000 in
theorem ggX4_run_X4_good : GoodIn wsX4_run wsX4_good := goodIn_ca (goodIn_r _ [15, 7, 57, 58, 59, 60, 61, 62, 63, 64, 65, 66, 67, 68, 69, 70, 71] (by decide +kernel) (by decide +kernel)) (goodIn_sub (fun _ h => List.mem_cons_of_mem _ (List.mem_append_left _ (List.mem_append_right _ h))) (by decide +kernel))
set_option maxRecDepth 20000 in
theorem gX4_run_X4_good : GoodIn wsX4_run (wsV RX4 48 RX4 yX4_good wsX4_good) := goodIn_app (goodIn_of _ (by decide +kernel)) ggX4_run_X4_good
set_option maxRecDepth 20000 in
theorem ggX4_run_X4_sink : GoodIn wsX4_run wsX4_sink := goodIn_ca (goodIn_ca (goodIn_r _ [19, 20, 21, 22, 23, 10, 24, 1, 25, 26, 27, 28, 29, 30, 31, 32, 33, 34, 6, 3, 35, 36, 37, 38, 39, 40, 5, 57, 58, 59, 60, 61, 62, 63, 64, 65, 66, 67, 68, 69, 70, 71] (by decide +kernel) (by decide +kernel)) (goodIn_sub (fun _ h => List.mem_cons_of_mem _ (List.mem_append_left _ (List.mem_append_right _ h))) (by decide +kernel))) (goodIn_sub (fun _ h => List.mem_cons_of_mem _ (List.mem_append_right _ h)) (by decide +kernel))
set_option maxRecDepth 20000 in
theorem gX4_run_X4_sink : GoodIn wsX4_run (wsV RX4 83 RX4 yX4_sink wsX4_sink) := goodIn_app (goodIn_of _ (by decide +kernel)) ggX4_run_X4_sink
set_option maxRecDepth 20000 in
theorem ggX4_run_X4_rise : GoodIn wsX4_run wsX4_rise := goodIn_ca (goodIn_ca (goodIn_r _ [44, 5, 45, 20, 46, 47, 48, 10, 49, 6, 50, 51, 21, 22, 23, 24, 1, 25, 37, 38, 39, 40, 31, 32, 33, 34, 3, 35, 36, 26, 27, 28, 29, 30, 16, 17, 18, 19, 52, 53, 54, 55, 56, 57, 58, 59, 60, 61, 62, 63, 64, 65, 66, 67, 68, 69, 70, 71] (by decide +kernel) (by decide +kernel)) (goodIn_sub (fun _ h => List.mem_cons_of_mem _ (List.mem_append_left _ (List.mem_append_right _ h))) (by decide +kernel))) (goodIn_sub (fun _ h => List.mem_cons_of_mem _ (List.mem_append_right _ h)) (by decide +kernel))
set_option maxRecDepth 20000 in
theorem gX4_run_X4_rise : GoodIn wsX4_run (wsV RX4 92 RX4 yX4_rise wsX4_rise) := goodIn_app (goodIn_of _ (by decide +kernel)) ggX4_run_X4_rise
theorem dX4_run_0 : decode cX4_run 0 = .ok (.aload_n 0, 1) := by decide +kernel
theorem dX4_run_1 : decode cX4_run 1 = .ok (.iload_n 1, 1) := by decide +kernel
theorem dX4_run_2 : decode cX4_run 2 = .ok (.invokestatic 44, 3) := by decide +kernel
theorem dX4_run_5 : decode cX4_run 5 = .ok (.iconst 5, 1) := by decide +kernel
theorem dX4_run_6 : decode cX4_run 6 = .ok (.invokevirtual 48, 3) := by decide +kernel
theorem dX4_run_9 : decode cX4_run 9 = .ok (.ifCond .ne 5, 3) := by decide +kernel
theorem dX4_run_12 : decode cX4_run 12 = .ok (.lconst 0, 1) := by decide +kernel
theorem dX4_run_13 : decode cX4_run 13 = .ok (.lreturn, 1) := by decide +kernel
theorem dX4_run_14 : decode cX4_run 14 = .ok (.aload_n 0, 1) := by decide +kernel
theorem dX4_run_15 : decode cX4_run 15 = .ok (.iconst 0, 1) := by decide +kernel
theorem dX4_run_16 : decode cX4_run 16 = .ok (.putfield 52, 3) := by decide +kernel
theorem dX4_run_19 : decode cX4_run 19 = .ok (.aload_n 0, 1) := by decide +kernel
theorem dX4_run_20 : decode cX4_run 20 = .ok (.dup, 1) := by decide +kernel
theorem dX4_run_21 : decode cX4_run 21 = .ok (.getfield 89, 3) := by decide +kernel
theorem dX4_run_24 : decode cX4_run 24 = .ok (.iconst 1, 1) := by decide +kernel
theorem dX4_run_25 : decode cX4_run 25 = .ok (.iadd, 1) := by decide +kernel
theorem dX4_run_26 : decode cX4_run 26 = .ok (.putfield 89, 3) := by decide +kernel
theorem dX4_run_29 : decode cX4_run 29 = .ok (.aload_n 0, 1) := by decide +kernel
theorem dX4_run_30 : decode cX4_run 30 = .ok (.iconst 0, 1) := by decide +kernel
theorem dX4_run_31 : decode cX4_run 31 = .ok (.putfield 55, 3) := by decide +kernel
theorem dX4_run_34 : decode cX4_run 34 = .ok (.aload_n 0, 1) := by decide +kernel
theorem dX4_run_35 : decode cX4_run 35 = .ok (.aload_n 0, 1) := by decide +kernel
theorem dX4_run_36 : decode cX4_run 36 = .ok (.iload_n 1, 1) := by decide +kernel
theorem dX4_run_37 : decode cX4_run 37 = .ok (.aload_n 0, 1) := by decide +kernel
theorem dX4_run_38 : decode cX4_run 38 = .ok (.iload_n 1, 1) := by decide +kernel
theorem dX4_run_39 : decode cX4_run 39 = .ok (.iload_n 2, 1) := by decide +kernel
theorem dX4_run_40 : decode cX4_run 40 = .ok (.iload_n 3, 1) := by decide +kernel
theorem dX4_run_41 : decode cX4_run 41 = .ok (.invokevirtual 83, 3) := by decide +kernel
theorem dX4_run_44 : decode cX4_run 44 = .ok (.invokevirtual 92, 3) := by decide +kernel
theorem dX4_run_47 : decode cX4_run 47 = .ok (.putfield 34, 3) := by decide +kernel
theorem dX4_run_50 : decode cX4_run 50 = .ok (.aload_n 0, 1) := by decide +kernel
theorem dX4_run_51 : decode cX4_run 51 = .ok (.getfield 34, 3) := by decide +kernel
theorem dX4_run_54 : decode cX4_run 54 = .ok (.ifCond .ge 8, 3) := by decide +kernel
theorem dX4_run_57 : decode cX4_run 57 = .ok (.aload_n 0, 1) := by decide +kernel
theorem dX4_run_58 : decode cX4_run 58 = .ok (.getfield 58, 3) := by decide +kernel
theorem dX4_run_61 : decode cX4_run 61 = .ok (.lreturn, 1) := by decide +kernel
theorem dX4_run_62 : decode cX4_run 62 = .ok (.aload_n 0, 1) := by decide +kernel
theorem dX4_run_63 : decode cX4_run 63 = .ok (.aload_n 0, 1) := by decide +kernel
theorem dX4_run_64 : decode cX4_run 64 = .ok (.getfield 25, 3) := by decide +kernel
theorem dX4_run_67 : decode cX4_run 67 = .ok (.aload_n 0, 1) := by decide +kernel
theorem dX4_run_68 : decode cX4_run 68 = .ok (.getfield 34, 3) := by decide +kernel
theorem dX4_run_71 : decode cX4_run 71 = .ok (.iaload, 1) := by decide +kernel
theorem dX4_run_72 : decode cX4_run 72 = .ok (.iconst 1, 1) := by decide +kernel
theorem dX4_run_73 : decode cX4_run 73 = .ok (.if_icmp .ne 7, 3) := by decide +kernel
theorem dX4_run_76 : decode cX4_run 76 = .ok (.iconst 2, 1) := by decide +kernel
theorem dX4_run_77 : decode cX4_run 77 = .ok (.goto 46, 3) := by decide +kernel
theorem dX4_run_80 : decode cX4_run 80 = .ok (.aload_n 0, 1) := by decide +kernel
theorem dX4_run_81 : decode cX4_run 81 = .ok (.getfield 25, 3) := by decide +kernel
theorem dX4_run_84 : decode cX4_run 84 = .ok (.aload_n 0, 1) := by decide +kernel
theorem dX4_run_85 : decode cX4_run 85 = .ok (.getfield 34, 3) := by decide +kernel
theorem dX4_run_88 : decode cX4_run 88 = .ok (.iaload, 1) := by decide +kernel
theorem dX4_run_89 : decode cX4_run 89 = .ok (.iconst 2, 1) := by decide +kernel
theorem dX4_run_90 : decode cX4_run 90 = .ok (.if_icmp .ne 7, 3) := by decide +kernel
theorem dX4_run_93 : decode cX4_run 93 = .ok (.iconst 3, 1) := by decide +kernel
theorem dX4_run_94 : decode cX4_run 94 = .ok (.goto 29, 3) := by decide +kernel
theorem dX4_run_97 : decode cX4_run 97 = .ok (.aload_n 0, 1) := by decide +kernel
theorem dX4_run_98 : decode cX4_run 98 = .ok (.getfield 25, 3) := by decide +kernel
theorem dX4_run_101 : decode cX4_run 101 = .ok (.aload_n 0, 1) := by decide +kernel
theorem dX4_run_102 : decode cX4_run 102 = .ok (.getfield 34, 3) := by decide +kernel
theorem dX4_run_105 : decode cX4_run 105 = .ok (.iaload, 1) := by decide +kernel
theorem dX4_run_106 : decode cX4_run 106 = .ok (.iconst 3, 1) := by decide +kernel
theorem dX4_run_107 : decode cX4_run 107 = .ok (.if_icmp .ne 7, 3) := by decide +kernel
theorem dX4_run_110 : decode cX4_run 110 = .ok (.iconst 1, 1) := by decide +kernel
theorem dX4_run_111 : decode cX4_run 111 = .ok (.goto 12, 3) := by decide +kernel
theorem dX4_run_114 : decode cX4_run 114 = .ok (.aload_n 0, 1) := by decide +kernel
theorem dX4_run_115 : decode cX4_run 115 = .ok (.getfield 25, 3) := by decide +kernel
theorem dX4_run_118 : decode cX4_run 118 = .ok (.aload_n 0, 1) := by decide +kernel
theorem dX4_run_119 : decode cX4_run 119 = .ok (.getfield 34, 3) := by decide +kernel
theorem dX4_run_122 : decode cX4_run 122 = .ok (.iaload, 1) := by decide +kernel
theorem dX4_run_123 : decode cX4_run 123 = .ok (.putfield 41, 3) := by decide +kernel
theorem dX4_run_126 : decode cX4_run 126 = .ok (.lconst 0, 1) := by decide +kernel
theorem dX4_run_127 : decode cX4_run 127 = .ok (.lreturn, 1) := by decide +kernel
set_option maxRecDepth 20000 in
theorem ggX4_note_X4_good : GoodIn wsX4_note wsX4_good := goodIn_ca (goodIn_r _ [7, 8, 9, 10, 11, 12, 13, 14, 15, 16, 17, 18, 19, 20, 21, 22, 23] (by decide +kernel) (by decide +kernel)) (goodIn_sub (fun _ h => List.mem_cons_of_mem _ (List.mem_append_left _ (List.mem_append_right _ h))) (by decide +kernel))
set_option maxRecDepth 20000 in
theorem gX4_note_X4_good : GoodIn wsX4_note (wsV RX4 48 RX4 yX4_good wsX4_good) := goodIn_app (goodIn_of _ (by decide +kernel)) ggX4_note_X4_good
theorem dX4_note_0 : decode cX4_note 0 = .ok (.aload_n 0, 1) := by decide +kernel
theorem dX4_note_1 : decode cX4_note 1 = .ok (.iload_n 1, 1) := by decide +kernel
theorem dX4_note_2 : decode cX4_note 2 = .ok (.ifCond .lt 21, 3) := by decide +kernel
theorem dX4_note_5 : decode cX4_note 5 = .ok (.iload_n 1, 1) := by decide +kernel
theorem dX4_note_6 : decode cX4_note 6 = .ok (.aload_n 0, 1) := by decide +kernel
theorem dX4_note_7 : decode cX4_note 7 = .ok (.getfield 52, 3) := by decide +kernel
theorem dX4_note_10 : decode cX4_note 10 = .ok (.if_icmp .ge 13, 3) := by decide +kernel
theorem dX4_note_13 : decode cX4_note 13 = .ok (.iload_n 1, 1) := by decide +kernel
theorem dX4_note_14 : decode cX4_note 14 = .ok (.bipush 64, 2) := by decide +kernel
theorem dX4_note_16 : decode cX4_note 16 = .ok (.if_icmp .ge 7, 3) := by decide +kernel
theorem dX4_note_19 : decode cX4_note 19 = .ok (.iconst 1, 1) := by decide +kernel
theorem dX4_note_20 : decode cX4_note 20 = .ok (.goto 4, 3) := by decide +kernel
theorem dX4_note_23 : decode cX4_note 23 = .ok (.iconst 0, 1) := by decide +kernel
theorem dX4_note_24 : decode cX4_note 24 = .ok (.iconst 1, 1) := by decide +kernel
theorem dX4_note_25 : decode cX4_note 25 = .ok (.invokevirtual 48, 3) := by decide +kernel
theorem dX4_note_28 : decode cX4_note 28 = .ok (.ifCond .ne 5, 3) := by decide +kernel
theorem dX4_note_31 : decode cX4_note 31 = .ok (.iconst 0, 1) := by decide +kernel
theorem dX4_note_32 : decode cX4_note 32 = .ok (.ireturn, 1) := by decide +kernel
theorem dX4_note_33 : decode cX4_note 33 = .ok (.aload_n 0, 1) := by decide +kernel
theorem dX4_note_34 : decode cX4_note 34 = .ok (.getfield 22, 3) := by decide +kernel
theorem dX4_note_37 : decode cX4_note 37 = .ok (.iload_n 1, 1) := by decide +kernel
theorem dX4_note_38 : decode cX4_note 38 = .ok (.iaload, 1) := by decide +kernel
theorem dX4_note_39 : decode cX4_note 39 = .ok (.ireturn, 1) := by decide +kernel
set_option maxRecDepth 20000 in
theorem ggX4_count_X4_good : GoodIn wsX4_count wsX4_good := goodIn_ca (goodIn_r _ [11, 12, 13, 14, 15, 16, 17, 18, 19, 20, 21, 22, 23, 24, 25, 26, 27] (by decide +kernel) (by decide +kernel)) (goodIn_sub (fun _ h => List.mem_cons_of_mem _ (List.mem_append_left _ (List.mem_append_right _ h))) (by decide +kernel))
set_option maxRecDepth 20000 in
theorem gX4_count_X4_good : GoodIn wsX4_count (wsV RX4 48 RX4 yX4_good wsX4_good) := goodIn_app (goodIn_of _ (by decide +kernel)) ggX4_count_X4_good
theorem dX4_count_0 : decode cX4_count 0 = .ok (.aload_n 0, 1) := by decide +kernel
theorem dX4_count_1 : decode cX4_count 1 = .ok (.iload_n 1, 1) := by decide +kernel
theorem dX4_count_2 : decode cX4_count 2 = .ok (.ifCond .lt 13, 3) := by decide +kernel
theorem dX4_count_5 : decode cX4_count 5 = .ok (.iload_n 1, 1) := by decide +kernel
theorem dX4_count_6 : decode cX4_count 6 = .ok (.bipush 6, 2) := by decide +kernel
theorem dX4_count_8 : decode cX4_count 8 = .ok (.if_icmp .gt 7, 3) := by decide +kernel
theorem dX4_count_11 : decode cX4_count 11 = .ok (.iconst 1, 1) := by decide +kernel
theorem dX4_count_12 : decode cX4_count 12 = .ok (.goto 4, 3) := by decide +kernel
theorem dX4_count_15 : decode cX4_count 15 = .ok (.iconst 0, 1) := by decide +kernel
theorem dX4_count_16 : decode cX4_count 16 = .ok (.iconst 1, 1) := by decide +kernel
theorem dX4_count_17 : decode cX4_count 17 = .ok (.invokevirtual 48, 3) := by decide +kernel
theorem dX4_count_20 : decode cX4_count 20 = .ok (.ifCond .ne 5, 3) := by decide +kernel
theorem dX4_count_23 : decode cX4_count 23 = .ok (.iconst 0, 1) := by decide +kernel
theorem dX4_count_24 : decode cX4_count 24 = .ok (.ireturn, 1) := by decide +kernel
theorem dX4_count_25 : decode cX4_count 25 = .ok (.iconst 0, 1) := by decide +kernel
theorem dX4_count_26 : decode cX4_count 26 = .ok (.istore_n 2, 1) := by decide +kernel
theorem dX4_count_27 : decode cX4_count 27 = .ok (.iconst (-1), 1) := by decide +kernel
theorem dX4_count_28 : decode cX4_count 28 = .ok (.istore_n 3, 1) := by decide +kernel
theorem dX4_count_29 : decode cX4_count 29 = .ok (.aload_n 0, 1) := by decide +kernel
theorem dX4_count_30 : decode cX4_count 30 = .ok (.getfield 34, 3) := by decide +kernel
theorem dX4_count_33 : decode cX4_count 33 = .ok (.ifCond .ge 7, 3) := by decide +kernel
theorem dX4_count_36 : decode cX4_count 36 = .ok (.iconst (-1), 1) := by decide +kernel
theorem dX4_count_37 : decode cX4_count 37 = .ok (.goto 12, 3) := by decide +kernel
theorem dX4_count_40 : decode cX4_count 40 = .ok (.aload_n 0, 1) := by decide +kernel
theorem dX4_count_41 : decode cX4_count 41 = .ok (.getfield 31, 3) := by decide +kernel
theorem dX4_count_44 : decode cX4_count 44 = .ok (.aload_n 0, 1) := by decide +kernel
theorem dX4_count_45 : decode cX4_count 45 = .ok (.getfield 34, 3) := by decide +kernel
theorem dX4_count_48 : decode cX4_count 48 = .ok (.iaload, 1) := by decide +kernel
theorem dX4_count_49 : decode cX4_count 49 = .ok (.istore 4, 2) := by decide +kernel
theorem dX4_count_51 : decode cX4_count 51 = .ok (.iload 4, 2) := by decide +kernel
theorem dX4_count_53 : decode cX4_count 53 = .ok (.ifCond .lt 21, 3) := by decide +kernel
theorem dX4_count_56 : decode cX4_count 56 = .ok (.iinc 2 1, 3) := by decide +kernel
theorem dX4_count_59 : decode cX4_count 59 = .ok (.iload 4, 2) := by decide +kernel
theorem dX4_count_61 : decode cX4_count 61 = .ok (.istore_n 3, 1) := by decide +kernel
theorem dX4_count_62 : decode cX4_count 62 = .ok (.aload_n 0, 1) := by decide +kernel
theorem dX4_count_63 : decode cX4_count 63 = .ok (.getfield 31, 3) := by decide +kernel
theorem dX4_count_66 : decode cX4_count 66 = .ok (.iload 4, 2) := by decide +kernel
theorem dX4_count_68 : decode cX4_count 68 = .ok (.iaload, 1) := by decide +kernel
theorem dX4_count_69 : decode cX4_count 69 = .ok (.istore 4, 2) := by decide +kernel
theorem dX4_count_71 : decode cX4_count 71 = .ok (.goto (-20), 3) := by decide +kernel
theorem dX4_count_74 : decode cX4_count 74 = .ok (.iload_n 1, 1) := by decide +kernel
theorem dX4_count_75 : decode cX4_count 75 = .ok (.tableswitch 106 0 5 #[37, 42, 47, 68, 89, 91], 37) := by decide +kernel
theorem dX4_count_112 : decode cX4_count 112 = .ok (.aload_n 0, 1) := by decide +kernel
theorem dX4_count_113 : decode cX4_count 113 = .ok (.getfield 52, 3) := by decide +kernel
theorem dX4_count_116 : decode cX4_count 116 = .ok (.ireturn, 1) := by decide +kernel
theorem dX4_count_117 : decode cX4_count 117 = .ok (.aload_n 0, 1) := by decide +kernel
theorem dX4_count_118 : decode cX4_count 118 = .ok (.getfield 89, 3) := by decide +kernel
theorem dX4_count_121 : decode cX4_count 121 = .ok (.ireturn, 1) := by decide +kernel
theorem dX4_count_122 : decode cX4_count 122 = .ok (.aload_n 0, 1) := by decide +kernel
theorem dX4_count_123 : decode cX4_count 123 = .ok (.getfield 34, 3) := by decide +kernel
theorem dX4_count_126 : decode cX4_count 126 = .ok (.ifCond .ge 7, 3) := by decide +kernel
theorem dX4_count_129 : decode cX4_count 129 = .ok (.iconst 0, 1) := by decide +kernel
theorem dX4_count_130 : decode cX4_count 130 = .ok (.goto 12, 3) := by decide +kernel
theorem dX4_count_133 : decode cX4_count 133 = .ok (.aload_n 0, 1) := by decide +kernel
theorem dX4_count_134 : decode cX4_count 134 = .ok (.getfield 25, 3) := by decide +kernel
theorem dX4_count_137 : decode cX4_count 137 = .ok (.aload_n 0, 1) := by decide +kernel
theorem dX4_count_138 : decode cX4_count 138 = .ok (.getfield 34, 3) := by decide +kernel
theorem dX4_count_141 : decode cX4_count 141 = .ok (.iaload, 1) := by decide +kernel
theorem dX4_count_142 : decode cX4_count 142 = .ok (.ireturn, 1) := by decide +kernel
theorem dX4_count_143 : decode cX4_count 143 = .ok (.aload_n 0, 1) := by decide +kernel
theorem dX4_count_144 : decode cX4_count 144 = .ok (.getfield 34, 3) := by decide +kernel
theorem dX4_count_147 : decode cX4_count 147 = .ok (.ifCond .ge 7, 3) := by decide +kernel
theorem dX4_count_150 : decode cX4_count 150 = .ok (.iconst 0, 1) := by decide +kernel
theorem dX4_count_151 : decode cX4_count 151 = .ok (.goto 12, 3) := by decide +kernel
theorem dX4_count_154 : decode cX4_count 154 = .ok (.aload_n 0, 1) := by decide +kernel
theorem dX4_count_155 : decode cX4_count 155 = .ok (.getfield 28, 3) := by decide +kernel
theorem dX4_count_158 : decode cX4_count 158 = .ok (.aload_n 0, 1) := by decide +kernel
theorem dX4_count_159 : decode cX4_count 159 = .ok (.getfield 34, 3) := by decide +kernel
theorem dX4_count_162 : decode cX4_count 162 = .ok (.iaload, 1) := by decide +kernel
theorem dX4_count_163 : decode cX4_count 163 = .ok (.ireturn, 1) := by decide +kernel
theorem dX4_count_164 : decode cX4_count 164 = .ok (.iload_n 2, 1) := by decide +kernel
theorem dX4_count_165 : decode cX4_count 165 = .ok (.ireturn, 1) := by decide +kernel
theorem dX4_count_166 : decode cX4_count 166 = .ok (.iload_n 3, 1) := by decide +kernel
theorem dX4_count_167 : decode cX4_count 167 = .ok (.ifCond .ge 7, 3) := by decide +kernel
theorem dX4_count_170 : decode cX4_count 170 = .ok (.iconst 0, 1) := by decide +kernel
theorem dX4_count_171 : decode cX4_count 171 = .ok (.goto 9, 3) := by decide +kernel
theorem dX4_count_174 : decode cX4_count 174 = .ok (.aload_n 0, 1) := by decide +kernel
theorem dX4_count_175 : decode cX4_count 175 = .ok (.getfield 25, 3) := by decide +kernel
theorem dX4_count_178 : decode cX4_count 178 = .ok (.iload_n 3, 1) := by decide +kernel
theorem dX4_count_179 : decode cX4_count 179 = .ok (.iaload, 1) := by decide +kernel
theorem dX4_count_180 : decode cX4_count 180 = .ok (.ireturn, 1) := by decide +kernel
theorem dX4_count_181 : decode cX4_count 181 = .ok (.iload_n 3, 1) := by decide +kernel
theorem dX4_count_182 : decode cX4_count 182 = .ok (.ifCond .ge 7, 3) := by decide +kernel
theorem dX4_count_185 : decode cX4_count 185 = .ok (.iconst 0, 1) := by decide +kernel
theorem dX4_count_186 : decode cX4_count 186 = .ok (.goto 9, 3) := by decide +kernel
theorem dX4_count_189 : decode cX4_count 189 = .ok (.aload_n 0, 1) := by decide +kernel
theorem dX4_count_190 : decode cX4_count 190 = .ok (.getfield 28, 3) := by decide +kernel
theorem dX4_count_193 : decode cX4_count 193 = .ok (.iload_n 3, 1) := by decide +kernel
theorem dX4_count_194 : decode cX4_count 194 = .ok (.iaload, 1) := by decide +kernel
theorem dX4_count_195 : decode cX4_count 195 = .ok (.ireturn, 1) := by decide +kernel
theorem dJx00060_init_a7421_0 : decode cJx00060_init_a7421 0 = .ok (.aload_n 0, 1) := by decide +kernel
theorem dJx00060_init_a7421_1 : decode cJx00060_init_a7421 1 = .ok (.aload_n 1, 1) := by decide +kernel
theorem dJx00060_init_a7421_2 : decode cJx00060_init_a7421 2 = .ok (.invokespecial 7, 3) := by decide +kernel
theorem dJx00060_init_a7421_5 : decode cJx00060_init_a7421 5 = .ok (.return_, 1) := by decide +kernel
theorem dJ9_min_7cf53_0 : decode cJ9_min_7cf53 0 = .ok (.iload_n 0, 1) := by decide +kernel
theorem dJ9_min_7cf53_1 : decode cJ9_min_7cf53 1 = .ok (.iload_n 1, 1) := by decide +kernel
theorem dJ9_min_7cf53_2 : decode cJ9_min_7cf53 2 = .ok (.if_icmp .gt 7, 3) := by decide +kernel
theorem dJ9_min_7cf53_5 : decode cJ9_min_7cf53 5 = .ok (.iload_n 0, 1) := by decide +kernel
theorem dJ9_min_7cf53_6 : decode cJ9_min_7cf53 6 = .ok (.goto 4, 3) := by decide +kernel
theorem dJ9_min_7cf53_9 : decode cJ9_min_7cf53 9 = .ok (.iload_n 1, 1) := by decide +kernel
theorem dJ9_min_7cf53_10 : decode cJ9_min_7cf53 10 = .ok (.ireturn, 1) := by decide +kernel
theorem dJx5d777_init_da8c8_0 : decode cJx5d777_init_da8c8 0 = .ok (.aload_n 0, 1) := by decide +kernel
theorem dJx5d777_init_da8c8_1 : decode cJx5d777_init_da8c8 1 = .ok (.invokespecial 1, 3) := by decide +kernel
theorem dJx5d777_init_da8c8_4 : decode cJx5d777_init_da8c8 4 = .ok (.return_, 1) := by decide +kernel
theorem dJx5d777_init_a7421_0 : decode cJx5d777_init_a7421 0 = .ok (.aload_n 0, 1) := by decide +kernel
theorem dJx5d777_init_a7421_1 : decode cJx5d777_init_a7421 1 = .ok (.aload_n 1, 1) := by decide +kernel
theorem dJx5d777_init_a7421_2 : decode cJx5d777_init_a7421 2 = .ok (.invokespecial 7, 3) := by decide +kernel
theorem dJx5d777_init_a7421_5 : decode cJx5d777_init_a7421 5 = .ok (.return_, 1) := by decide +kernel
theorem dJx5d777_fillInStackTrace_cddbd_0 : decode cJx5d777_fillInStackTrace_cddbd 0 = .ok (.aload_n 0, 1) := by decide +kernel
theorem dJx5d777_fillInStackTrace_cddbd_1 : decode cJx5d777_fillInStackTrace_cddbd 1 = .ok (.getfield 10, 3) := by decide +kernel
theorem dJx5d777_fillInStackTrace_cddbd_4 : decode cJx5d777_fillInStackTrace_cddbd 4 = .ok (.ifCond .ne 11, 3) := by decide +kernel
theorem dJx5d777_fillInStackTrace_cddbd_7 : decode cJx5d777_fillInStackTrace_cddbd 7 = .ok (.aload_n 0, 1) := by decide +kernel
theorem dJx5d777_fillInStackTrace_cddbd_8 : decode cJx5d777_fillInStackTrace_cddbd 8 = .ok (.iconst 1, 1) := by decide +kernel
theorem dJx5d777_fillInStackTrace_cddbd_9 : decode cJx5d777_fillInStackTrace_cddbd 9 = .ok (.putfield 10, 3) := by decide +kernel
theorem dJx5d777_fillInStackTrace_cddbd_12 : decode cJx5d777_fillInStackTrace_cddbd 12 = .ok (.goto 24, 3) := by decide +kernel
theorem dJx5d777_fillInStackTrace_cddbd_15 : decode cJx5d777_fillInStackTrace_cddbd 15 = .ok (.aload_n 0, 1) := by decide +kernel
theorem dJx5d777_fillInStackTrace_cddbd_16 : decode cJx5d777_fillInStackTrace_cddbd 16 = .ok (.getfield 10, 3) := by decide +kernel
theorem dJx5d777_fillInStackTrace_cddbd_19 : decode cJx5d777_fillInStackTrace_cddbd 19 = .ok (.iconst 1, 1) := by decide +kernel
theorem dJx5d777_fillInStackTrace_cddbd_20 : decode cJx5d777_fillInStackTrace_cddbd 20 = .ok (.if_icmp .ne 16, 3) := by decide +kernel
theorem dJx5d777_fillInStackTrace_cddbd_23 : decode cJx5d777_fillInStackTrace_cddbd 23 = .ok (.aload_n 0, 1) := by decide +kernel
theorem dJx5d777_fillInStackTrace_cddbd_24 : decode cJx5d777_fillInStackTrace_cddbd 24 = .ok (.aload_n 0, 1) := by decide +kernel
theorem dJx5d777_fillInStackTrace_cddbd_25 : decode cJx5d777_fillInStackTrace_cddbd 25 = .ok (.invokevirtual 16, 3) := by decide +kernel
theorem dJx5d777_fillInStackTrace_cddbd_28 : decode cJx5d777_fillInStackTrace_cddbd 28 = .ok (.putfield 20, 3) := by decide +kernel
theorem dJx5d777_fillInStackTrace_cddbd_31 : decode cJx5d777_fillInStackTrace_cddbd 31 = .ok (.aload_n 0, 1) := by decide +kernel
theorem dJx5d777_fillInStackTrace_cddbd_32 : decode cJx5d777_fillInStackTrace_cddbd 32 = .ok (.iconst 2, 1) := by decide +kernel
theorem dJx5d777_fillInStackTrace_cddbd_33 : decode cJx5d777_fillInStackTrace_cddbd 33 = .ok (.putfield 10, 3) := by decide +kernel
theorem dJx5d777_fillInStackTrace_cddbd_36 : decode cJx5d777_fillInStackTrace_cddbd 36 = .ok (.aload_n 0, 1) := by decide +kernel
theorem dJx5d777_fillInStackTrace_cddbd_37 : decode cJx5d777_fillInStackTrace_cddbd 37 = .ok (.invokespecial 24, 3) := by decide +kernel
theorem dJx5d777_fillInStackTrace_cddbd_40 : decode cJx5d777_fillInStackTrace_cddbd 40 = .ok (.areturn, 1) := by decide +kernel
set_option maxRecDepth 20000 in
theorem ggL_set_X3_set : GoodIn wsL_set wsX3_set := goodIn_ca (goodIn_r _ [6, 7, 8, 9, 10, 11, 12, 5, 13, 14, 15, 16, 17, 18, 19, 20, 21, 22, 23, 24, 25, 26, 27] (by decide +kernel) (by decide +kernel)) (goodIn_sub (fun _ h => List.mem_cons_of_mem _ (List.mem_append_left _ (List.mem_append_right _ h))) (by decide +kernel))
set_option maxRecDepth 20000 in
theorem gL_set_X3_set : GoodIn wsL_set (wsV RL 7 RX3 yX3_set wsX3_set) := goodIn_app (goodIn_of _ (by decide +kernel)) ggL_set_X3_set
theorem dL_set_0 : decode cL_set 0 = .ok (.aload 6, 2) := by decide +kernel
theorem dL_set_2 : decode cL_set 2 = .ok (.iconst 0, 1) := by decide +kernel
theorem dL_set_3 : decode cL_set 3 = .ok (.aload_n 0, 1) := by decide +kernel
theorem dL_set_4 : decode cL_set 4 = .ok (.iload_n 1, 1) := by decide +kernel
theorem dL_set_5 : decode cL_set 5 = .ok (.iload_n 2, 1) := by decide +kernel
theorem dL_set_6 : decode cL_set 6 = .ok (.iload_n 3, 1) := by decide +kernel
theorem dL_set_7 : decode cL_set 7 = .ok (.iload 4, 2) := by decide +kernel
theorem dL_set_9 : decode cL_set 9 = .ok (.iload 5, 2) := by decide +kernel
theorem dL_set_11 : decode cL_set 11 = .ok (.invokevirtual 7, 3) := by decide +kernel
theorem dL_set_14 : decode cL_set 14 = .ok (.i2l, 1) := by decide +kernel
theorem dL_set_15 : decode cL_set 15 = .ok (.lastore, 1) := by decide +kernel
theorem dL_set_16 : decode cL_set 16 = .ok (.goto 7, 3) := by decide +kernel
theorem dL_set_19 : decode cL_set 19 = .ok (.astore 7, 2) := by decide +kernel
theorem dL_set_21 : decode cL_set 21 = .ok (.iconst 1, 1) := by decide +kernel
theorem dL_set_22 : decode cL_set 22 = .ok (.ireturn, 1) := by decide +kernel
theorem dL_set_23 : decode cL_set 23 = .ok (.iconst 0, 1) := by decide +kernel
theorem dL_set_24 : decode cL_set 24 = .ok (.ireturn, 1) := by decide +kernel
set_option maxRecDepth 20000 in
theorem ggL_run_X3_run : GoodIn wsL_run wsX3_run := goodIn_ca (goodIn_ca (goodIn_ca (goodIn_ca (goodIn_ca (goodIn_r _ [10, 11, 12, 13, 14, 15, 16, 17, 18, 9, 19, 20, 21, 22, 23, 24, 25, 26, 27, 28, 29, 30, 31, 32, 33, 34, 35, 36, 37, 38, 39, 40, 41, 42, 43, 44, 45, 46, 47, 48, 49, 50, 51, 52, 53, 54, 55, 56, 57, 58, 59, 60, 61, 62, 63, 64, 65, 66, 67, 68, 69, 70, 71, 72, 73, 74, 75, 76, 77, 78, 79, 80, 81, 82, 83, 84, 85, 86, 87, 88, 89, 90, 91, 92, 93, 94, 95, 96, 97, 98, 99, 100, 101, 102, 103, 104, 105, 106, 107, 108, 109, 110, 111, 112, 113, 114, 115, 116, 117, 118, 119, 120, 121] (by decide +kernel) (by decide +kernel)) (goodIn_sub (fun _ h => List.mem_cons_of_mem _ (List.mem_append_left _ (List.mem_append_left _ (List.mem_append_left _ (List.mem_append_left _ (List.mem_append_right _ h)))))) (by decide +kernel))) (goodIn_sub (fun _ h => List.mem_cons_of_mem _ (List.mem_append_left _ (List.mem_append_left _ (List.mem_append_left _ (List.mem_append_right _ h))))) (by decide +kernel))) (goodIn_sub (fun _ h => List.mem_cons_of_mem _ (List.mem_append_left _ (List.mem_append_left _ (List.mem_append_right _ h)))) (by decide +kernel))) (goodIn_sub (fun _ h => List.mem_cons_of_mem _ (List.mem_append_left _ (List.mem_append_right _ h))) (by decide +kernel))) (goodIn_sub (fun _ h => List.mem_cons_of_mem _ (List.mem_append_right _ h)) (by decide +kernel))
set_option maxRecDepth 20000 in
theorem gL_run_X3_run : GoodIn wsL_run (wsV RL 15 RX3 yX3_run wsX3_run) := goodIn_app (goodIn_of _ (by decide +kernel)) ggL_run_X3_run
theorem dL_run_0 : decode cL_run 0 = .ok (.aload 4, 2) := by decide +kernel
theorem dL_run_2 : decode cL_run 2 = .ok (.iconst 0, 1) := by decide +kernel
theorem dL_run_3 : decode cL_run 3 = .ok (.aload_n 0, 1) := by decide +kernel
theorem dL_run_4 : decode cL_run 4 = .ok (.iload_n 1, 1) := by decide +kernel
theorem dL_run_5 : decode cL_run 5 = .ok (.iload_n 2, 1) := by decide +kernel
theorem dL_run_6 : decode cL_run 6 = .ok (.iload_n 3, 1) := by decide +kernel
theorem dL_run_7 : decode cL_run 7 = .ok (.invokevirtual 15, 3) := by decide +kernel
theorem dL_run_10 : decode cL_run 10 = .ok (.lastore, 1) := by decide +kernel
theorem dL_run_11 : decode cL_run 11 = .ok (.goto 23, 3) := by decide +kernel
theorem dL_run_14 : decode cL_run 14 = .ok (.astore 5, 2) := by decide +kernel
theorem dL_run_16 : decode cL_run 16 = .ok (.iconst 1, 1) := by decide +kernel
theorem dL_run_17 : decode cL_run 17 = .ok (.ireturn, 1) := by decide +kernel
theorem dL_run_18 : decode cL_run 18 = .ok (.astore 5, 2) := by decide +kernel
theorem dL_run_20 : decode cL_run 20 = .ok (.iconst 2, 1) := by decide +kernel
theorem dL_run_21 : decode cL_run 21 = .ok (.ireturn, 1) := by decide +kernel
theorem dL_run_22 : decode cL_run 22 = .ok (.astore 5, 2) := by decide +kernel
theorem dL_run_24 : decode cL_run 24 = .ok (.iconst 3, 1) := by decide +kernel
theorem dL_run_25 : decode cL_run 25 = .ok (.ireturn, 1) := by decide +kernel
theorem dL_run_26 : decode cL_run 26 = .ok (.astore 5, 2) := by decide +kernel
theorem dL_run_28 : decode cL_run 28 = .ok (.iconst 4, 1) := by decide +kernel
theorem dL_run_29 : decode cL_run 29 = .ok (.ireturn, 1) := by decide +kernel
theorem dL_run_30 : decode cL_run 30 = .ok (.astore 5, 2) := by decide +kernel
theorem dL_run_32 : decode cL_run 32 = .ok (.iconst 5, 1) := by decide +kernel
theorem dL_run_33 : decode cL_run 33 = .ok (.ireturn, 1) := by decide +kernel
theorem dL_run_34 : decode cL_run 34 = .ok (.iconst 0, 1) := by decide +kernel
theorem dL_run_35 : decode cL_run 35 = .ok (.ireturn, 1) := by decide +kernel
set_option maxRecDepth 20000 in
theorem ggL_note_X3_note : GoodIn wsL_note wsX3_note := goodIn_ca (goodIn_ca (goodIn_r _ [6, 7, 8, 9, 10, 11, 12, 13, 14, 15, 16, 17, 18, 19, 20, 21, 22, 23, 24, 25, 26, 27, 28, 29, 30, 31, 32, 33] (by decide +kernel) (by decide +kernel)) (goodIn_sub (fun _ h => List.mem_cons_of_mem _ (List.mem_append_left _ (List.mem_append_right _ h))) (by decide +kernel))) (goodIn_sub (fun _ h => List.mem_cons_of_mem _ (List.mem_append_right _ h)) (by decide +kernel))
set_option maxRecDepth 20000 in
theorem gL_note_X3_note : GoodIn wsL_note (wsV RL 27 RX3 yX3_note wsX3_note) := goodIn_app (goodIn_of _ (by decide +kernel)) ggL_note_X3_note
theorem dL_note_0 : decode cL_note 0 = .ok (.aload_n 2, 1) := by decide +kernel
theorem dL_note_1 : decode cL_note 1 = .ok (.iconst 0, 1) := by decide +kernel
theorem dL_note_2 : decode cL_note 2 = .ok (.aload_n 0, 1) := by decide +kernel
theorem dL_note_3 : decode cL_note 3 = .ok (.iload_n 1, 1) := by decide +kernel
theorem dL_note_4 : decode cL_note 4 = .ok (.invokevirtual 27, 3) := by decide +kernel
theorem dL_note_7 : decode cL_note 7 = .ok (.i2l, 1) := by decide +kernel
theorem dL_note_8 : decode cL_note 8 = .ok (.lastore, 1) := by decide +kernel
theorem dL_note_9 : decode cL_note 9 = .ok (.goto 6, 3) := by decide +kernel
theorem dL_note_12 : decode cL_note 12 = .ok (.astore_n 3, 1) := by decide +kernel
theorem dL_note_13 : decode cL_note 13 = .ok (.iconst 1, 1) := by decide +kernel
theorem dL_note_14 : decode cL_note 14 = .ok (.ireturn, 1) := by decide +kernel
theorem dL_note_15 : decode cL_note 15 = .ok (.iconst 0, 1) := by decide +kernel
theorem dL_note_16 : decode cL_note 16 = .ok (.ireturn, 1) := by decide +kernel
set_option maxRecDepth 20000 in
theorem ggL_count_X3_count : GoodIn wsL_count wsX3_count := goodIn_ca (goodIn_ca (goodIn_r _ [6, 7, 8, 9, 10, 11, 12, 13, 14, 15, 16, 17, 18, 19, 20, 21, 22, 23, 24, 25, 26, 27, 28, 29, 30, 31, 32, 33, 34, 35, 36, 37, 38, 39, 40, 41, 42, 43, 44, 45, 46, 47, 48, 49, 50, 51, 52, 53, 54] (by decide +kernel) (by decide +kernel)) (goodIn_sub (fun _ h => List.mem_cons_of_mem _ (List.mem_append_left _ (List.mem_append_right _ h))) (by decide +kernel))) (goodIn_sub (fun _ h => List.mem_cons_of_mem _ (List.mem_append_right _ h)) (by decide +kernel))
set_option maxRecDepth 20000 in
theorem gL_count_X3_count : GoodIn wsL_count (wsV RL 31 RX3 yX3_count wsX3_count) := goodIn_app (goodIn_of _ (by decide +kernel)) ggL_count_X3_count
theorem dL_count_0 : decode cL_count 0 = .ok (.aload_n 2, 1) := by decide +kernel
theorem dL_count_1 : decode cL_count 1 = .ok (.iconst 0, 1) := by decide +kernel
theorem dL_count_2 : decode cL_count 2 = .ok (.aload_n 0, 1) := by decide +kernel
theorem dL_count_3 : decode cL_count 3 = .ok (.iload_n 1, 1) := by decide +kernel
theorem dL_count_4 : decode cL_count 4 = .ok (.invokevirtual 31, 3) := by decide +kernel
theorem dL_count_7 : decode cL_count 7 = .ok (.i2l, 1) := by decide +kernel
theorem dL_count_8 : decode cL_count 8 = .ok (.lastore, 1) := by decide +kernel
theorem dL_count_9 : decode cL_count 9 = .ok (.goto 6, 3) := by decide +kernel
theorem dL_count_12 : decode cL_count 12 = .ok (.astore_n 3, 1) := by decide +kernel
theorem dL_count_13 : decode cL_count 13 = .ok (.iconst 1, 1) := by decide +kernel
theorem dL_count_14 : decode cL_count 14 = .ok (.ireturn, 1) := by decide +kernel
theorem dL_count_15 : decode cL_count 15 = .ok (.iconst 0, 1) := by decide +kernel
theorem dL_count_16 : decode cL_count 16 = .ok (.ireturn, 1) := by decide +kernel
set_option maxRecDepth 20000 in
theorem ggL_law_X3_init : GoodIn wsL_law wsX3_init := goodIn_r _ [9, 10, 11, 12, 13, 14, 15, 16, 17, 18, 19, 20, 21, 22, 23, 24, 25, 26, 27, 28, 29, 30, 31, 32, 33, 34, 35, 36, 37, 251, 252, 253, 254, 270, 271, 272, 273, 274, 275, 276, 277, 278] (by decide +kernel) (by decide +kernel)
set_option maxRecDepth 20000 in
theorem gL_law_X3_init : GoodIn wsL_law (wsX3_init) := ggL_law_X3_init
set_option maxRecDepth 20000 in
theorem ggL_law_X4_init : GoodIn wsL_law wsX4_init := goodIn_r _ [40, 41, 11, 12, 28, 42, 43, 44, 45, 46, 47, 48, 49, 50, 51, 255, 256, 257, 258, 259, 260, 261, 262, 263, 264, 265, 266, 267, 268, 269] (by decide +kernel) (by decide +kernel)
set_option maxRecDepth 20000 in
theorem gL_law_X4_init : GoodIn wsL_law (wsX4_init) := ggL_law_X4_init
set_option maxRecDepth 20000 in
theorem ggL_law_L_set : GoodIn wsL_law wsL_set := goodIn_ca (goodIn_ca (goodIn_r _ [55, 56, 57, 58, 59, 2, 60, 61, 62, 63, 14, 64, 65, 66, 279, 280, 281, 282, 283, 284, 251, 252, 253, 254, 275, 276, 277, 278] (by decide +kernel) (by decide +kernel)) (goodIn_sub (fun _ h => List.mem_append_left _ (List.mem_append_left _ (List.mem_append_left _ (List.mem_append_left _ (List.mem_append_right _ h))))) (by decide +kernel))) (goodIn_sub (fun _ h => List.mem_append_left _ (List.mem_append_left _ (List.mem_append_left _ (List.mem_append_right _ h)))) (by decide +kernel))
set_option maxRecDepth 20000 in
theorem gL_law_L_set : GoodIn wsL_law (va_wsS RL 38 yL_set wsL_set) := goodIn_app (goodIn_of _ (by decide +kernel)) ggL_law_L_set
set_option maxRecDepth 20000 in
theorem ggL_law_X4_set : GoodIn wsL_law wsX4_set := goodIn_ca (goodIn_ca (goodIn_r _ [70, 45, 42, 43, 44, 71, 72, 5, 73, 74, 75, 76, 77, 78, 255, 256, 257, 258, 259, 260, 261, 262, 263, 264, 265, 266, 267, 268, 269] (by decide +kernel) (by decide +kernel)) (goodIn_sub (fun _ h => List.mem_append_left _ (List.mem_append_left _ (List.mem_append_left _ (List.mem_append_left _ (List.mem_append_right _ h))))) (by decide +kernel))) (goodIn_sub (fun _ h => List.mem_append_left _ (List.mem_append_left _ (List.mem_append_left _ (List.mem_append_right _ h)))) (by decide +kernel))
set_option maxRecDepth 20000 in
theorem gL_law_X4_set : GoodIn wsL_law (wsV RL 43 RX4 yX4_set wsX4_set) := goodIn_app (goodIn_of _ (by decide +kernel)) ggL_law_X4_set
set_option maxRecDepth 20000 in
theorem ggL_law_X4_thrown : GoodIn wsL_law wsX4_thrown := goodIn_r _ [82, 78, 255, 256, 257, 258, 259, 260, 261, 262, 263, 264, 265, 266, 267, 268, 269] (by decide +kernel) (by decide +kernel)
set_option maxRecDepth 20000 in
theorem gL_law_X4_thrown : GoodIn wsL_law (wsV RL 44 RX4 yX4_thrown wsX4_thrown) := goodIn_app (goodIn_of _ (by decide +kernel)) ggL_law_X4_thrown
set_option maxRecDepth 20000 in
theorem ggL_law_L_run : GoodIn wsL_law wsL_run := goodIn_ca (goodIn_ca (goodIn_ca (goodIn_ca (goodIn_ca (goodIn_r _ [85, 86, 87, 88, 89, 56, 90, 91, 92, 2, 93, 61, 62, 63, 94, 18, 22, 64, 65, 66, 95, 96, 97, 17, 98, 99, 100, 101, 102, 21, 103, 104, 105, 106, 107, 108, 14, 109, 110, 111, 112, 29, 113, 114, 115, 116, 117, 118, 119, 33, 120, 121, 122, 24, 123, 124, 125, 126, 127, 128, 129, 130, 131, 132, 133, 134, 135, 136, 137, 138, 139, 34, 140, 141, 142, 143, 144, 145, 146, 147, 148, 149, 150, 151, 152, 153, 154, 155, 156, 157, 158, 159, 160, 161, 162, 279, 280, 281, 282, 283, 284, 251, 252, 253, 254, 270, 271, 272, 273, 274, 275, 276, 277, 278, 285, 286, 287, 288, 289, 290, 291, 292] (by decide +kernel) (by decide +kernel)) (goodIn_sub (fun _ h => List.mem_append_left _ (List.mem_append_left _ (List.mem_append_left _ (List.mem_append_left _ (List.mem_append_right _ h))))) (by decide +kernel))) (goodIn_sub (fun _ h => List.mem_append_left _ (List.mem_append_left _ (List.mem_append_left _ (List.mem_append_right _ h)))) (by decide +kernel))) (goodIn_sub (fun _ h => List.mem_append_left _ (List.mem_append_left _ (List.mem_append_right _ h))) (by decide +kernel))) (goodIn_sub (fun _ h => List.mem_append_left _ (List.mem_append_right _ h)) (by decide +kernel))) (goodIn_sub (fun _ h => List.mem_append_right _ h) (by decide +kernel))
set_option maxRecDepth 20000 in
theorem gL_law_L_run : GoodIn wsL_law (va_wsS RL 48 yL_run wsL_run) := goodIn_app (goodIn_of _ (by decide +kernel)) ggL_law_L_run
set_option maxRecDepth 20000 in
theorem ggL_law_X4_run : GoodIn wsL_law wsX4_run := goodIn_ca (goodIn_ca (goodIn_r _ [166, 167, 168, 169, 50, 170, 47, 78, 71, 72, 5, 73, 74, 75, 76, 77, 171, 172, 173, 174, 51, 175, 176, 177, 178, 46, 179, 180, 181, 182, 183, 184, 185, 186, 187, 48, 49, 188, 189, 190, 191, 192, 193, 194, 195, 45, 196, 197, 198, 199, 42, 43, 200, 201, 202, 203, 44, 255, 256, 257, 258, 259, 260, 261, 262, 263, 264, 265, 266, 267, 268, 269] (by decide +kernel) (by decide +kernel)) (goodIn_sub (fun _ h => List.mem_append_left _ (List.mem_append_left _ (List.mem_append_left _ (List.mem_append_left _ (List.mem_append_right _ h))))) (by decide +kernel))) (goodIn_sub (fun _ h => List.mem_append_left _ (List.mem_append_left _ (List.mem_append_left _ (List.mem_append_right _ h)))) (by decide +kernel))
set_option maxRecDepth 20000 in
theorem gL_law_X4_run : GoodIn wsL_law (wsV RL 51 RX4 yX4_run wsX4_run) := goodIn_app (goodIn_of _ (by decide +kernel)) ggL_law_X4_run
set_option maxRecDepth 20000 in
theorem ggL_law_L_note : GoodIn wsL_law wsL_note := goodIn_ca (goodIn_ca (goodIn_r _ [206, 56, 207, 208, 209, 2, 210, 18, 61, 62, 63, 211, 212, 213, 17, 214, 99, 29, 215, 216, 217, 218, 251, 252, 253, 254, 279, 280, 281, 282, 283, 284, 270, 271] (by decide +kernel) (by decide +kernel)) (goodIn_sub (fun _ h => List.mem_append_left _ (List.mem_append_left _ (List.mem_append_left _ (List.mem_append_left _ (List.mem_append_right _ h))))) (by decide +kernel))) (goodIn_sub (fun _ h => List.mem_append_left _ (List.mem_append_left _ (List.mem_append_left _ (List.mem_append_right _ h)))) (by decide +kernel))
set_option maxRecDepth 20000 in
theorem gL_law_L_note : GoodIn wsL_law (va_wsS RL 52 yL_note wsL_note) := goodIn_app (goodIn_of _ (by decide +kernel)) ggL_law_L_note
set_option maxRecDepth 20000 in
theorem ggL_law_X4_note : GoodIn wsL_law wsX4_note := goodIn_ca (goodIn_ca (goodIn_r _ [222, 167, 46, 74, 75, 76, 5, 77, 78, 255, 256, 257, 258, 259, 260, 261, 262, 263, 264, 265, 266, 267, 268, 269] (by decide +kernel) (by decide +kernel)) (goodIn_sub (fun _ h => List.mem_append_left _ (List.mem_append_left _ (List.mem_append_left _ (List.mem_append_left _ (List.mem_append_right _ h))))) (by decide +kernel))) (goodIn_sub (fun _ h => List.mem_append_left _ (List.mem_append_left _ (List.mem_append_left _ (List.mem_append_right _ h)))) (by decide +kernel))
set_option maxRecDepth 20000 in
theorem gL_law_X4_note : GoodIn wsL_law (wsV RL 55 RX4 yX4_note wsX4_note) := goodIn_app (goodIn_of _ (by decide +kernel)) ggL_law_X4_note
set_option maxRecDepth 20000 in
theorem ggL_law_L_count : GoodIn wsL_law wsL_count := goodIn_ca (goodIn_ca (goodIn_r _ [225, 89, 226, 227, 228, 2, 229, 18, 94, 22, 160, 161, 162, 116, 117, 118, 21, 119, 104, 33, 230, 231, 232, 233, 34, 234, 235, 236, 237, 238, 239, 240, 241, 242, 243, 244, 245, 246, 251, 252, 253, 254, 270, 271, 285, 286, 287, 288, 289, 290, 291, 292, 272, 273, 274] (by decide +kernel) (by decide +kernel)) (goodIn_sub (fun _ h => List.mem_append_left _ (List.mem_append_left _ (List.mem_append_left _ (List.mem_append_left _ (List.mem_append_right _ h))))) (by decide +kernel))) (goodIn_sub (fun _ h => List.mem_append_left _ (List.mem_append_left _ (List.mem_append_left _ (List.mem_append_right _ h)))) (by decide +kernel))
set_option maxRecDepth 20000 in
theorem gL_law_L_count : GoodIn wsL_law (va_wsS RL 56 yL_count wsL_count) := goodIn_app (goodIn_of _ (by decide +kernel)) ggL_law_L_count
set_option maxRecDepth 20000 in
theorem ggL_law_X4_count : GoodIn wsL_law wsX4_count := goodIn_ca (goodIn_ca (goodIn_r _ [250, 50, 49, 167, 168, 47, 48, 74, 75, 76, 5, 77, 78, 255, 256, 257, 258, 259, 260, 261, 262, 263, 264, 265, 266, 267, 268, 269] (by decide +kernel) (by decide +kernel)) (goodIn_sub (fun _ h => List.mem_append_left _ (List.mem_append_left _ (List.mem_append_left _ (List.mem_append_left _ (List.mem_append_right _ h))))) (by decide +kernel))) (goodIn_sub (fun _ h => List.mem_append_left _ (List.mem_append_left _ (List.mem_append_left _ (List.mem_append_right _ h)))) (by decide +kernel))
set_option maxRecDepth 20000 in
theorem gL_law_X4_count : GoodIn wsL_law (wsV RL 58 RX4 yX4_count wsX4_count) := goodIn_app (goodIn_of _ (by decide +kernel)) ggL_law_X4_count
theorem dL_law_0 : decode cL_law 0 = .ok (.new 8, 3) := by decide +kernel
theorem dL_law_3 : decode cL_law 3 = .ok (.dup, 1) := by decide +kernel
theorem dL_law_4 : decode cL_law 4 = .ok (.invokespecial 34, 3) := by decide +kernel
theorem dL_law_7 : decode cL_law 7 = .ok (.astore_n 1, 1) := by decide +kernel
theorem dL_law_8 : decode cL_law 8 = .ok (.new 35, 3) := by decide +kernel
theorem dL_law_11 : decode cL_law 11 = .ok (.dup, 1) := by decide +kernel
theorem dL_law_12 : decode cL_law 12 = .ok (.invokespecial 37, 3) := by decide +kernel
theorem dL_law_15 : decode cL_law 15 = .ok (.astore_n 2, 1) := by decide +kernel
theorem dL_law_16 : decode cL_law 16 = .ok (.iconst 1, 1) := by decide +kernel
theorem dL_law_17 : decode cL_law 17 = .ok (.newarray .long, 2) := by decide +kernel
theorem dL_law_19 : decode cL_law 19 = .ok (.astore_n 3, 1) := by decide +kernel
theorem dL_law_20 : decode cL_law 20 = .ok (.iconst 0, 1) := by decide +kernel
theorem dL_law_21 : decode cL_law 21 = .ok (.istore 4, 2) := by decide +kernel
theorem dL_law_23 : decode cL_law 23 = .ok (.iload 4, 2) := by decide +kernel
theorem dL_law_25 : decode cL_law 25 = .ok (.aload_n 0, 1) := by decide +kernel
theorem dL_law_26 : decode cL_law 26 = .ok (.arraylength, 1) := by decide +kernel
theorem dL_law_27 : decode cL_law 27 = .ok (.bipush 6, 2) := by decide +kernel
theorem dL_law_29 : decode cL_law 29 = .ok (.isub, 1) := by decide +kernel
theorem dL_law_30 : decode cL_law 30 = .ok (.if_icmp .gt 339, 3) := by decide +kernel
theorem dL_law_33 : decode cL_law 33 = .ok (.aload_n 0, 1) := by decide +kernel
theorem dL_law_34 : decode cL_law 34 = .ok (.iload 4, 2) := by decide +kernel
theorem dL_law_36 : decode cL_law 36 = .ok (.iaload, 1) := by decide +kernel
theorem dL_law_37 : decode cL_law 37 = .ok (.iconst 3, 1) := by decide +kernel
theorem dL_law_38 : decode cL_law 38 = .ok (.iand, 1) := by decide +kernel
theorem dL_law_39 : decode cL_law 39 = .ok (.tableswitch 324 0 3 #[29, 133, 212, 268], 29) := by decide +kernel
theorem dL_law_68 : decode cL_law 68 = .ok (.aload_n 1, 1) := by decide +kernel
theorem dL_law_69 : decode cL_law 69 = .ok (.aload_n 0, 1) := by decide +kernel
theorem dL_law_70 : decode cL_law 70 = .ok (.iload 4, 2) := by decide +kernel
theorem dL_law_72 : decode cL_law 72 = .ok (.iconst 1, 1) := by decide +kernel
theorem dL_law_73 : decode cL_law 73 = .ok (.iadd, 1) := by decide +kernel
theorem dL_law_74 : decode cL_law 74 = .ok (.iaload, 1) := by decide +kernel
theorem dL_law_75 : decode cL_law 75 = .ok (.aload_n 0, 1) := by decide +kernel
theorem dL_law_76 : decode cL_law 76 = .ok (.iload 4, 2) := by decide +kernel
theorem dL_law_78 : decode cL_law 78 = .ok (.iconst 2, 1) := by decide +kernel
theorem dL_law_79 : decode cL_law 79 = .ok (.iadd, 1) := by decide +kernel
theorem dL_law_80 : decode cL_law 80 = .ok (.iaload, 1) := by decide +kernel
theorem dL_law_81 : decode cL_law 81 = .ok (.aload_n 0, 1) := by decide +kernel
theorem dL_law_82 : decode cL_law 82 = .ok (.iload 4, 2) := by decide +kernel
theorem dL_law_84 : decode cL_law 84 = .ok (.iconst 3, 1) := by decide +kernel
theorem dL_law_85 : decode cL_law 85 = .ok (.iadd, 1) := by decide +kernel
theorem dL_law_86 : decode cL_law 86 = .ok (.iaload, 1) := by decide +kernel
theorem dL_law_87 : decode cL_law 87 = .ok (.aload_n 0, 1) := by decide +kernel
theorem dL_law_88 : decode cL_law 88 = .ok (.iload 4, 2) := by decide +kernel
theorem dL_law_90 : decode cL_law 90 = .ok (.iconst 4, 1) := by decide +kernel
theorem dL_law_91 : decode cL_law 91 = .ok (.iadd, 1) := by decide +kernel
theorem dL_law_92 : decode cL_law 92 = .ok (.iaload, 1) := by decide +kernel
theorem dL_law_93 : decode cL_law 93 = .ok (.aload_n 0, 1) := by decide +kernel
theorem dL_law_94 : decode cL_law 94 = .ok (.iload 4, 2) := by decide +kernel
theorem dL_law_96 : decode cL_law 96 = .ok (.iconst 5, 1) := by decide +kernel
theorem dL_law_97 : decode cL_law 97 = .ok (.iadd, 1) := by decide +kernel
theorem dL_law_98 : decode cL_law 98 = .ok (.iaload, 1) := by decide +kernel
theorem dL_law_99 : decode cL_law 99 = .ok (.aload_n 3, 1) := by decide +kernel
theorem dL_law_100 : decode cL_law 100 = .ok (.invokestatic 38, 3) := by decide +kernel
theorem dL_law_103 : decode cL_law 103 = .ok (.istore 5, 2) := by decide +kernel
theorem dL_law_105 : decode cL_law 105 = .ok (.aload_n 2, 1) := by decide +kernel
theorem dL_law_106 : decode cL_law 106 = .ok (.aload_n 0, 1) := by decide +kernel
theorem dL_law_107 : decode cL_law 107 = .ok (.iload 4, 2) := by decide +kernel
theorem dL_law_109 : decode cL_law 109 = .ok (.iconst 1, 1) := by decide +kernel
theorem dL_law_110 : decode cL_law 110 = .ok (.iadd, 1) := by decide +kernel
theorem dL_law_111 : decode cL_law 111 = .ok (.iaload, 1) := by decide +kernel
theorem dL_law_112 : decode cL_law 112 = .ok (.aload_n 0, 1) := by decide +kernel
theorem dL_law_113 : decode cL_law 113 = .ok (.iload 4, 2) := by decide +kernel
theorem dL_law_115 : decode cL_law 115 = .ok (.iconst 2, 1) := by decide +kernel
theorem dL_law_116 : decode cL_law 116 = .ok (.iadd, 1) := by decide +kernel
theorem dL_law_117 : decode cL_law 117 = .ok (.iaload, 1) := by decide +kernel
theorem dL_law_118 : decode cL_law 118 = .ok (.aload_n 0, 1) := by decide +kernel
theorem dL_law_119 : decode cL_law 119 = .ok (.iload 4, 2) := by decide +kernel
theorem dL_law_121 : decode cL_law 121 = .ok (.iconst 3, 1) := by decide +kernel
theorem dL_law_122 : decode cL_law 122 = .ok (.iadd, 1) := by decide +kernel
theorem dL_law_123 : decode cL_law 123 = .ok (.iaload, 1) := by decide +kernel
theorem dL_law_124 : decode cL_law 124 = .ok (.aload_n 0, 1) := by decide +kernel
theorem dL_law_125 : decode cL_law 125 = .ok (.iload 4, 2) := by decide +kernel
theorem dL_law_127 : decode cL_law 127 = .ok (.iconst 4, 1) := by decide +kernel
theorem dL_law_128 : decode cL_law 128 = .ok (.iadd, 1) := by decide +kernel
theorem dL_law_129 : decode cL_law 129 = .ok (.iaload, 1) := by decide +kernel
theorem dL_law_130 : decode cL_law 130 = .ok (.aload_n 0, 1) := by decide +kernel
theorem dL_law_131 : decode cL_law 131 = .ok (.iload 4, 2) := by decide +kernel
theorem dL_law_133 : decode cL_law 133 = .ok (.iconst 5, 1) := by decide +kernel
theorem dL_law_134 : decode cL_law 134 = .ok (.iadd, 1) := by decide +kernel
theorem dL_law_135 : decode cL_law 135 = .ok (.iaload, 1) := by decide +kernel
theorem dL_law_136 : decode cL_law 136 = .ok (.invokevirtual 43, 3) := by decide +kernel
theorem dL_law_139 : decode cL_law 139 = .ok (.istore 6, 2) := by decide +kernel
theorem dL_law_141 : decode cL_law 141 = .ok (.aload_n 2, 1) := by decide +kernel
theorem dL_law_142 : decode cL_law 142 = .ok (.invokevirtual 44, 3) := by decide +kernel
theorem dL_law_145 : decode cL_law 145 = .ok (.iload 5, 2) := by decide +kernel
theorem dL_law_147 : decode cL_law 147 = .ok (.if_icmp .eq 5, 3) := by decide +kernel
theorem dL_law_150 : decode cL_law 150 = .ok (.iconst 0, 1) := by decide +kernel
theorem dL_law_151 : decode cL_law 151 = .ok (.ireturn, 1) := by decide +kernel
theorem dL_law_152 : decode cL_law 152 = .ok (.iload 5, 2) := by decide +kernel
theorem dL_law_154 : decode cL_law 154 = .ok (.ifCond .ne 15, 3) := by decide +kernel
theorem dL_law_157 : decode cL_law 157 = .ok (.aload_n 3, 1) := by decide +kernel
theorem dL_law_158 : decode cL_law 158 = .ok (.iconst 0, 1) := by decide +kernel
theorem dL_law_159 : decode cL_law 159 = .ok (.laload, 1) := by decide +kernel
theorem dL_law_160 : decode cL_law 160 = .ok (.iload 6, 2) := by decide +kernel
theorem dL_law_162 : decode cL_law 162 = .ok (.i2l, 1) := by decide +kernel
theorem dL_law_163 : decode cL_law 163 = .ok (.lcmp, 1) := by decide +kernel
theorem dL_law_164 : decode cL_law 164 = .ok (.ifCond .eq 5, 3) := by decide +kernel
theorem dL_law_167 : decode cL_law 167 = .ok (.iconst 0, 1) := by decide +kernel
theorem dL_law_168 : decode cL_law 168 = .ok (.ireturn, 1) := by decide +kernel
theorem dL_law_169 : decode cL_law 169 = .ok (.goto 194, 3) := by decide +kernel
theorem dL_law_172 : decode cL_law 172 = .ok (.aload_n 1, 1) := by decide +kernel
theorem dL_law_173 : decode cL_law 173 = .ok (.aload_n 0, 1) := by decide +kernel
theorem dL_law_174 : decode cL_law 174 = .ok (.iload 4, 2) := by decide +kernel
theorem dL_law_176 : decode cL_law 176 = .ok (.iconst 1, 1) := by decide +kernel
theorem dL_law_177 : decode cL_law 177 = .ok (.iadd, 1) := by decide +kernel
theorem dL_law_178 : decode cL_law 178 = .ok (.iaload, 1) := by decide +kernel
theorem dL_law_179 : decode cL_law 179 = .ok (.aload_n 0, 1) := by decide +kernel
theorem dL_law_180 : decode cL_law 180 = .ok (.iload 4, 2) := by decide +kernel
theorem dL_law_182 : decode cL_law 182 = .ok (.iconst 2, 1) := by decide +kernel
theorem dL_law_183 : decode cL_law 183 = .ok (.iadd, 1) := by decide +kernel
theorem dL_law_184 : decode cL_law 184 = .ok (.iaload, 1) := by decide +kernel
theorem dL_law_185 : decode cL_law 185 = .ok (.aload_n 0, 1) := by decide +kernel
theorem dL_law_186 : decode cL_law 186 = .ok (.iload 4, 2) := by decide +kernel
theorem dL_law_188 : decode cL_law 188 = .ok (.iconst 3, 1) := by decide +kernel
theorem dL_law_189 : decode cL_law 189 = .ok (.iadd, 1) := by decide +kernel
theorem dL_law_190 : decode cL_law 190 = .ok (.iaload, 1) := by decide +kernel
theorem dL_law_191 : decode cL_law 191 = .ok (.aload_n 3, 1) := by decide +kernel
theorem dL_law_192 : decode cL_law 192 = .ok (.invokestatic 48, 3) := by decide +kernel
theorem dL_law_195 : decode cL_law 195 = .ok (.istore 5, 2) := by decide +kernel
theorem dL_law_197 : decode cL_law 197 = .ok (.aload_n 2, 1) := by decide +kernel
theorem dL_law_198 : decode cL_law 198 = .ok (.aload_n 0, 1) := by decide +kernel
theorem dL_law_199 : decode cL_law 199 = .ok (.iload 4, 2) := by decide +kernel
theorem dL_law_201 : decode cL_law 201 = .ok (.iconst 1, 1) := by decide +kernel
theorem dL_law_202 : decode cL_law 202 = .ok (.iadd, 1) := by decide +kernel
theorem dL_law_203 : decode cL_law 203 = .ok (.iaload, 1) := by decide +kernel
theorem dL_law_204 : decode cL_law 204 = .ok (.aload_n 0, 1) := by decide +kernel
theorem dL_law_205 : decode cL_law 205 = .ok (.iload 4, 2) := by decide +kernel
theorem dL_law_207 : decode cL_law 207 = .ok (.iconst 2, 1) := by decide +kernel
theorem dL_law_208 : decode cL_law 208 = .ok (.iadd, 1) := by decide +kernel
theorem dL_law_209 : decode cL_law 209 = .ok (.iaload, 1) := by decide +kernel
theorem dL_law_210 : decode cL_law 210 = .ok (.aload_n 0, 1) := by decide +kernel
theorem dL_law_211 : decode cL_law 211 = .ok (.iload 4, 2) := by decide +kernel
theorem dL_law_213 : decode cL_law 213 = .ok (.iconst 3, 1) := by decide +kernel
theorem dL_law_214 : decode cL_law 214 = .ok (.iadd, 1) := by decide +kernel
theorem dL_law_215 : decode cL_law 215 = .ok (.iaload, 1) := by decide +kernel
theorem dL_law_216 : decode cL_law 216 = .ok (.invokevirtual 51, 3) := by decide +kernel
theorem dL_law_219 : decode cL_law 219 = .ok (.lstore 6, 2) := by decide +kernel
theorem dL_law_221 : decode cL_law 221 = .ok (.aload_n 2, 1) := by decide +kernel
theorem dL_law_222 : decode cL_law 222 = .ok (.invokevirtual 44, 3) := by decide +kernel
theorem dL_law_225 : decode cL_law 225 = .ok (.iload 5, 2) := by decide +kernel
theorem dL_law_227 : decode cL_law 227 = .ok (.if_icmp .eq 5, 3) := by decide +kernel
theorem dL_law_230 : decode cL_law 230 = .ok (.iconst 0, 1) := by decide +kernel
theorem dL_law_231 : decode cL_law 231 = .ok (.ireturn, 1) := by decide +kernel
theorem dL_law_232 : decode cL_law 232 = .ok (.iload 5, 2) := by decide +kernel
theorem dL_law_234 : decode cL_law 234 = .ok (.ifCond .ne 14, 3) := by decide +kernel
theorem dL_law_237 : decode cL_law 237 = .ok (.aload_n 3, 1) := by decide +kernel
theorem dL_law_238 : decode cL_law 238 = .ok (.iconst 0, 1) := by decide +kernel
theorem dL_law_239 : decode cL_law 239 = .ok (.laload, 1) := by decide +kernel
theorem dL_law_240 : decode cL_law 240 = .ok (.lload 6, 2) := by decide +kernel
theorem dL_law_242 : decode cL_law 242 = .ok (.lcmp, 1) := by decide +kernel
theorem dL_law_243 : decode cL_law 243 = .ok (.ifCond .eq 5, 3) := by decide +kernel
theorem dL_law_246 : decode cL_law 246 = .ok (.iconst 0, 1) := by decide +kernel
theorem dL_law_247 : decode cL_law 247 = .ok (.ireturn, 1) := by decide +kernel
theorem dL_law_248 : decode cL_law 248 = .ok (.goto 115, 3) := by decide +kernel
theorem dL_law_251 : decode cL_law 251 = .ok (.aload_n 1, 1) := by decide +kernel
theorem dL_law_252 : decode cL_law 252 = .ok (.aload_n 0, 1) := by decide +kernel
theorem dL_law_253 : decode cL_law 253 = .ok (.iload 4, 2) := by decide +kernel
theorem dL_law_255 : decode cL_law 255 = .ok (.iconst 1, 1) := by decide +kernel
theorem dL_law_256 : decode cL_law 256 = .ok (.iadd, 1) := by decide +kernel
theorem dL_law_257 : decode cL_law 257 = .ok (.iaload, 1) := by decide +kernel
theorem dL_law_258 : decode cL_law 258 = .ok (.aload_n 3, 1) := by decide +kernel
theorem dL_law_259 : decode cL_law 259 = .ok (.invokestatic 52, 3) := by decide +kernel
theorem dL_law_262 : decode cL_law 262 = .ok (.istore 5, 2) := by decide +kernel
theorem dL_law_264 : decode cL_law 264 = .ok (.aload_n 2, 1) := by decide +kernel
theorem dL_law_265 : decode cL_law 265 = .ok (.aload_n 0, 1) := by decide +kernel
theorem dL_law_266 : decode cL_law 266 = .ok (.iload 4, 2) := by decide +kernel
theorem dL_law_268 : decode cL_law 268 = .ok (.iconst 1, 1) := by decide +kernel
theorem dL_law_269 : decode cL_law 269 = .ok (.iadd, 1) := by decide +kernel
theorem dL_law_270 : decode cL_law 270 = .ok (.iaload, 1) := by decide +kernel
theorem dL_law_271 : decode cL_law 271 = .ok (.invokevirtual 55, 3) := by decide +kernel
theorem dL_law_274 : decode cL_law 274 = .ok (.istore 6, 2) := by decide +kernel
theorem dL_law_276 : decode cL_law 276 = .ok (.aload_n 2, 1) := by decide +kernel
theorem dL_law_277 : decode cL_law 277 = .ok (.invokevirtual 44, 3) := by decide +kernel
theorem dL_law_280 : decode cL_law 280 = .ok (.iload 5, 2) := by decide +kernel
theorem dL_law_282 : decode cL_law 282 = .ok (.if_icmp .eq 5, 3) := by decide +kernel
theorem dL_law_285 : decode cL_law 285 = .ok (.iconst 0, 1) := by decide +kernel
theorem dL_law_286 : decode cL_law 286 = .ok (.ireturn, 1) := by decide +kernel
theorem dL_law_287 : decode cL_law 287 = .ok (.iload 5, 2) := by decide +kernel
theorem dL_law_289 : decode cL_law 289 = .ok (.ifCond .ne 15, 3) := by decide +kernel
theorem dL_law_292 : decode cL_law 292 = .ok (.aload_n 3, 1) := by decide +kernel
theorem dL_law_293 : decode cL_law 293 = .ok (.iconst 0, 1) := by decide +kernel
theorem dL_law_294 : decode cL_law 294 = .ok (.laload, 1) := by decide +kernel
theorem dL_law_295 : decode cL_law 295 = .ok (.iload 6, 2) := by decide +kernel
theorem dL_law_297 : decode cL_law 297 = .ok (.i2l, 1) := by decide +kernel
theorem dL_law_298 : decode cL_law 298 = .ok (.lcmp, 1) := by decide +kernel
theorem dL_law_299 : decode cL_law 299 = .ok (.ifCond .eq 5, 3) := by decide +kernel
theorem dL_law_302 : decode cL_law 302 = .ok (.iconst 0, 1) := by decide +kernel
theorem dL_law_303 : decode cL_law 303 = .ok (.ireturn, 1) := by decide +kernel
theorem dL_law_304 : decode cL_law 304 = .ok (.goto 59, 3) := by decide +kernel
theorem dL_law_307 : decode cL_law 307 = .ok (.aload_n 1, 1) := by decide +kernel
theorem dL_law_308 : decode cL_law 308 = .ok (.aload_n 0, 1) := by decide +kernel
theorem dL_law_309 : decode cL_law 309 = .ok (.iload 4, 2) := by decide +kernel
theorem dL_law_311 : decode cL_law 311 = .ok (.iconst 1, 1) := by decide +kernel
theorem dL_law_312 : decode cL_law 312 = .ok (.iadd, 1) := by decide +kernel
theorem dL_law_313 : decode cL_law 313 = .ok (.iaload, 1) := by decide +kernel
theorem dL_law_314 : decode cL_law 314 = .ok (.aload_n 3, 1) := by decide +kernel
theorem dL_law_315 : decode cL_law 315 = .ok (.invokestatic 56, 3) := by decide +kernel
theorem dL_law_318 : decode cL_law 318 = .ok (.istore 5, 2) := by decide +kernel
theorem dL_law_320 : decode cL_law 320 = .ok (.aload_n 2, 1) := by decide +kernel
theorem dL_law_321 : decode cL_law 321 = .ok (.aload_n 0, 1) := by decide +kernel
theorem dL_law_322 : decode cL_law 322 = .ok (.iload 4, 2) := by decide +kernel
theorem dL_law_324 : decode cL_law 324 = .ok (.iconst 1, 1) := by decide +kernel
theorem dL_law_325 : decode cL_law 325 = .ok (.iadd, 1) := by decide +kernel
theorem dL_law_326 : decode cL_law 326 = .ok (.iaload, 1) := by decide +kernel
theorem dL_law_327 : decode cL_law 327 = .ok (.invokevirtual 58, 3) := by decide +kernel
theorem dL_law_330 : decode cL_law 330 = .ok (.istore 6, 2) := by decide +kernel
theorem dL_law_332 : decode cL_law 332 = .ok (.aload_n 2, 1) := by decide +kernel
theorem dL_law_333 : decode cL_law 333 = .ok (.invokevirtual 44, 3) := by decide +kernel
theorem dL_law_336 : decode cL_law 336 = .ok (.iload 5, 2) := by decide +kernel
theorem dL_law_338 : decode cL_law 338 = .ok (.if_icmp .eq 5, 3) := by decide +kernel
theorem dL_law_341 : decode cL_law 341 = .ok (.iconst 0, 1) := by decide +kernel
theorem dL_law_342 : decode cL_law 342 = .ok (.ireturn, 1) := by decide +kernel
theorem dL_law_343 : decode cL_law 343 = .ok (.iload 5, 2) := by decide +kernel
theorem dL_law_345 : decode cL_law 345 = .ok (.ifCond .ne 15, 3) := by decide +kernel
theorem dL_law_348 : decode cL_law 348 = .ok (.aload_n 3, 1) := by decide +kernel
theorem dL_law_349 : decode cL_law 349 = .ok (.iconst 0, 1) := by decide +kernel
theorem dL_law_350 : decode cL_law 350 = .ok (.laload, 1) := by decide +kernel
theorem dL_law_351 : decode cL_law 351 = .ok (.iload 6, 2) := by decide +kernel
theorem dL_law_353 : decode cL_law 353 = .ok (.i2l, 1) := by decide +kernel
theorem dL_law_354 : decode cL_law 354 = .ok (.lcmp, 1) := by decide +kernel
theorem dL_law_355 : decode cL_law 355 = .ok (.ifCond .eq 5, 3) := by decide +kernel
theorem dL_law_358 : decode cL_law 358 = .ok (.iconst 0, 1) := by decide +kernel
theorem dL_law_359 : decode cL_law 359 = .ok (.ireturn, 1) := by decide +kernel
theorem dL_law_360 : decode cL_law 360 = .ok (.goto 3, 3) := by decide +kernel
theorem dL_law_363 : decode cL_law 363 = .ok (.iinc 4 6, 3) := by decide +kernel
theorem dL_law_366 : decode cL_law 366 = .ok (.goto (-343), 3) := by decide +kernel
theorem dL_law_369 : decode cL_law 369 = .ok (.iconst 1, 1) := by decide +kernel
theorem dL_law_370 : decode cL_law 370 = .ok (.ireturn, 1) := by decide +kernel
