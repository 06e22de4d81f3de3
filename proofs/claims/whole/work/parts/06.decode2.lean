theorem dX5_version_14 : decode cX5_version 14 = .ok (.ifCond .le 7, 3) := by decide +kernel
theorem dX5_version_17 : decode cX5_version 17 = .ok (.iconst 0, 1) := by decide +kernel
theorem dX5_version_18 : decode cX5_version 18 = .ok (.goto 13, 3) := by decide +kernel
theorem dX5_version_21 : decode cX5_version 21 = .ok (.aload_n 0, 1) := by decide +kernel
theorem dX5_version_22 : decode cX5_version 22 = .ok (.getfield 32, 3) := by decide +kernel
theorem dX5_version_25 : decode cX5_version 25 = .ok (.iload_n 1, 1) := by decide +kernel
theorem dX5_version_26 : decode cX5_version 26 = .ok (.iload_n 2, 1) := by decide +kernel
theorem dX5_version_27 : decode cX5_version 27 = .ok (.invokestatic 115, 3) := by decide +kernel
theorem dX5_version_30 : decode cX5_version 30 = .ok (.iaload, 1) := by decide +kernel
theorem dX5_version_31 : decode cX5_version 31 = .ok (.ireturn, 1) := by decide +kernel
set_option maxRecDepth 20000 in
theorem ggX5_active_X5_isStage : GoodIn wsX5_active wsX5_isStage := goodIn_r _ [6, 7, 8, 9, 5, 10, 16, 17, 18, 19, 20, 21, 22, 23, 24, 25, 26, 27, 28, 29, 30, 31, 32, 33, 34, 35, 36, 37, 38, 39, 40, 41, 42, 43, 44] (by decide +kernel) (by decide +kernel)
set_option maxRecDepth 20000 in
theorem gX5_active_X5_isStage : GoodIn wsX5_active (wsV RX5 112 RX5 yX5_isStage wsX5_isStage) := goodIn_app (goodIn_of _ (by decide +kernel)) ggX5_active_X5_isStage
set_option maxRecDepth 20000 in
theorem ggX5_active_X5_checked : GoodIn wsX5_active wsX5_checked := goodIn_r _ [14, 15, 16, 17, 18, 19, 20, 21, 22, 23, 24, 25, 26, 27, 28, 29, 30, 31, 32, 33, 34, 35, 36, 37, 38, 39, 40, 41, 42, 43, 44] (by decide +kernel) (by decide +kernel)
set_option maxRecDepth 20000 in
theorem gX5_active_X5_checked : GoodIn wsX5_active (wsV RX5 104 RX5 yX5_checked wsX5_checked) := goodIn_app (goodIn_of _ (by decide +kernel)) ggX5_active_X5_checked
theorem dX5_active_0 : decode cX5_active 0 = .ok (.aload_n 0, 1) := by decide +kernel
theorem dX5_active_1 : decode cX5_active 1 = .ok (.aload_n 0, 1) := by decide +kernel
theorem dX5_active_2 : decode cX5_active 2 = .ok (.iload_n 1, 1) := by decide +kernel
theorem dX5_active_3 : decode cX5_active 3 = .ok (.invokevirtual 112, 3) := by decide +kernel
theorem dX5_active_6 : decode cX5_active 6 = .ok (.invokevirtual 104, 3) := by decide +kernel
theorem dX5_active_9 : decode cX5_active 9 = .ok (.ifCond .le 7, 3) := by decide +kernel
theorem dX5_active_12 : decode cX5_active 12 = .ok (.iconst 0, 1) := by decide +kernel
theorem dX5_active_13 : decode cX5_active 13 = .ok (.goto 9, 3) := by decide +kernel
theorem dX5_active_16 : decode cX5_active 16 = .ok (.aload_n 0, 1) := by decide +kernel
theorem dX5_active_17 : decode cX5_active 17 = .ok (.getfield 23, 3) := by decide +kernel
theorem dX5_active_20 : decode cX5_active 20 = .ok (.iload_n 1, 1) := by decide +kernel
theorem dX5_active_21 : decode cX5_active 21 = .ok (.iaload, 1) := by decide +kernel
theorem dX5_active_22 : decode cX5_active 22 = .ok (.ireturn, 1) := by decide +kernel
set_option maxRecDepth 20000 in
theorem ggX5_reasonOf_X5_at : GoodIn wsX5_reasonOf wsX5_at := goodIn_r _ [9] (by decide +kernel) (by decide +kernel)
set_option maxRecDepth 20000 in
theorem gX5_reasonOf_X5_at : GoodIn wsX5_reasonOf (va_wsS RX5 115 yX5_at wsX5_at) := goodIn_app (goodIn_of _ (by decide +kernel)) ggX5_reasonOf_X5_at
theorem dX5_reasonOf_0 : decode cX5_reasonOf 0 = .ok (.iload_n 1, 1) := by decide +kernel
theorem dX5_reasonOf_1 : decode cX5_reasonOf 1 = .ok (.iload_n 2, 1) := by decide +kernel
theorem dX5_reasonOf_2 : decode cX5_reasonOf 2 = .ok (.invokestatic 115, 3) := by decide +kernel
theorem dX5_reasonOf_5 : decode cX5_reasonOf 5 = .ok (.istore_n 3, 1) := by decide +kernel
theorem dX5_reasonOf_6 : decode cX5_reasonOf 6 = .ok (.aload_n 0, 1) := by decide +kernel
theorem dX5_reasonOf_7 : decode cX5_reasonOf 7 = .ok (.getfield 29, 3) := by decide +kernel
theorem dX5_reasonOf_10 : decode cX5_reasonOf 10 = .ok (.iload_n 3, 1) := by decide +kernel
theorem dX5_reasonOf_11 : decode cX5_reasonOf 11 = .ok (.iaload, 1) := by decide +kernel
theorem dX5_reasonOf_12 : decode cX5_reasonOf 12 = .ok (.ifCond .ne 6, 3) := by decide +kernel
theorem dX5_reasonOf_15 : decode cX5_reasonOf 15 = .ok (.bipush 101, 2) := by decide +kernel
theorem dX5_reasonOf_17 : decode cX5_reasonOf 17 = .ok (.ireturn, 1) := by decide +kernel
theorem dX5_reasonOf_18 : decode cX5_reasonOf 18 = .ok (.aload_n 0, 1) := by decide +kernel
theorem dX5_reasonOf_19 : decode cX5_reasonOf 19 = .ok (.getfield 7, 3) := by decide +kernel
theorem dX5_reasonOf_22 : decode cX5_reasonOf 22 = .ok (.aload_n 0, 1) := by decide +kernel
theorem dX5_reasonOf_23 : decode cX5_reasonOf 23 = .ok (.getfield 29, 3) := by decide +kernel
theorem dX5_reasonOf_26 : decode cX5_reasonOf 26 = .ok (.iload_n 3, 1) := by decide +kernel
theorem dX5_reasonOf_27 : decode cX5_reasonOf 27 = .ok (.iaload, 1) := by decide +kernel
theorem dX5_reasonOf_28 : decode cX5_reasonOf 28 = .ok (.baload, 1) := by decide +kernel
theorem dX5_reasonOf_29 : decode cX5_reasonOf 29 = .ok (.ifCond .ne 6, 3) := by decide +kernel
theorem dX5_reasonOf_32 : decode cX5_reasonOf 32 = .ok (.bipush 107, 2) := by decide +kernel
theorem dX5_reasonOf_34 : decode cX5_reasonOf 34 = .ok (.ireturn, 1) := by decide +kernel
theorem dX5_reasonOf_35 : decode cX5_reasonOf 35 = .ok (.aload_n 0, 1) := by decide +kernel
theorem dX5_reasonOf_36 : decode cX5_reasonOf 36 = .ok (.getfield 32, 3) := by decide +kernel
theorem dX5_reasonOf_39 : decode cX5_reasonOf 39 = .ok (.iload_n 3, 1) := by decide +kernel
theorem dX5_reasonOf_40 : decode cX5_reasonOf 40 = .ok (.iaload, 1) := by decide +kernel
theorem dX5_reasonOf_41 : decode cX5_reasonOf 41 = .ok (.aload_n 0, 1) := by decide +kernel
theorem dX5_reasonOf_42 : decode cX5_reasonOf 42 = .ok (.getfield 26, 3) := by decide +kernel
theorem dX5_reasonOf_45 : decode cX5_reasonOf 45 = .ok (.iload_n 1, 1) := by decide +kernel
theorem dX5_reasonOf_46 : decode cX5_reasonOf 46 = .ok (.iaload, 1) := by decide +kernel
theorem dX5_reasonOf_47 : decode cX5_reasonOf 47 = .ok (.if_icmp .ge 6, 3) := by decide +kernel
theorem dX5_reasonOf_50 : decode cX5_reasonOf 50 = .ok (.bipush 118, 2) := by decide +kernel
theorem dX5_reasonOf_52 : decode cX5_reasonOf 52 = .ok (.ireturn, 1) := by decide +kernel
theorem dX5_reasonOf_53 : decode cX5_reasonOf 53 = .ok (.aload_n 0, 1) := by decide +kernel
theorem dX5_reasonOf_54 : decode cX5_reasonOf 54 = .ok (.getfield 13, 3) := by decide +kernel
theorem dX5_reasonOf_57 : decode cX5_reasonOf 57 = .ok (.iload_n 3, 1) := by decide +kernel
theorem dX5_reasonOf_58 : decode cX5_reasonOf 58 = .ok (.baload, 1) := by decide +kernel
theorem dX5_reasonOf_59 : decode cX5_reasonOf 59 = .ok (.ifCond .eq 8, 3) := by decide +kernel
theorem dX5_reasonOf_62 : decode cX5_reasonOf 62 = .ok (.bipush 98, 2) := by decide +kernel
theorem dX5_reasonOf_64 : decode cX5_reasonOf 64 = .ok (.goto 5, 3) := by decide +kernel
theorem dX5_reasonOf_67 : decode cX5_reasonOf 67 = .ok (.bipush 45, 2) := by decide +kernel
theorem dX5_reasonOf_69 : decode cX5_reasonOf 69 = .ok (.ireturn, 1) := by decide +kernel
set_option maxRecDepth 20000 in
theorem ggX5_reason_X5_isStage : GoodIn wsX5_reason wsX5_isStage := goodIn_r _ [5, 6, 7, 8, 4, 9, 27, 28, 29, 30, 31, 32, 33, 34, 35, 36, 37, 38, 39, 40, 41, 42, 43, 44, 45, 46, 47, 48, 49, 50, 51, 52, 53, 54, 55] (by decide +kernel) (by decide +kernel)
set_option maxRecDepth 20000 in
theorem gX5_reason_X5_isStage : GoodIn wsX5_reason (wsV RX5 112 RX5 yX5_isStage wsX5_isStage) := goodIn_app (goodIn_of _ (by decide +kernel)) ggX5_reason_X5_isStage
set_option maxRecDepth 20000 in
theorem ggX5_reason_X5_in : GoodIn wsX5_reason wsX5_in := goodIn_r _ [9] (by decide +kernel) (by decide +kernel)
set_option maxRecDepth 20000 in
theorem gX5_reason_X5_in : GoodIn wsX5_reason (va_wsS RX5 100 yX5_in wsX5_in) := goodIn_app (goodIn_of _ (by decide +kernel)) ggX5_reason_X5_in
set_option maxRecDepth 20000 in
theorem ggX5_reason_X5_checked : GoodIn wsX5_reason wsX5_checked := goodIn_r _ [13, 14, 27, 28, 29, 30, 31, 32, 33, 34, 35, 36, 37, 38, 39, 40, 41, 42, 43, 44, 45, 46, 47, 48, 49, 50, 51, 52, 53, 54, 55] (by decide +kernel) (by decide +kernel)
set_option maxRecDepth 20000 in
theorem gX5_reason_X5_checked : GoodIn wsX5_reason (wsV RX5 104 RX5 yX5_checked wsX5_checked) := goodIn_app (goodIn_of _ (by decide +kernel)) ggX5_reason_X5_checked
set_option maxRecDepth 20000 in
theorem ggX5_reason_X5_reasonOf : GoodIn wsX5_reason wsX5_reasonOf := goodIn_ca (goodIn_r _ [18, 19, 20, 21, 22, 23, 24, 25, 4, 26, 27, 28, 29, 30, 31, 32, 33, 34, 35, 36, 37, 38, 39, 40, 41, 42, 43, 44, 45, 46, 47, 48, 49, 50, 51, 52, 53, 54, 55] (by decide +kernel) (by decide +kernel)) (goodIn_sub (fun _ h => List.mem_cons_of_mem _ (List.mem_append_right _ h)) (by decide +kernel))
set_option maxRecDepth 20000 in
theorem gX5_reason_X5_reasonOf : GoodIn wsX5_reason (wsV RX5 122 RX5 yX5_reasonOf wsX5_reasonOf) := goodIn_app (goodIn_of _ (by decide +kernel)) ggX5_reason_X5_reasonOf
theorem dX5_reason_0 : decode cX5_reason 0 = .ok (.aload_n 0, 1) := by decide +kernel
theorem dX5_reason_1 : decode cX5_reason 1 = .ok (.aload_n 0, 1) := by decide +kernel
theorem dX5_reason_2 : decode cX5_reason 2 = .ok (.iload_n 1, 1) := by decide +kernel
theorem dX5_reason_3 : decode cX5_reason 3 = .ok (.invokevirtual 112, 3) := by decide +kernel
theorem dX5_reason_6 : decode cX5_reason 6 = .ok (.ifCond .eq 16, 3) := by decide +kernel
theorem dX5_reason_9 : decode cX5_reason 9 = .ok (.iload_n 2, 1) := by decide +kernel
theorem dX5_reason_10 : decode cX5_reason 10 = .ok (.iconst 0, 1) := by decide +kernel
theorem dX5_reason_11 : decode cX5_reason 11 = .ok (.iconst 1, 1) := by decide +kernel
theorem dX5_reason_12 : decode cX5_reason 12 = .ok (.invokestatic 100, 3) := by decide +kernel
theorem dX5_reason_15 : decode cX5_reason 15 = .ok (.ifCond .eq 7, 3) := by decide +kernel
theorem dX5_reason_18 : decode cX5_reason 18 = .ok (.iconst 1, 1) := by decide +kernel
theorem dX5_reason_19 : decode cX5_reason 19 = .ok (.goto 4, 3) := by decide +kernel
theorem dX5_reason_22 : decode cX5_reason 22 = .ok (.iconst 0, 1) := by decide +kernel
theorem dX5_reason_23 : decode cX5_reason 23 = .ok (.invokevirtual 104, 3) := by decide +kernel
theorem dX5_reason_26 : decode cX5_reason 26 = .ok (.ifCond .le 8, 3) := by decide +kernel
theorem dX5_reason_29 : decode cX5_reason 29 = .ok (.bipush 32, 2) := by decide +kernel
theorem dX5_reason_31 : decode cX5_reason 31 = .ok (.goto 9, 3) := by decide +kernel
theorem dX5_reason_34 : decode cX5_reason 34 = .ok (.aload_n 0, 1) := by decide +kernel
theorem dX5_reason_35 : decode cX5_reason 35 = .ok (.iload_n 1, 1) := by decide +kernel
theorem dX5_reason_36 : decode cX5_reason 36 = .ok (.iload_n 2, 1) := by decide +kernel
theorem dX5_reason_37 : decode cX5_reason 37 = .ok (.invokevirtual 122, 3) := by decide +kernel
theorem dX5_reason_40 : decode cX5_reason 40 = .ok (.ireturn, 1) := by decide +kernel
set_option maxRecDepth 20000 in
theorem ggX5_counter_X5_isStage : GoodIn wsX5_counter wsX5_isStage := goodIn_r _ [6, 7, 8, 9, 5, 10, 16, 17, 18, 19, 20, 21, 22, 23, 24, 25, 26, 27, 28, 29, 30, 31, 32, 33, 34, 35, 36, 37, 38, 39, 40, 41, 42, 43, 44] (by decide +kernel) (by decide +kernel)
set_option maxRecDepth 20000 in
theorem gX5_counter_X5_isStage : GoodIn wsX5_counter (wsV RX5 112 RX5 yX5_isStage wsX5_isStage) := goodIn_app (goodIn_of _ (by decide +kernel)) ggX5_counter_X5_isStage
set_option maxRecDepth 20000 in
theorem ggX5_counter_X5_checked : GoodIn wsX5_counter wsX5_checked := goodIn_r _ [14, 15, 16, 17, 18, 19, 20, 21, 22, 23, 24, 25, 26, 27, 28, 29, 30, 31, 32, 33, 34, 35, 36, 37, 38, 39, 40, 41, 42, 43, 44] (by decide +kernel) (by decide +kernel)
set_option maxRecDepth 20000 in
theorem gX5_counter_X5_checked : GoodIn wsX5_counter (wsV RX5 104 RX5 yX5_checked wsX5_checked) := goodIn_app (goodIn_of _ (by decide +kernel)) ggX5_counter_X5_checked
theorem dX5_counter_0 : decode cX5_counter 0 = .ok (.aload_n 0, 1) := by decide +kernel
theorem dX5_counter_1 : decode cX5_counter 1 = .ok (.aload_n 0, 1) := by decide +kernel
theorem dX5_counter_2 : decode cX5_counter 2 = .ok (.iload_n 1, 1) := by decide +kernel
theorem dX5_counter_3 : decode cX5_counter 3 = .ok (.invokevirtual 112, 3) := by decide +kernel
theorem dX5_counter_6 : decode cX5_counter 6 = .ok (.invokevirtual 104, 3) := by decide +kernel
theorem dX5_counter_9 : decode cX5_counter 9 = .ok (.ifCond .le 7, 3) := by decide +kernel
theorem dX5_counter_12 : decode cX5_counter 12 = .ok (.iconst 0, 1) := by decide +kernel
theorem dX5_counter_13 : decode cX5_counter 13 = .ok (.goto 9, 3) := by decide +kernel
theorem dX5_counter_16 : decode cX5_counter 16 = .ok (.aload_n 0, 1) := by decide +kernel
theorem dX5_counter_17 : decode cX5_counter 17 = .ok (.getfield 26, 3) := by decide +kernel
theorem dX5_counter_20 : decode cX5_counter 20 = .ok (.iload_n 1, 1) := by decide +kernel
theorem dX5_counter_21 : decode cX5_counter 21 = .ok (.iaload, 1) := by decide +kernel
theorem dX5_counter_22 : decode cX5_counter 22 = .ok (.ireturn, 1) := by decide +kernel
theorem dX5_extended_0 : decode cX5_extended 0 = .ok (.bipush 31, 2) := by decide +kernel
theorem dX5_extended_2 : decode cX5_extended 2 = .ok (.iload_n 0, 1) := by decide +kernel
theorem dX5_extended_3 : decode cX5_extended 3 = .ok (.imul, 1) := by decide +kernel
theorem dX5_extended_4 : decode cX5_extended 4 = .ok (.iload_n 1, 1) := by decide +kernel
theorem dX5_extended_5 : decode cX5_extended 5 = .ok (.iadd, 1) := by decide +kernel
theorem dX5_extended_6 : decode cX5_extended 6 = .ok (.iconst 1, 1) := by decide +kernel
theorem dX5_extended_7 : decode cX5_extended 7 = .ok (.iadd, 1) := by decide +kernel
theorem dX5_extended_8 : decode cX5_extended 8 = .ok (.sipush 9973, 3) := by decide +kernel
theorem dX5_extended_11 : decode cX5_extended 11 = .ok (.irem, 1) := by decide +kernel
theorem dX5_extended_12 : decode cX5_extended 12 = .ok (.ireturn, 1) := by decide +kernel
set_option maxRecDepth 20000 in
theorem ggX5_measures_X5_at : GoodIn wsX5_measures wsX5_at := goodIn_r _ [9] (by decide +kernel) (by decide +kernel)
set_option maxRecDepth 20000 in
theorem gX5_measures_X5_at : GoodIn wsX5_measures (va_wsS RX5 115 yX5_at wsX5_at) := goodIn_app (goodIn_of _ (by decide +kernel)) ggX5_measures_X5_at
set_option maxRecDepth 20000 in
theorem ggX5_measures_X5_extended : GoodIn wsX5_measures wsX5_extended := goodIn_r _ [12] (by decide +kernel) (by decide +kernel)
set_option maxRecDepth 20000 in
theorem gX5_measures_X5_extended : GoodIn wsX5_measures (va_wsS RX5 126 yX5_extended wsX5_extended) := goodIn_app (goodIn_of _ (by decide +kernel)) ggX5_measures_X5_extended
theorem dX5_measures_0 : decode cX5_measures 0 = .ok (.aload_n 0, 1) := by decide +kernel
theorem dX5_measures_1 : decode cX5_measures 1 = .ok (.getfield 19, 3) := by decide +kernel
theorem dX5_measures_4 : decode cX5_measures 4 = .ok (.iload_n 1, 1) := by decide +kernel
theorem dX5_measures_5 : decode cX5_measures 5 = .ok (.iaload, 1) := by decide +kernel
theorem dX5_measures_6 : decode cX5_measures 6 = .ok (.istore_n 3, 1) := by decide +kernel
theorem dX5_measures_7 : decode cX5_measures 7 = .ok (.aload_n 0, 1) := by decide +kernel
theorem dX5_measures_8 : decode cX5_measures 8 = .ok (.getfield 53, 3) := by decide +kernel
theorem dX5_measures_11 : decode cX5_measures 11 = .ok (.aload_n 0, 1) := by decide +kernel
theorem dX5_measures_12 : decode cX5_measures 12 = .ok (.getfield 91, 3) := by decide +kernel
theorem dX5_measures_15 : decode cX5_measures 15 = .ok (.sipush 1000, 3) := by decide +kernel
theorem dX5_measures_18 : decode cX5_measures 18 = .ok (.iload_n 3, 1) := by decide +kernel
theorem dX5_measures_19 : decode cX5_measures 19 = .ok (.imul, 1) := by decide +kernel
theorem dX5_measures_20 : decode cX5_measures 20 = .ok (.aload_n 0, 1) := by decide +kernel
theorem dX5_measures_21 : decode cX5_measures 21 = .ok (.getfield 35, 3) := by decide +kernel
theorem dX5_measures_24 : decode cX5_measures 24 = .ok (.iload_n 1, 1) := by decide +kernel
theorem dX5_measures_25 : decode cX5_measures 25 = .ok (.iload_n 2, 1) := by decide +kernel
theorem dX5_measures_26 : decode cX5_measures 26 = .ok (.invokestatic 115, 3) := by decide +kernel
theorem dX5_measures_29 : decode cX5_measures 29 = .ok (.iaload, 1) := by decide +kernel
theorem dX5_measures_30 : decode cX5_measures 30 = .ok (.iadd, 1) := by decide +kernel
theorem dX5_measures_31 : decode cX5_measures 31 = .ok (.iastore, 1) := by decide +kernel
theorem dX5_measures_32 : decode cX5_measures 32 = .ok (.aload_n 0, 1) := by decide +kernel
theorem dX5_measures_33 : decode cX5_measures 33 = .ok (.dup, 1) := by decide +kernel
theorem dX5_measures_34 : decode cX5_measures 34 = .ok (.getfield 91, 3) := by decide +kernel
theorem dX5_measures_37 : decode cX5_measures 37 = .ok (.iconst 1, 1) := by decide +kernel
theorem dX5_measures_38 : decode cX5_measures 38 = .ok (.iadd, 1) := by decide +kernel
theorem dX5_measures_39 : decode cX5_measures 39 = .ok (.putfield 91, 3) := by decide +kernel
theorem dX5_measures_42 : decode cX5_measures 42 = .ok (.aload_n 0, 1) := by decide +kernel
theorem dX5_measures_43 : decode cX5_measures 43 = .ok (.getfield 56, 3) := by decide +kernel
theorem dX5_measures_46 : decode cX5_measures 46 = .ok (.iload_n 3, 1) := by decide +kernel
theorem dX5_measures_47 : decode cX5_measures 47 = .ok (.aload_n 0, 1) := by decide +kernel
theorem dX5_measures_48 : decode cX5_measures 48 = .ok (.getfield 56, 3) := by decide +kernel
theorem dX5_measures_51 : decode cX5_measures 51 = .ok (.iload_n 3, 1) := by decide +kernel
theorem dX5_measures_52 : decode cX5_measures 52 = .ok (.iaload, 1) := by decide +kernel
theorem dX5_measures_53 : decode cX5_measures 53 = .ok (.aload_n 0, 1) := by decide +kernel
theorem dX5_measures_54 : decode cX5_measures 54 = .ok (.getfield 35, 3) := by decide +kernel
theorem dX5_measures_57 : decode cX5_measures 57 = .ok (.iload_n 1, 1) := by decide +kernel
theorem dX5_measures_58 : decode cX5_measures 58 = .ok (.iload_n 2, 1) := by decide +kernel
theorem dX5_measures_59 : decode cX5_measures 59 = .ok (.invokestatic 115, 3) := by decide +kernel
theorem dX5_measures_62 : decode cX5_measures 62 = .ok (.iaload, 1) := by decide +kernel
theorem dX5_measures_63 : decode cX5_measures 63 = .ok (.invokestatic 126, 3) := by decide +kernel
theorem dX5_measures_66 : decode cX5_measures 66 = .ok (.iastore, 1) := by decide +kernel
theorem dX5_measures_67 : decode cX5_measures 67 = .ok (.return_, 1) := by decide +kernel
set_option maxRecDepth 20000 in
theorem ggX5_tries_X5_reasonOf : GoodIn wsX5_tries wsX5_reasonOf := goodIn_ca (goodIn_r _ [6, 7, 8, 9, 10, 11, 12, 13, 5, 14, 27, 28, 29, 30, 31, 32, 33, 34, 35, 36, 37, 38, 39, 40, 41, 42, 43, 44, 45, 46, 47, 48, 49, 50, 51, 52, 53, 54, 55] (by decide +kernel) (by decide +kernel)) (goodIn_sub (fun _ h => List.mem_cons_of_mem _ (List.mem_append_right _ h)) (by decide +kernel))
set_option maxRecDepth 20000 in
theorem gX5_tries_X5_reasonOf : GoodIn wsX5_tries (wsV RX5 122 RX5 yX5_reasonOf wsX5_reasonOf) := goodIn_app (goodIn_of _ (by decide +kernel)) ggX5_tries_X5_reasonOf
set_option maxRecDepth 20000 in
theorem ggX5_tries_X5_measures : GoodIn wsX5_tries wsX5_measures := goodIn_ca (goodIn_r _ [18, 19, 20, 21, 22, 23, 12, 13, 5, 14, 24, 25, 26, 27, 28, 29, 30, 31, 32, 33, 34, 35, 36, 37, 38, 39, 40, 41, 42, 43, 44, 45, 46, 47, 48, 49, 50, 51, 52, 53, 54, 55] (by decide +kernel) (by decide +kernel)) (goodIn_sub (fun _ h => List.mem_cons_of_mem _ (List.mem_append_right _ h)) (by decide +kernel))
set_option maxRecDepth 20000 in
theorem gX5_tries_X5_measures : GoodIn wsX5_tries (wsV RX5 129 RX5 yX5_measures wsX5_measures) := goodIn_app (goodIn_of _ (by decide +kernel)) ggX5_tries_X5_measures
theorem dX5_tries_0 : decode cX5_tries 0 = .ok (.aload_n 0, 1) := by decide +kernel
theorem dX5_tries_1 : decode cX5_tries 1 = .ok (.iload_n 1, 1) := by decide +kernel
theorem dX5_tries_2 : decode cX5_tries 2 = .ok (.iload_n 2, 1) := by decide +kernel
theorem dX5_tries_3 : decode cX5_tries 3 = .ok (.invokevirtual 122, 3) := by decide +kernel
theorem dX5_tries_6 : decode cX5_tries 6 = .ok (.istore_n 3, 1) := by decide +kernel
theorem dX5_tries_7 : decode cX5_tries 7 = .ok (.iload_n 3, 1) := by decide +kernel
theorem dX5_tries_8 : decode cX5_tries 8 = .ok (.bipush 98, 2) := by decide +kernel
theorem dX5_tries_10 : decode cX5_tries 10 = .ok (.if_icmp .eq 9, 3) := by decide +kernel
theorem dX5_tries_13 : decode cX5_tries 13 = .ok (.iload_n 3, 1) := by decide +kernel
theorem dX5_tries_14 : decode cX5_tries 14 = .ok (.bipush 45, 2) := by decide +kernel
theorem dX5_tries_16 : decode cX5_tries 16 = .ok (.if_icmp .ne 9, 3) := by decide +kernel
theorem dX5_tries_19 : decode cX5_tries 19 = .ok (.aload_n 0, 1) := by decide +kernel
theorem dX5_tries_20 : decode cX5_tries 20 = .ok (.iload_n 1, 1) := by decide +kernel
theorem dX5_tries_21 : decode cX5_tries 21 = .ok (.iload_n 2, 1) := by decide +kernel
theorem dX5_tries_22 : decode cX5_tries 22 = .ok (.invokevirtual 129, 3) := by decide +kernel
theorem dX5_tries_25 : decode cX5_tries 25 = .ok (.iload_n 3, 1) := by decide +kernel
theorem dX5_tries_26 : decode cX5_tries 26 = .ok (.bipush 45, 2) := by decide +kernel
theorem dX5_tries_28 : decode cX5_tries 28 = .ok (.if_icmp .eq 5, 3) := by decide +kernel
theorem dX5_tries_31 : decode cX5_tries 31 = .ok (.iconst 0, 1) := by decide +kernel
theorem dX5_tries_32 : decode cX5_tries 32 = .ok (.ireturn, 1) := by decide +kernel
theorem dX5_tries_33 : decode cX5_tries 33 = .ok (.aload_n 0, 1) := by decide +kernel
theorem dX5_tries_34 : decode cX5_tries 34 = .ok (.getfield 50, 3) := by decide +kernel
theorem dX5_tries_37 : decode cX5_tries 37 = .ok (.iload_n 1, 1) := by decide +kernel
theorem dX5_tries_38 : decode cX5_tries 38 = .ok (.iload_n 2, 1) := by decide +kernel
theorem dX5_tries_39 : decode cX5_tries 39 = .ok (.iastore, 1) := by decide +kernel
theorem dX5_tries_40 : decode cX5_tries 40 = .ok (.iconst 1, 1) := by decide +kernel
theorem dX5_tries_41 : decode cX5_tries 41 = .ok (.ireturn, 1) := by decide +kernel
set_option maxRecDepth 20000 in
theorem ggX5_starts_X5_tries : GoodIn wsX5_starts wsX5_tries := goodIn_ca (goodIn_r _ [11, 12, 13, 14, 15, 10, 16, 17, 18, 19, 20, 21, 22, 23, 24, 25, 26, 27, 28, 29, 30, 1, 31, 3, 32, 33, 34, 35, 36, 37, 38, 39, 40, 41, 42, 43, 44, 45, 46, 47, 48, 49, 50, 51, 52, 53, 54, 55, 56, 57, 58, 59, 60, 61, 62, 63] (by decide +kernel) (by decide +kernel)) (goodIn_sub (fun _ h => List.mem_cons_of_mem _ (List.mem_append_right _ h)) (by decide +kernel))
set_option maxRecDepth 20000 in
theorem gX5_starts_X5_tries : GoodIn wsX5_starts (wsV RX5 132 RX5 yX5_tries wsX5_tries) := goodIn_app (goodIn_of _ (by decide +kernel)) ggX5_starts_X5_tries
theorem dX5_starts_0 : decode cX5_starts 0 = .ok (.aload_n 0, 1) := by decide +kernel
theorem dX5_starts_1 : decode cX5_starts 1 = .ok (.iconst 0, 1) := by decide +kernel
theorem dX5_starts_2 : decode cX5_starts 2 = .ok (.putfield 91, 3) := by decide +kernel
theorem dX5_starts_5 : decode cX5_starts 5 = .ok (.aload_n 0, 1) := by decide +kernel
theorem dX5_starts_6 : decode cX5_starts 6 = .ok (.iconst 0, 1) := by decide +kernel
theorem dX5_starts_7 : decode cX5_starts 7 = .ok (.putfield 97, 3) := by decide +kernel
theorem dX5_starts_10 : decode cX5_starts 10 = .ok (.iconst 0, 1) := by decide +kernel
theorem dX5_starts_11 : decode cX5_starts 11 = .ok (.istore_n 1, 1) := by decide +kernel
theorem dX5_starts_12 : decode cX5_starts 12 = .ok (.iload_n 1, 1) := by decide +kernel
theorem dX5_starts_13 : decode cX5_starts 13 = .ok (.iconst 3, 1) := by decide +kernel
theorem dX5_starts_14 : decode cX5_starts 14 = .ok (.if_icmp .ge 16, 3) := by decide +kernel
theorem dX5_starts_17 : decode cX5_starts 17 = .ok (.aload_n 0, 1) := by decide +kernel
theorem dX5_starts_18 : decode cX5_starts 18 = .ok (.getfield 56, 3) := by decide +kernel
theorem dX5_starts_21 : decode cX5_starts 21 = .ok (.iload_n 1, 1) := by decide +kernel
theorem dX5_starts_22 : decode cX5_starts 22 = .ok (.iconst 0, 1) := by decide +kernel
theorem dX5_starts_23 : decode cX5_starts 23 = .ok (.iastore, 1) := by decide +kernel
theorem dX5_starts_24 : decode cX5_starts 24 = .ok (.iinc 1 1, 3) := by decide +kernel
theorem dX5_starts_27 : decode cX5_starts 27 = .ok (.goto (-15), 3) := by decide +kernel
theorem dX5_starts_30 : decode cX5_starts 30 = .ok (.aload_n 0, 1) := by decide +kernel
theorem dX5_starts_31 : decode cX5_starts 31 = .ok (.iconst 0, 1) := by decide +kernel
theorem dX5_starts_32 : decode cX5_starts 32 = .ok (.putfield 94, 3) := by decide +kernel
theorem dX5_starts_35 : decode cX5_starts 35 = .ok (.aload_n 0, 1) := by decide +kernel
theorem dX5_starts_36 : decode cX5_starts 36 = .ok (.getfield 94, 3) := by decide +kernel
theorem dX5_starts_39 : decode cX5_starts 39 = .ok (.aload_n 0, 1) := by decide +kernel
theorem dX5_starts_40 : decode cX5_starts 40 = .ok (.getfield 76, 3) := by decide +kernel
theorem dX5_starts_43 : decode cX5_starts 43 = .ok (.if_icmp .ge 67, 3) := by decide +kernel
theorem dX5_starts_46 : decode cX5_starts 46 = .ok (.aload_n 0, 1) := by decide +kernel
theorem dX5_starts_47 : decode cX5_starts 47 = .ok (.getfield 23, 3) := by decide +kernel
theorem dX5_starts_50 : decode cX5_starts 50 = .ok (.aload_n 0, 1) := by decide +kernel
theorem dX5_starts_51 : decode cX5_starts 51 = .ok (.getfield 94, 3) := by decide +kernel
theorem dX5_starts_54 : decode cX5_starts 54 = .ok (.iaload, 1) := by decide +kernel
theorem dX5_starts_55 : decode cX5_starts 55 = .ok (.istore_n 1, 1) := by decide +kernel
theorem dX5_starts_56 : decode cX5_starts 56 = .ok (.aload_n 0, 1) := by decide +kernel
theorem dX5_starts_57 : decode cX5_starts 57 = .ok (.aload_n 0, 1) := by decide +kernel
theorem dX5_starts_58 : decode cX5_starts 58 = .ok (.getfield 94, 3) := by decide +kernel
theorem dX5_starts_61 : decode cX5_starts 61 = .ok (.iload_n 1, 1) := by decide +kernel
theorem dX5_starts_62 : decode cX5_starts 62 = .ok (.invokevirtual 132, 3) := by decide +kernel
theorem dX5_starts_65 : decode cX5_starts 65 = .ok (.ifCond .eq 6, 3) := by decide +kernel
theorem dX5_starts_68 : decode cX5_starts 68 = .ok (.goto 29, 3) := by decide +kernel
theorem dX5_starts_71 : decode cX5_starts 71 = .ok (.aload_n 0, 1) := by decide +kernel
theorem dX5_starts_72 : decode cX5_starts 72 = .ok (.aload_n 0, 1) := by decide +kernel
theorem dX5_starts_73 : decode cX5_starts 73 = .ok (.getfield 94, 3) := by decide +kernel
theorem dX5_starts_76 : decode cX5_starts 76 = .ok (.iconst 1, 1) := by decide +kernel
theorem dX5_starts_77 : decode cX5_starts 77 = .ok (.iload_n 1, 1) := by decide +kernel
theorem dX5_starts_78 : decode cX5_starts 78 = .ok (.isub, 1) := by decide +kernel
theorem dX5_starts_79 : decode cX5_starts 79 = .ok (.invokevirtual 132, 3) := by decide +kernel
theorem dX5_starts_82 : decode cX5_starts 82 = .ok (.ifCond .ne 5, 3) := by decide +kernel
theorem dX5_starts_85 : decode cX5_starts 85 = .ok (.iconst 0, 1) := by decide +kernel
theorem dX5_starts_86 : decode cX5_starts 86 = .ok (.ireturn, 1) := by decide +kernel
theorem dX5_starts_87 : decode cX5_starts 87 = .ok (.aload_n 0, 1) := by decide +kernel
theorem dX5_starts_88 : decode cX5_starts 88 = .ok (.dup, 1) := by decide +kernel
theorem dX5_starts_89 : decode cX5_starts 89 = .ok (.getfield 97, 3) := by decide +kernel
theorem dX5_starts_92 : decode cX5_starts 92 = .ok (.iconst 1, 1) := by decide +kernel
theorem dX5_starts_93 : decode cX5_starts 93 = .ok (.iadd, 1) := by decide +kernel
theorem dX5_starts_94 : decode cX5_starts 94 = .ok (.putfield 97, 3) := by decide +kernel
theorem dX5_starts_97 : decode cX5_starts 97 = .ok (.aload_n 0, 1) := by decide +kernel
theorem dX5_starts_98 : decode cX5_starts 98 = .ok (.dup, 1) := by decide +kernel
theorem dX5_starts_99 : decode cX5_starts 99 = .ok (.getfield 94, 3) := by decide +kernel
theorem dX5_starts_102 : decode cX5_starts 102 = .ok (.iconst 1, 1) := by decide +kernel
theorem dX5_starts_103 : decode cX5_starts 103 = .ok (.iadd, 1) := by decide +kernel
theorem dX5_starts_104 : decode cX5_starts 104 = .ok (.putfield 94, 3) := by decide +kernel
theorem dX5_starts_107 : decode cX5_starts 107 = .ok (.goto (-72), 3) := by decide +kernel
theorem dX5_starts_110 : decode cX5_starts 110 = .ok (.aload_n 0, 1) := by decide +kernel
theorem dX5_starts_111 : decode cX5_starts 111 = .ok (.getfield 76, 3) := by decide +kernel
theorem dX5_starts_114 : decode cX5_starts 114 = .ok (.ifCond .le 7, 3) := by decide +kernel
theorem dX5_starts_117 : decode cX5_starts 117 = .ok (.iconst 1, 1) := by decide +kernel
theorem dX5_starts_118 : decode cX5_starts 118 = .ok (.goto 4, 3) := by decide +kernel
theorem dX5_starts_121 : decode cX5_starts 121 = .ok (.iconst 0, 1) := by decide +kernel
theorem dX5_starts_122 : decode cX5_starts 122 = .ok (.ireturn, 1) := by decide +kernel
set_option maxRecDepth 20000 in
theorem ggX5_start_X5_checked : GoodIn wsX5_start wsX5_checked := goodIn_r _ [21, 22, 52, 53, 54, 55, 56, 57, 58, 59, 60, 61, 62, 63, 64, 65, 66, 67, 68, 69, 70, 71, 72, 73, 74, 75, 76, 77, 78, 79, 80] (by decide +kernel) (by decide +kernel)
set_option maxRecDepth 20000 in
theorem gX5_start_X5_checked : GoodIn wsX5_start (wsV RX5 104 RX5 yX5_checked wsX5_checked) := goodIn_app (goodIn_of _ (by decide +kernel)) ggX5_start_X5_checked
set_option maxRecDepth 20000 in
theorem ggX5_start_X5_starts : GoodIn wsX5_start wsX5_starts := goodIn_ca (goodIn_r _ [26, 5, 8, 12, 3, 2, 27, 28, 29, 30, 20, 31, 14, 32, 33, 34, 35, 36, 37, 16, 38, 39, 40, 41, 42, 43, 44, 45, 46, 47, 10, 48, 49, 50, 51, 52, 53, 54, 55, 56, 57, 58, 59, 60, 61, 62, 63, 64, 65, 66, 67, 68, 69, 70, 71, 72, 73, 74, 75, 76, 77, 78, 79, 80] (by decide +kernel) (by decide +kernel)) (goodIn_sub (fun _ h => List.mem_cons_of_mem _ (List.mem_append_right _ h)) (by decide +kernel))
set_option maxRecDepth 20000 in
theorem gX5_start_X5_starts : GoodIn wsX5_start (wsV RX5 136 RX5 yX5_starts wsX5_starts) := goodIn_app (goodIn_of _ (by decide +kernel)) ggX5_start_X5_starts
set_option maxRecDepth 20000 in
theorem ggX5_start_X5_at : GoodIn wsX5_start wsX5_at := goodIn_r _ [42] (by decide +kernel) (by decide +kernel)
set_option maxRecDepth 20000 in
theorem gX5_start_X5_at : GoodIn wsX5_start (va_wsS RX5 115 yX5_at wsX5_at) := goodIn_app (goodIn_of _ (by decide +kernel)) ggX5_start_X5_at
theorem dX5_start_0 : decode cX5_start 0 = .ok (.aload_n 0, 1) := by decide +kernel
theorem dX5_start_1 : decode cX5_start 1 = .ok (.aload_n 0, 1) := by decide +kernel
theorem dX5_start_2 : decode cX5_start 2 = .ok (.getfield 68, 3) := by decide +kernel
theorem dX5_start_5 : decode cX5_start 5 = .ok (.bipush 111, 2) := by decide +kernel
theorem dX5_start_7 : decode cX5_start 7 = .ok (.if_icmp .ne 14, 3) := by decide +kernel
theorem dX5_start_10 : decode cX5_start 10 = .ok (.aload_n 0, 1) := by decide +kernel
theorem dX5_start_11 : decode cX5_start 11 = .ok (.getfield 76, 3) := by decide +kernel
theorem dX5_start_14 : decode cX5_start 14 = .ok (.ifCond .le 7, 3) := by decide +kernel
theorem dX5_start_17 : decode cX5_start 17 = .ok (.iconst 1, 1) := by decide +kernel
theorem dX5_start_18 : decode cX5_start 18 = .ok (.goto 4, 3) := by decide +kernel
theorem dX5_start_21 : decode cX5_start 21 = .ok (.iconst 0, 1) := by decide +kernel
theorem dX5_start_22 : decode cX5_start 22 = .ok (.invokevirtual 104, 3) := by decide +kernel
theorem dX5_start_25 : decode cX5_start 25 = .ok (.ifCond .le 5, 3) := by decide +kernel
theorem dX5_start_28 : decode cX5_start 28 = .ok (.iconst 0, 1) := by decide +kernel
theorem dX5_start_29 : decode cX5_start 29 = .ok (.ireturn, 1) := by decide +kernel
theorem dX5_start_30 : decode cX5_start 30 = .ok (.aload_n 0, 1) := by decide +kernel
theorem dX5_start_31 : decode cX5_start 31 = .ok (.invokevirtual 136, 3) := by decide +kernel
theorem dX5_start_34 : decode cX5_start 34 = .ok (.istore_n 1, 1) := by decide +kernel
theorem dX5_start_35 : decode cX5_start 35 = .ok (.aload_n 0, 1) := by decide +kernel
theorem dX5_start_36 : decode cX5_start 36 = .ok (.iload_n 1, 1) := by decide +kernel
theorem dX5_start_37 : decode cX5_start 37 = .ok (.ifCond .eq 8, 3) := by decide +kernel
theorem dX5_start_40 : decode cX5_start 40 = .ok (.bipush 114, 2) := by decide +kernel
theorem dX5_start_42 : decode cX5_start 42 = .ok (.goto 5, 3) := by decide +kernel
theorem dX5_start_45 : decode cX5_start 45 = .ok (.bipush 104, 2) := by decide +kernel
theorem dX5_start_47 : decode cX5_start 47 = .ok (.putfield 68, 3) := by decide +kernel
theorem dX5_start_50 : decode cX5_start 50 = .ok (.aload_n 0, 1) := by decide +kernel
theorem dX5_start_51 : decode cX5_start 51 = .ok (.aload_n 0, 1) := by decide +kernel
theorem dX5_start_52 : decode cX5_start 52 = .ok (.getfield 94, 3) := by decide +kernel
theorem dX5_start_55 : decode cX5_start 55 = .ok (.putfield 85, 3) := by decide +kernel
theorem dX5_start_58 : decode cX5_start 58 = .ok (.aload_n 0, 1) := by decide +kernel
theorem dX5_start_59 : decode cX5_start 59 = .ok (.aload_n 0, 1) := by decide +kernel
theorem dX5_start_60 : decode cX5_start 60 = .ok (.getfield 91, 3) := by decide +kernel
theorem dX5_start_63 : decode cX5_start 63 = .ok (.putfield 82, 3) := by decide +kernel
theorem dX5_start_66 : decode cX5_start 66 = .ok (.aload_n 0, 1) := by decide +kernel
theorem dX5_start_67 : decode cX5_start 67 = .ok (.dup, 1) := by decide +kernel
theorem dX5_start_68 : decode cX5_start 68 = .ok (.getfield 88, 3) := by decide +kernel
theorem dX5_start_71 : decode cX5_start 71 = .ok (.aload_n 0, 1) := by decide +kernel
theorem dX5_start_72 : decode cX5_start 72 = .ok (.getfield 97, 3) := by decide +kernel
theorem dX5_start_75 : decode cX5_start 75 = .ok (.iadd, 1) := by decide +kernel
theorem dX5_start_76 : decode cX5_start 76 = .ok (.putfield 88, 3) := by decide +kernel
theorem dX5_start_79 : decode cX5_start 79 = .ok (.iconst 0, 1) := by decide +kernel
theorem dX5_start_80 : decode cX5_start 80 = .ok (.istore_n 2, 1) := by decide +kernel
theorem dX5_start_81 : decode cX5_start 81 = .ok (.iload_n 2, 1) := by decide +kernel
theorem dX5_start_82 : decode cX5_start 82 = .ok (.bipush 12, 2) := by decide +kernel
theorem dX5_start_84 : decode cX5_start 84 = .ok (.if_icmp .ge 21, 3) := by decide +kernel
theorem dX5_start_87 : decode cX5_start 87 = .ok (.aload_n 0, 1) := by decide +kernel
theorem dX5_start_88 : decode cX5_start 88 = .ok (.getfield 44, 3) := by decide +kernel
theorem dX5_start_91 : decode cX5_start 91 = .ok (.iload_n 2, 1) := by decide +kernel
theorem dX5_start_92 : decode cX5_start 92 = .ok (.aload_n 0, 1) := by decide +kernel
theorem dX5_start_93 : decode cX5_start 93 = .ok (.getfield 53, 3) := by decide +kernel
theorem dX5_start_96 : decode cX5_start 96 = .ok (.iload_n 2, 1) := by decide +kernel
theorem dX5_start_97 : decode cX5_start 97 = .ok (.iaload, 1) := by decide +kernel
theorem dX5_start_98 : decode cX5_start 98 = .ok (.iastore, 1) := by decide +kernel
theorem dX5_start_99 : decode cX5_start 99 = .ok (.iinc 2 1, 3) := by decide +kernel
theorem dX5_start_102 : decode cX5_start 102 = .ok (.goto (-21), 3) := by decide +kernel
theorem dX5_start_105 : decode cX5_start 105 = .ok (.iconst 0, 1) := by decide +kernel
theorem dX5_start_106 : decode cX5_start 106 = .ok (.istore_n 2, 1) := by decide +kernel
theorem dX5_start_107 : decode cX5_start 107 = .ok (.iload_n 2, 1) := by decide +kernel
theorem dX5_start_108 : decode cX5_start 108 = .ok (.iconst 3, 1) := by decide +kernel
theorem dX5_start_109 : decode cX5_start 109 = .ok (.if_icmp .ge 21, 3) := by decide +kernel
theorem dX5_start_112 : decode cX5_start 112 = .ok (.aload_n 0, 1) := by decide +kernel
theorem dX5_start_113 : decode cX5_start 113 = .ok (.getfield 47, 3) := by decide +kernel
theorem dX5_start_116 : decode cX5_start 116 = .ok (.iload_n 2, 1) := by decide +kernel
theorem dX5_start_117 : decode cX5_start 117 = .ok (.aload_n 0, 1) := by decide +kernel
theorem dX5_start_118 : decode cX5_start 118 = .ok (.getfield 56, 3) := by decide +kernel
theorem dX5_start_121 : decode cX5_start 121 = .ok (.iload_n 2, 1) := by decide +kernel
theorem dX5_start_122 : decode cX5_start 122 = .ok (.iaload, 1) := by decide +kernel
theorem dX5_start_123 : decode cX5_start 123 = .ok (.iastore, 1) := by decide +kernel
theorem dX5_start_124 : decode cX5_start 124 = .ok (.iinc 2 1, 3) := by decide +kernel
theorem dX5_start_127 : decode cX5_start 127 = .ok (.goto (-20), 3) := by decide +kernel
theorem dX5_start_130 : decode cX5_start 130 = .ok (.iconst 0, 1) := by decide +kernel
theorem dX5_start_131 : decode cX5_start 131 = .ok (.istore_n 2, 1) := by decide +kernel
theorem dX5_start_132 : decode cX5_start 132 = .ok (.iload_n 2, 1) := by decide +kernel
theorem dX5_start_133 : decode cX5_start 133 = .ok (.aload_n 0, 1) := by decide +kernel
theorem dX5_start_134 : decode cX5_start 134 = .ok (.getfield 85, 3) := by decide +kernel
theorem dX5_start_137 : decode cX5_start 137 = .ok (.if_icmp .ge 42, 3) := by decide +kernel
theorem dX5_start_140 : decode cX5_start 140 = .ok (.aload_n 0, 1) := by decide +kernel
theorem dX5_start_141 : decode cX5_start 141 = .ok (.getfield 38, 3) := by decide +kernel
theorem dX5_start_144 : decode cX5_start 144 = .ok (.iload_n 2, 1) := by decide +kernel
theorem dX5_start_145 : decode cX5_start 145 = .ok (.aload_n 0, 1) := by decide +kernel
theorem dX5_start_146 : decode cX5_start 146 = .ok (.getfield 50, 3) := by decide +kernel
theorem dX5_start_149 : decode cX5_start 149 = .ok (.iload_n 2, 1) := by decide +kernel
theorem dX5_start_150 : decode cX5_start 150 = .ok (.iaload, 1) := by decide +kernel
theorem dX5_start_151 : decode cX5_start 151 = .ok (.iastore, 1) := by decide +kernel
theorem dX5_start_152 : decode cX5_start 152 = .ok (.aload_n 0, 1) := by decide +kernel
theorem dX5_start_153 : decode cX5_start 153 = .ok (.getfield 41, 3) := by decide +kernel
theorem dX5_start_156 : decode cX5_start 156 = .ok (.iload_n 2, 1) := by decide +kernel
theorem dX5_start_157 : decode cX5_start 157 = .ok (.aload_n 0, 1) := by decide +kernel
theorem dX5_start_158 : decode cX5_start 158 = .ok (.getfield 32, 3) := by decide +kernel
theorem dX5_start_161 : decode cX5_start 161 = .ok (.iload_n 2, 1) := by decide +kernel
theorem dX5_start_162 : decode cX5_start 162 = .ok (.aload_n 0, 1) := by decide +kernel
theorem dX5_start_163 : decode cX5_start 163 = .ok (.getfield 50, 3) := by decide +kernel
theorem dX5_start_166 : decode cX5_start 166 = .ok (.iload_n 2, 1) := by decide +kernel
theorem dX5_start_167 : decode cX5_start 167 = .ok (.iaload, 1) := by decide +kernel
theorem dX5_start_168 : decode cX5_start 168 = .ok (.invokestatic 115, 3) := by decide +kernel
theorem dX5_start_171 : decode cX5_start 171 = .ok (.iaload, 1) := by decide +kernel
theorem dX5_start_172 : decode cX5_start 172 = .ok (.iastore, 1) := by decide +kernel
theorem dX5_start_173 : decode cX5_start 173 = .ok (.iinc 2 1, 3) := by decide +kernel
theorem dX5_start_176 : decode cX5_start 176 = .ok (.goto (-44), 3) := by decide +kernel
theorem dX5_start_179 : decode cX5_start 179 = .ok (.iload_n 1, 1) := by decide +kernel
theorem dX5_start_180 : decode cX5_start 180 = .ok (.ireturn, 1) := by decide +kernel
set_option maxRecDepth 20000 in
theorem ggX5_stop_X5_checked : GoodIn wsX5_stop wsX5_checked := goodIn_r _ [7, 8, 9, 10, 11, 12, 13, 14, 15, 16, 17, 18, 19, 20, 21, 22, 23, 24, 25, 26, 27, 28, 29, 30, 31, 32, 33, 34, 35, 36, 37] (by decide +kernel) (by decide +kernel)
set_option maxRecDepth 20000 in
theorem gX5_stop_X5_checked : GoodIn wsX5_stop (wsV RX5 104 RX5 yX5_checked wsX5_checked) := goodIn_app (goodIn_of _ (by decide +kernel)) ggX5_stop_X5_checked
theorem dX5_stop_0 : decode cX5_stop 0 = .ok (.aload_n 0, 1) := by decide +kernel
theorem dX5_stop_1 : decode cX5_stop 1 = .ok (.aload_n 0, 1) := by decide +kernel
theorem dX5_stop_2 : decode cX5_stop 2 = .ok (.getfield 68, 3) := by decide +kernel
theorem dX5_stop_5 : decode cX5_stop 5 = .ok (.bipush 111, 2) := by decide +kernel
theorem dX5_stop_7 : decode cX5_stop 7 = .ok (.if_icmp .eq 7, 3) := by decide +kernel
theorem dX5_stop_10 : decode cX5_stop 10 = .ok (.iconst 1, 1) := by decide +kernel
theorem dX5_stop_11 : decode cX5_stop 11 = .ok (.goto 4, 3) := by decide +kernel
theorem dX5_stop_14 : decode cX5_stop 14 = .ok (.iconst 0, 1) := by decide +kernel
theorem dX5_stop_15 : decode cX5_stop 15 = .ok (.invokevirtual 104, 3) := by decide +kernel
theorem dX5_stop_18 : decode cX5_stop 18 = .ok (.ifCond .le 5, 3) := by decide +kernel
theorem dX5_stop_21 : decode cX5_stop 21 = .ok (.iconst 0, 1) := by decide +kernel
theorem dX5_stop_22 : decode cX5_stop 22 = .ok (.ireturn, 1) := by decide +kernel
theorem dX5_stop_23 : decode cX5_stop 23 = .ok (.aload_n 0, 1) := by decide +kernel
theorem dX5_stop_24 : decode cX5_stop 24 = .ok (.getfield 85, 3) := by decide +kernel
theorem dX5_stop_27 : decode cX5_stop 27 = .ok (.istore_n 1, 1) := by decide +kernel
theorem dX5_stop_28 : decode cX5_stop 28 = .ok (.aload_n 0, 1) := by decide +kernel
theorem dX5_stop_29 : decode cX5_stop 29 = .ok (.bipush 111, 2) := by decide +kernel
theorem dX5_stop_31 : decode cX5_stop 31 = .ok (.putfield 68, 3) := by decide +kernel
theorem dX5_stop_34 : decode cX5_stop 34 = .ok (.aload_n 0, 1) := by decide +kernel
theorem dX5_stop_35 : decode cX5_stop 35 = .ok (.iconst 0, 1) := by decide +kernel
theorem dX5_stop_36 : decode cX5_stop 36 = .ok (.putfield 85, 3) := by decide +kernel
theorem dX5_stop_39 : decode cX5_stop 39 = .ok (.iload_n 1, 1) := by decide +kernel
theorem dX5_stop_40 : decode cX5_stop 40 = .ok (.ireturn, 1) := by decide +kernel
set_option maxRecDepth 20000 in
theorem ggX5_commit_X5_checked : GoodIn wsX5_commit wsX5_checked := goodIn_r _ [9, 10, 11, 12, 13, 14, 15, 16, 17, 18, 19, 20, 21, 22, 23, 24, 25, 26, 27, 28, 29, 30, 31, 32, 33, 34, 35, 36, 37, 38, 39] (by decide +kernel) (by decide +kernel)
set_option maxRecDepth 20000 in
theorem gX5_commit_X5_checked : GoodIn wsX5_commit (wsV RX5 104 RX5 yX5_checked wsX5_checked) := goodIn_app (goodIn_of _ (by decide +kernel)) ggX5_commit_X5_checked
theorem dX5_commit_0 : decode cX5_commit 0 = .ok (.aload_n 0, 1) := by decide +kernel
theorem dX5_commit_1 : decode cX5_commit 1 = .ok (.aload_n 0, 1) := by decide +kernel
theorem dX5_commit_2 : decode cX5_commit 2 = .ok (.getfield 68, 3) := by decide +kernel
theorem dX5_commit_5 : decode cX5_commit 5 = .ok (.bipush 114, 2) := by decide +kernel
theorem dX5_commit_7 : decode cX5_commit 7 = .ok (.if_icmp .ne 7, 3) := by decide +kernel
theorem dX5_commit_10 : decode cX5_commit 10 = .ok (.iconst 1, 1) := by decide +kernel
theorem dX5_commit_11 : decode cX5_commit 11 = .ok (.goto 4, 3) := by decide +kernel
theorem dX5_commit_14 : decode cX5_commit 14 = .ok (.iconst 0, 1) := by decide +kernel
theorem dX5_commit_15 : decode cX5_commit 15 = .ok (.invokevirtual 104, 3) := by decide +kernel
theorem dX5_commit_18 : decode cX5_commit 18 = .ok (.ifCond .le 5, 3) := by decide +kernel
theorem dX5_commit_21 : decode cX5_commit 21 = .ok (.iconst 0, 1) := by decide +kernel
theorem dX5_commit_22 : decode cX5_commit 22 = .ok (.ireturn, 1) := by decide +kernel
theorem dX5_commit_23 : decode cX5_commit 23 = .ok (.iconst 0, 1) := by decide +kernel
theorem dX5_commit_24 : decode cX5_commit 24 = .ok (.istore_n 1, 1) := by decide +kernel
theorem dX5_commit_25 : decode cX5_commit 25 = .ok (.iconst 0, 1) := by decide +kernel
theorem dX5_commit_26 : decode cX5_commit 26 = .ok (.istore_n 2, 1) := by decide +kernel
theorem dX5_commit_27 : decode cX5_commit 27 = .ok (.iload_n 2, 1) := by decide +kernel
theorem dX5_commit_28 : decode cX5_commit 28 = .ok (.aload_n 0, 1) := by decide +kernel
theorem dX5_commit_29 : decode cX5_commit 29 = .ok (.getfield 76, 3) := by decide +kernel
theorem dX5_commit_32 : decode cX5_commit 32 = .ok (.if_icmp .ge 42, 3) := by decide +kernel
theorem dX5_commit_35 : decode cX5_commit 35 = .ok (.aload_n 0, 1) := by decide +kernel
theorem dX5_commit_36 : decode cX5_commit 36 = .ok (.getfield 41, 3) := by decide +kernel
theorem dX5_commit_39 : decode cX5_commit 39 = .ok (.iload_n 2, 1) := by decide +kernel
theorem dX5_commit_40 : decode cX5_commit 40 = .ok (.iaload, 1) := by decide +kernel
theorem dX5_commit_41 : decode cX5_commit 41 = .ok (.aload_n 0, 1) := by decide +kernel
theorem dX5_commit_42 : decode cX5_commit 42 = .ok (.getfield 26, 3) := by decide +kernel
theorem dX5_commit_45 : decode cX5_commit 45 = .ok (.iload_n 2, 1) := by decide +kernel
theorem dX5_commit_46 : decode cX5_commit 46 = .ok (.iaload, 1) := by decide +kernel
theorem dX5_commit_47 : decode cX5_commit 47 = .ok (.if_icmp .gt 6, 3) := by decide +kernel
theorem dX5_commit_50 : decode cX5_commit 50 = .ok (.goto 18, 3) := by decide +kernel
theorem dX5_commit_53 : decode cX5_commit 53 = .ok (.aload_n 0, 1) := by decide +kernel
theorem dX5_commit_54 : decode cX5_commit 54 = .ok (.getfield 26, 3) := by decide +kernel
theorem dX5_commit_57 : decode cX5_commit 57 = .ok (.iload_n 2, 1) := by decide +kernel
theorem dX5_commit_58 : decode cX5_commit 58 = .ok (.aload_n 0, 1) := by decide +kernel
theorem dX5_commit_59 : decode cX5_commit 59 = .ok (.getfield 41, 3) := by decide +kernel
theorem dX5_commit_62 : decode cX5_commit 62 = .ok (.iload_n 2, 1) := by decide +kernel
theorem dX5_commit_63 : decode cX5_commit 63 = .ok (.iaload, 1) := by decide +kernel
theorem dX5_commit_64 : decode cX5_commit 64 = .ok (.iastore, 1) := by decide +kernel
theorem dX5_commit_65 : decode cX5_commit 65 = .ok (.iinc 1 1, 3) := by decide +kernel
theorem dX5_commit_68 : decode cX5_commit 68 = .ok (.iinc 2 1, 3) := by decide +kernel
theorem dX5_commit_71 : decode cX5_commit 71 = .ok (.goto (-44), 3) := by decide +kernel
theorem dX5_commit_74 : decode cX5_commit 74 = .ok (.iload_n 1, 1) := by decide +kernel
theorem dX5_commit_75 : decode cX5_commit 75 = .ok (.ireturn, 1) := by decide +kernel
theorem dX5_state_0 : decode cX5_state 0 = .ok (.aload_n 0, 1) := by decide +kernel
theorem dX5_state_1 : decode cX5_state 1 = .ok (.iconst 0, 1) := by decide +kernel
theorem dX5_state_2 : decode cX5_state 2 = .ok (.putfield 72, 3) := by decide +kernel
theorem dX5_state_5 : decode cX5_state 5 = .ok (.aload_n 0, 1) := by decide +kernel
theorem dX5_state_6 : decode cX5_state 6 = .ok (.getfield 68, 3) := by decide +kernel
theorem dX5_state_9 : decode cX5_state 9 = .ok (.ireturn, 1) := by decide +kernel
set_option maxRecDepth 20000 in
theorem ggX5_runsFrom_X5_isStage : GoodIn wsX5_runsFrom wsX5_isStage := goodIn_r _ [8, 9, 10, 11, 7, 12, 13, 14, 15, 16, 17, 18, 19, 20, 21, 22, 23, 24, 25, 26, 27, 28, 29, 30, 31, 32, 33, 34, 35, 36, 37, 38, 39, 40, 41] (by decide +kernel) (by decide +kernel)
set_option maxRecDepth 20000 in
theorem gX5_runsFrom_X5_isStage : GoodIn wsX5_runsFrom (wsV RX5 112 RX5 yX5_isStage wsX5_isStage) := goodIn_app (goodIn_of _ (by decide +kernel)) ggX5_runsFrom_X5_isStage
theorem dX5_runsFrom_0 : decode cX5_runsFrom 0 = .ok (.aload_n 0, 1) := by decide +kernel
theorem dX5_runsFrom_1 : decode cX5_runsFrom 1 = .ok (.aload_n 0, 1) := by decide +kernel
theorem dX5_runsFrom_2 : decode cX5_runsFrom 2 = .ok (.iload_n 1, 1) := by decide +kernel
theorem dX5_runsFrom_3 : decode cX5_runsFrom 3 = .ok (.invokevirtual 112, 3) := by decide +kernel
theorem dX5_runsFrom_6 : decode cX5_runsFrom 6 = .ok (.ifCond .ne 7, 3) := by decide +kernel
theorem dX5_runsFrom_9 : decode cX5_runsFrom 9 = .ok (.iconst 1, 1) := by decide +kernel
theorem dX5_runsFrom_10 : decode cX5_runsFrom 10 = .ok (.goto 16, 3) := by decide +kernel
theorem dX5_runsFrom_13 : decode cX5_runsFrom 13 = .ok (.iload_n 1, 1) := by decide +kernel
theorem dX5_runsFrom_14 : decode cX5_runsFrom 14 = .ok (.aload_n 0, 1) := by decide +kernel
theorem dX5_runsFrom_15 : decode cX5_runsFrom 15 = .ok (.getfield 85, 3) := by decide +kernel
theorem dX5_runsFrom_18 : decode cX5_runsFrom 18 = .ok (.if_icmp .lt 7, 3) := by decide +kernel
theorem dX5_runsFrom_21 : decode cX5_runsFrom 21 = .ok (.iconst 2, 1) := by decide +kernel
theorem dX5_runsFrom_22 : decode cX5_runsFrom 22 = .ok (.goto 4, 3) := by decide +kernel
theorem dX5_runsFrom_25 : decode cX5_runsFrom 25 = .ok (.iconst 0, 1) := by decide +kernel
theorem dX5_runsFrom_26 : decode cX5_runsFrom 26 = .ok (.putfield 72, 3) := by decide +kernel
theorem dX5_runsFrom_29 : decode cX5_runsFrom 29 = .ok (.aload_n 0, 1) := by decide +kernel
theorem dX5_runsFrom_30 : decode cX5_runsFrom 30 = .ok (.getfield 72, 3) := by decide +kernel
theorem dX5_runsFrom_33 : decode cX5_runsFrom 33 = .ok (.ifCond .le 7, 3) := by decide +kernel
theorem dX5_runsFrom_36 : decode cX5_runsFrom 36 = .ok (.iconst 0, 1) := by decide +kernel
theorem dX5_runsFrom_37 : decode cX5_runsFrom 37 = .ok (.goto 9, 3) := by decide +kernel
theorem dX5_runsFrom_40 : decode cX5_runsFrom 40 = .ok (.aload_n 0, 1) := by decide +kernel
theorem dX5_runsFrom_41 : decode cX5_runsFrom 41 = .ok (.getfield 38, 3) := by decide +kernel
theorem dX5_runsFrom_44 : decode cX5_runsFrom 44 = .ok (.iload_n 1, 1) := by decide +kernel
theorem dX5_runsFrom_45 : decode cX5_runsFrom 45 = .ok (.iaload, 1) := by decide +kernel
theorem dX5_runsFrom_46 : decode cX5_runsFrom 46 = .ok (.ireturn, 1) := by decide +kernel
set_option maxRecDepth 20000 in
theorem ggX5_fallbacks_X5_plain : GoodIn wsX5_fallbacks wsX5_plain := goodIn_r _ [6, 7, 8, 9, 10, 11, 12, 13, 14, 15, 16, 17, 18, 19, 20, 21, 22, 23, 24, 25, 26, 27, 28, 29, 30, 31, 32, 33, 34, 35, 36] (by decide +kernel) (by decide +kernel)
set_option maxRecDepth 20000 in
theorem gX5_fallbacks_X5_plain : GoodIn wsX5_fallbacks (wsV RX5 140 RX5 yX5_plain wsX5_plain) := goodIn_app (goodIn_of _ (by decide +kernel)) ggX5_fallbacks_X5_plain
theorem dX5_fallbacks_0 : decode cX5_fallbacks 0 = .ok (.aload_n 0, 1) := by decide +kernel
theorem dX5_fallbacks_1 : decode cX5_fallbacks 1 = .ok (.aload_n 0, 1) := by decide +kernel
theorem dX5_fallbacks_2 : decode cX5_fallbacks 2 = .ok (.getfield 88, 3) := by decide +kernel
theorem dX5_fallbacks_5 : decode cX5_fallbacks 5 = .ok (.invokevirtual 140, 3) := by decide +kernel
theorem dX5_fallbacks_8 : decode cX5_fallbacks 8 = .ok (.ireturn, 1) := by decide +kernel
set_option maxRecDepth 20000 in
theorem ggX5_register_X5_isRegister : GoodIn wsX5_register wsX5_isRegister := goodIn_r _ [5, 6, 7, 4, 8] (by decide +kernel) (by decide +kernel)
set_option maxRecDepth 20000 in
theorem gX5_register_X5_isRegister : GoodIn wsX5_register (va_wsS RX5 108 yX5_isRegister wsX5_isRegister) := goodIn_app (goodIn_of _ (by decide +kernel)) ggX5_register_X5_isRegister
set_option maxRecDepth 20000 in
theorem ggX5_register_X5_checked : GoodIn wsX5_register wsX5_checked := goodIn_r _ [12, 13, 14, 15, 16, 17, 18, 19, 20, 21, 22, 23, 24, 25, 26, 27, 28, 29, 30, 31, 32, 33, 34, 35, 36, 37, 38, 39, 40, 41, 42] (by decide +kernel) (by decide +kernel)
set_option maxRecDepth 20000 in
theorem gX5_register_X5_checked : GoodIn wsX5_register (wsV RX5 104 RX5 yX5_checked wsX5_checked) := goodIn_app (goodIn_of _ (by decide +kernel)) ggX5_register_X5_checked
theorem dX5_register_0 : decode cX5_register 0 = .ok (.aload_n 0, 1) := by decide +kernel
theorem dX5_register_1 : decode cX5_register 1 = .ok (.iload_n 1, 1) := by decide +kernel
theorem dX5_register_2 : decode cX5_register 2 = .ok (.invokestatic 108, 3) := by decide +kernel
theorem dX5_register_5 : decode cX5_register 5 = .ok (.invokevirtual 104, 3) := by decide +kernel
theorem dX5_register_8 : decode cX5_register 8 = .ok (.ifCond .le 7, 3) := by decide +kernel
theorem dX5_register_11 : decode cX5_register 11 = .ok (.iconst 0, 1) := by decide +kernel
theorem dX5_register_12 : decode cX5_register 12 = .ok (.goto 9, 3) := by decide +kernel
theorem dX5_register_15 : decode cX5_register 15 = .ok (.aload_n 0, 1) := by decide +kernel
theorem dX5_register_16 : decode cX5_register 16 = .ok (.getfield 47, 3) := by decide +kernel
theorem dX5_register_19 : decode cX5_register 19 = .ok (.iload_n 1, 1) := by decide +kernel
theorem dX5_register_20 : decode cX5_register 20 = .ok (.iaload, 1) := by decide +kernel
theorem dX5_register_21 : decode cX5_register 21 = .ok (.ireturn, 1) := by decide +kernel
set_option maxRecDepth 20000 in
theorem ggX5_registerByLog_X5_isRegister : GoodIn wsX5_registerByLog wsX5_isRegister := goodIn_r _ [6, 7, 8, 5, 9] (by decide +kernel) (by decide +kernel)
set_option maxRecDepth 20000 in
theorem gX5_registerByLog_X5_isRegister : GoodIn wsX5_registerByLog (va_wsS RX5 108 yX5_isRegister wsX5_isRegister) := goodIn_app (goodIn_of _ (by decide +kernel)) ggX5_registerByLog_X5_isRegister
set_option maxRecDepth 20000 in
theorem ggX5_registerByLog_X5_checked : GoodIn wsX5_registerByLog wsX5_checked := goodIn_r _ [13, 14, 18, 19, 20, 21, 22, 23, 24, 25, 26, 27, 28, 29, 30, 31, 32, 33, 34, 35, 36, 37, 38, 39, 40, 41, 42, 43, 44, 45, 46] (by decide +kernel) (by decide +kernel)
set_option maxRecDepth 20000 in
theorem gX5_registerByLog_X5_checked : GoodIn wsX5_registerByLog (wsV RX5 104 RX5 yX5_checked wsX5_checked) := goodIn_app (goodIn_of _ (by decide +kernel)) ggX5_registerByLog_X5_checked
set_option maxRecDepth 20000 in
theorem ggX5_registerByLog_X5_extended : GoodIn wsX5_registerByLog wsX5_extended := goodIn_r _ [17] (by decide +kernel) (by decide +kernel)
set_option maxRecDepth 20000 in
theorem gX5_registerByLog_X5_extended : GoodIn wsX5_registerByLog (va_wsS RX5 126 yX5_extended wsX5_extended) := goodIn_app (goodIn_of _ (by decide +kernel)) ggX5_registerByLog_X5_extended
theorem dX5_registerByLog_0 : decode cX5_registerByLog 0 = .ok (.aload_n 0, 1) := by decide +kernel
theorem dX5_registerByLog_1 : decode cX5_registerByLog 1 = .ok (.iload_n 1, 1) := by decide +kernel
theorem dX5_registerByLog_2 : decode cX5_registerByLog 2 = .ok (.invokestatic 108, 3) := by decide +kernel
theorem dX5_registerByLog_5 : decode cX5_registerByLog 5 = .ok (.invokevirtual 104, 3) := by decide +kernel
theorem dX5_registerByLog_8 : decode cX5_registerByLog 8 = .ok (.ifCond .le 5, 3) := by decide +kernel
theorem dX5_registerByLog_11 : decode cX5_registerByLog 11 = .ok (.iconst 0, 1) := by decide +kernel
theorem dX5_registerByLog_12 : decode cX5_registerByLog 12 = .ok (.ireturn, 1) := by decide +kernel
theorem dX5_registerByLog_13 : decode cX5_registerByLog 13 = .ok (.iconst 0, 1) := by decide +kernel
theorem dX5_registerByLog_14 : decode cX5_registerByLog 14 = .ok (.istore_n 2, 1) := by decide +kernel
theorem dX5_registerByLog_15 : decode cX5_registerByLog 15 = .ok (.iconst 0, 1) := by decide +kernel
theorem dX5_registerByLog_16 : decode cX5_registerByLog 16 = .ok (.istore_n 3, 1) := by decide +kernel
theorem dX5_registerByLog_17 : decode cX5_registerByLog 17 = .ok (.iload_n 3, 1) := by decide +kernel
theorem dX5_registerByLog_18 : decode cX5_registerByLog 18 = .ok (.aload_n 0, 1) := by decide +kernel
theorem dX5_registerByLog_19 : decode cX5_registerByLog 19 = .ok (.getfield 82, 3) := by decide +kernel
theorem dX5_registerByLog_22 : decode cX5_registerByLog 22 = .ok (.if_icmp .ge 38, 3) := by decide +kernel
theorem dX5_registerByLog_25 : decode cX5_registerByLog 25 = .ok (.aload_n 0, 1) := by decide +kernel
theorem dX5_registerByLog_26 : decode cX5_registerByLog 26 = .ok (.getfield 44, 3) := by decide +kernel
theorem dX5_registerByLog_29 : decode cX5_registerByLog 29 = .ok (.iload_n 3, 1) := by decide +kernel
theorem dX5_registerByLog_30 : decode cX5_registerByLog 30 = .ok (.iaload, 1) := by decide +kernel
theorem dX5_registerByLog_31 : decode cX5_registerByLog 31 = .ok (.sipush 1000, 3) := by decide +kernel
theorem dX5_registerByLog_34 : decode cX5_registerByLog 34 = .ok (.idiv, 1) := by decide +kernel
theorem dX5_registerByLog_35 : decode cX5_registerByLog 35 = .ok (.iload_n 1, 1) := by decide +kernel
theorem dX5_registerByLog_36 : decode cX5_registerByLog 36 = .ok (.if_icmp .ne 18, 3) := by decide +kernel
theorem dX5_registerByLog_39 : decode cX5_registerByLog 39 = .ok (.iload_n 2, 1) := by decide +kernel
theorem dX5_registerByLog_40 : decode cX5_registerByLog 40 = .ok (.aload_n 0, 1) := by decide +kernel
theorem dX5_registerByLog_41 : decode cX5_registerByLog 41 = .ok (.getfield 44, 3) := by decide +kernel
theorem dX5_registerByLog_44 : decode cX5_registerByLog 44 = .ok (.iload_n 3, 1) := by decide +kernel
theorem dX5_registerByLog_45 : decode cX5_registerByLog 45 = .ok (.iaload, 1) := by decide +kernel
theorem dX5_registerByLog_46 : decode cX5_registerByLog 46 = .ok (.sipush 1000, 3) := by decide +kernel
theorem dX5_registerByLog_49 : decode cX5_registerByLog 49 = .ok (.irem, 1) := by decide +kernel
theorem dX5_registerByLog_50 : decode cX5_registerByLog 50 = .ok (.invokestatic 126, 3) := by decide +kernel
theorem dX5_registerByLog_53 : decode cX5_registerByLog 53 = .ok (.istore_n 2, 1) := by decide +kernel
theorem dX5_registerByLog_54 : decode cX5_registerByLog 54 = .ok (.iinc 3 1, 3) := by decide +kernel
theorem dX5_registerByLog_57 : decode cX5_registerByLog 57 = .ok (.goto (-40), 3) := by decide +kernel
theorem dX5_registerByLog_60 : decode cX5_registerByLog 60 = .ok (.iload_n 2, 1) := by decide +kernel
theorem dX5_registerByLog_61 : decode cX5_registerByLog 61 = .ok (.ireturn, 1) := by decide +kernel
set_option maxRecDepth 20000 in
theorem ggX5_forecast_X5_isRegister : GoodIn wsX5_forecast wsX5_isRegister := goodIn_r _ [7, 8, 9, 6, 10] (by decide +kernel) (by decide +kernel)
set_option maxRecDepth 20000 in
theorem gX5_forecast_X5_isRegister : GoodIn wsX5_forecast (va_wsS RX5 108 yX5_isRegister wsX5_isRegister) := goodIn_app (goodIn_of _ (by decide +kernel)) ggX5_forecast_X5_isRegister
set_option maxRecDepth 20000 in
theorem ggX5_forecast_X5_starts : GoodIn wsX5_forecast wsX5_starts := goodIn_ca (goodIn_r _ [14, 15, 16, 3, 17, 1, 18, 19, 20, 21, 6, 22, 23, 24, 25, 26, 27, 28, 29, 30, 31, 32, 33, 34, 35, 36, 37, 38, 39, 40, 41, 42, 43, 44, 45, 46, 47, 48, 49, 50, 51, 52, 53, 54, 55, 56, 57, 58, 59, 60, 61, 62, 63, 64, 65, 66, 67, 68, 69, 70, 71, 72, 73, 74] (by decide +kernel) (by decide +kernel)) (goodIn_sub (fun _ h => List.mem_cons_of_mem _ (List.mem_append_right _ h)) (by decide +kernel))
set_option maxRecDepth 20000 in
theorem gX5_forecast_X5_starts : GoodIn wsX5_forecast (wsV RX5 136 RX5 yX5_starts wsX5_starts) := goodIn_app (goodIn_of _ (by decide +kernel)) ggX5_forecast_X5_starts
theorem dX5_forecast_0 : decode cX5_forecast 0 = .ok (.aload_n 0, 1) := by decide +kernel
theorem dX5_forecast_1 : decode cX5_forecast 1 = .ok (.iload_n 1, 1) := by decide +kernel
theorem dX5_forecast_2 : decode cX5_forecast 2 = .ok (.invokestatic 108, 3) := by decide +kernel
theorem dX5_forecast_5 : decode cX5_forecast 5 = .ok (.ifCond .ne 7, 3) := by decide +kernel
theorem dX5_forecast_8 : decode cX5_forecast 8 = .ok (.iconst 1, 1) := by decide +kernel
theorem dX5_forecast_9 : decode cX5_forecast 9 = .ok (.goto 15, 3) := by decide +kernel
theorem dX5_forecast_12 : decode cX5_forecast 12 = .ok (.aload_n 0, 1) := by decide +kernel
theorem dX5_forecast_13 : decode cX5_forecast 13 = .ok (.getfield 76, 3) := by decide +kernel
theorem dX5_forecast_16 : decode cX5_forecast 16 = .ok (.ifCond .ne 7, 3) := by decide +kernel
theorem dX5_forecast_19 : decode cX5_forecast 19 = .ok (.iconst 2, 1) := by decide +kernel
theorem dX5_forecast_20 : decode cX5_forecast 20 = .ok (.goto 4, 3) := by decide +kernel
theorem dX5_forecast_23 : decode cX5_forecast 23 = .ok (.iconst 0, 1) := by decide +kernel
theorem dX5_forecast_24 : decode cX5_forecast 24 = .ok (.putfield 72, 3) := by decide +kernel
theorem dX5_forecast_27 : decode cX5_forecast 27 = .ok (.aload_n 0, 1) := by decide +kernel
theorem dX5_forecast_28 : decode cX5_forecast 28 = .ok (.getfield 72, 3) := by decide +kernel
theorem dX5_forecast_31 : decode cX5_forecast 31 = .ok (.ifCond .le 5, 3) := by decide +kernel
theorem dX5_forecast_34 : decode cX5_forecast 34 = .ok (.iconst 0, 1) := by decide +kernel
theorem dX5_forecast_35 : decode cX5_forecast 35 = .ok (.ireturn, 1) := by decide +kernel
theorem dX5_forecast_36 : decode cX5_forecast 36 = .ok (.aload_n 0, 1) := by decide +kernel
theorem dX5_forecast_37 : decode cX5_forecast 37 = .ok (.invokevirtual 136, 3) := by decide +kernel
theorem dX5_forecast_40 : decode cX5_forecast 40 = .ok (.istore_n 2, 1) := by decide +kernel
theorem dX5_forecast_41 : decode cX5_forecast 41 = .ok (.aload_n 0, 1) := by decide +kernel
theorem dX5_forecast_42 : decode cX5_forecast 42 = .ok (.getfield 56, 3) := by decide +kernel
theorem dX5_forecast_45 : decode cX5_forecast 45 = .ok (.iload_n 1, 1) := by decide +kernel
theorem dX5_forecast_46 : decode cX5_forecast 46 = .ok (.iaload, 1) := by decide +kernel
theorem dX5_forecast_47 : decode cX5_forecast 47 = .ok (.ireturn, 1) := by decide +kernel
set_option maxRecDepth 20000 in
theorem ggX5_entries_X5_plain : GoodIn wsX5_entries wsX5_plain := goodIn_r _ [6, 7, 8, 9, 10, 11, 12, 13, 14, 15, 16, 17, 18, 19, 20, 21, 22, 23, 24, 25, 26, 27, 28, 29, 30, 31, 32, 33, 34, 35, 36] (by decide +kernel) (by decide +kernel)
set_option maxRecDepth 20000 in
theorem gX5_entries_X5_plain : GoodIn wsX5_entries (wsV RX5 140 RX5 yX5_plain wsX5_plain) := goodIn_app (goodIn_of _ (by decide +kernel)) ggX5_entries_X5_plain
theorem dX5_entries_0 : decode cX5_entries 0 = .ok (.aload_n 0, 1) := by decide +kernel
theorem dX5_entries_1 : decode cX5_entries 1 = .ok (.aload_n 0, 1) := by decide +kernel
theorem dX5_entries_2 : decode cX5_entries 2 = .ok (.getfield 82, 3) := by decide +kernel
theorem dX5_entries_5 : decode cX5_entries 5 = .ok (.invokevirtual 140, 3) := by decide +kernel
theorem dX5_entries_8 : decode cX5_entries 8 = .ok (.ireturn, 1) := by decide +kernel
set_option maxRecDepth 20000 in
theorem ggX5_entry_X5_in : GoodIn wsX5_entry wsX5_in := goodIn_r _ [6] (by decide +kernel) (by decide +kernel)
set_option maxRecDepth 20000 in
theorem gX5_entry_X5_in : GoodIn wsX5_entry (va_wsS RX5 100 yX5_in wsX5_in) := goodIn_app (goodIn_of _ (by decide +kernel)) ggX5_entry_X5_in
set_option maxRecDepth 20000 in
theorem ggX5_entry_X5_checked : GoodIn wsX5_entry wsX5_checked := goodIn_r _ [10, 11, 12, 13, 14, 15, 16, 17, 18, 19, 20, 21, 22, 23, 24, 25, 26, 27, 28, 29, 30, 31, 32, 33, 34, 35, 36, 37, 38, 39, 40] (by decide +kernel) (by decide +kernel)
set_option maxRecDepth 20000 in
theorem gX5_entry_X5_checked : GoodIn wsX5_entry (wsV RX5 104 RX5 yX5_checked wsX5_checked) := goodIn_app (goodIn_of _ (by decide +kernel)) ggX5_entry_X5_checked
theorem dX5_entry_0 : decode cX5_entry 0 = .ok (.aload_n 0, 1) := by decide +kernel
theorem dX5_entry_1 : decode cX5_entry 1 = .ok (.iload_n 1, 1) := by decide +kernel
theorem dX5_entry_2 : decode cX5_entry 2 = .ok (.iconst 0, 1) := by decide +kernel
theorem dX5_entry_3 : decode cX5_entry 3 = .ok (.aload_n 0, 1) := by decide +kernel
theorem dX5_entry_4 : decode cX5_entry 4 = .ok (.getfield 82, 3) := by decide +kernel
theorem dX5_entry_7 : decode cX5_entry 7 = .ok (.iconst 1, 1) := by decide +kernel
theorem dX5_entry_8 : decode cX5_entry 8 = .ok (.isub, 1) := by decide +kernel
theorem dX5_entry_9 : decode cX5_entry 9 = .ok (.invokestatic 100, 3) := by decide +kernel
theorem dX5_entry_12 : decode cX5_entry 12 = .ok (.invokevirtual 104, 3) := by decide +kernel
theorem dX5_entry_15 : decode cX5_entry 15 = .ok (.ifCond .le 7, 3) := by decide +kernel
theorem dX5_entry_18 : decode cX5_entry 18 = .ok (.iconst 0, 1) := by decide +kernel
theorem dX5_entry_19 : decode cX5_entry 19 = .ok (.goto 9, 3) := by decide +kernel
theorem dX5_entry_22 : decode cX5_entry 22 = .ok (.aload_n 0, 1) := by decide +kernel
theorem dX5_entry_23 : decode cX5_entry 23 = .ok (.getfield 44, 3) := by decide +kernel
theorem dX5_entry_26 : decode cX5_entry 26 = .ok (.iload_n 1, 1) := by decide +kernel
theorem dX5_entry_27 : decode cX5_entry 27 = .ok (.iaload, 1) := by decide +kernel
theorem dX5_entry_28 : decode cX5_entry 28 = .ok (.ireturn, 1) := by decide +kernel
theorem dX5_isSealed_0 : decode cX5_isSealed 0 = .ok (.aload_n 0, 1) := by decide +kernel
theorem dX5_isSealed_1 : decode cX5_isSealed 1 = .ok (.getfield 59, 3) := by decide +kernel
theorem dX5_isSealed_4 : decode cX5_isSealed 4 = .ok (.iload_n 1, 1) := by decide +kernel
theorem dX5_isSealed_5 : decode cX5_isSealed 5 = .ok (.iaload, 1) := by decide +kernel
theorem dX5_isSealed_6 : decode cX5_isSealed 6 = .ok (.iload_n 2, 1) := by decide +kernel
theorem dX5_isSealed_7 : decode cX5_isSealed 7 = .ok (.ishr, 1) := by decide +kernel
theorem dX5_isSealed_8 : decode cX5_isSealed 8 = .ok (.iconst 1, 1) := by decide +kernel
theorem dX5_isSealed_9 : decode cX5_isSealed 9 = .ok (.iand, 1) := by decide +kernel
theorem dX5_isSealed_10 : decode cX5_isSealed 10 = .ok (.iconst 1, 1) := by decide +kernel
theorem dX5_isSealed_11 : decode cX5_isSealed 11 = .ok (.if_icmp .ne 7, 3) := by decide +kernel
theorem dX5_isSealed_14 : decode cX5_isSealed 14 = .ok (.iconst 1, 1) := by decide +kernel
theorem dX5_isSealed_15 : decode cX5_isSealed 15 = .ok (.goto 4, 3) := by decide +kernel
theorem dX5_isSealed_18 : decode cX5_isSealed 18 = .ok (.iconst 0, 1) := by decide +kernel
theorem dX5_isSealed_19 : decode cX5_isSealed 19 = .ok (.ireturn, 1) := by decide +kernel
theorem dX5_seals_0 : decode cX5_seals 0 = .ok (.iconst 0, 1) := by decide +kernel
theorem dX5_seals_1 : decode cX5_seals 1 = .ok (.istore_n 3, 1) := by decide +kernel
theorem dX5_seals_2 : decode cX5_seals 2 = .ok (.iload_n 3, 1) := by decide +kernel
theorem dX5_seals_3 : decode cX5_seals 3 = .ok (.iconst 3, 1) := by decide +kernel
theorem dX5_seals_4 : decode cX5_seals 4 = .ok (.if_icmp .ge 38, 3) := by decide +kernel
theorem dX5_seals_7 : decode cX5_seals 7 = .ok (.aload_n 0, 1) := by decide +kernel
theorem dX5_seals_8 : decode cX5_seals 8 = .ok (.getfield 65, 3) := by decide +kernel
theorem dX5_seals_11 : decode cX5_seals 11 = .ok (.iconst 3, 1) := by decide +kernel
theorem dX5_seals_12 : decode cX5_seals 12 = .ok (.iload_n 1, 1) := by decide +kernel
theorem dX5_seals_13 : decode cX5_seals 13 = .ok (.imul, 1) := by decide +kernel
theorem dX5_seals_14 : decode cX5_seals 14 = .ok (.iload_n 3, 1) := by decide +kernel
theorem dX5_seals_15 : decode cX5_seals 15 = .ok (.iadd, 1) := by decide +kernel
theorem dX5_seals_16 : decode cX5_seals 16 = .ok (.iload_n 2, 1) := by decide +kernel
theorem dX5_seals_17 : decode cX5_seals 17 = .ok (.ifCond .eq 12, 3) := by decide +kernel
theorem dX5_seals_20 : decode cX5_seals 20 = .ok (.aload_n 0, 1) := by decide +kernel
theorem dX5_seals_21 : decode cX5_seals 21 = .ok (.getfield 56, 3) := by decide +kernel
theorem dX5_seals_24 : decode cX5_seals 24 = .ok (.iload_n 3, 1) := by decide +kernel
theorem dX5_seals_25 : decode cX5_seals 25 = .ok (.iaload, 1) := by decide +kernel
theorem dX5_seals_26 : decode cX5_seals 26 = .ok (.goto 9, 3) := by decide +kernel
theorem dX5_seals_29 : decode cX5_seals 29 = .ok (.aload_n 0, 1) := by decide +kernel
theorem dX5_seals_30 : decode cX5_seals 30 = .ok (.getfield 47, 3) := by decide +kernel
theorem dX5_seals_33 : decode cX5_seals 33 = .ok (.iload_n 3, 1) := by decide +kernel
theorem dX5_seals_34 : decode cX5_seals 34 = .ok (.iaload, 1) := by decide +kernel
theorem dX5_seals_35 : decode cX5_seals 35 = .ok (.iastore, 1) := by decide +kernel
theorem dX5_seals_36 : decode cX5_seals 36 = .ok (.iinc 3 1, 3) := by decide +kernel
theorem dX5_seals_39 : decode cX5_seals 39 = .ok (.goto (-37), 3) := by decide +kernel
theorem dX5_seals_42 : decode cX5_seals 42 = .ok (.return_, 1) := by decide +kernel
set_option maxRecDepth 20000 in
theorem ggX5_others_X5_isSealed : GoodIn wsX5_others wsX5_isSealed := goodIn_ca (goodIn_r _ [8, 9, 10, 11, 12, 13, 14, 15, 16, 17, 18, 19, 20, 21, 22, 23, 24, 25, 26, 27, 28, 29, 30, 31, 32, 33, 34, 35, 36, 37, 38] (by decide +kernel) (by decide +kernel)) (goodIn_sub (fun _ h => List.mem_cons_of_mem _ (List.mem_append_right _ h)) (by decide +kernel))
set_option maxRecDepth 20000 in
theorem gX5_others_X5_isSealed : GoodIn wsX5_others (wsV RX5 144 RX5 yX5_isSealed wsX5_isSealed) := goodIn_app (goodIn_of _ (by decide +kernel)) ggX5_others_X5_isSealed
theorem dX5_others_0 : decode cX5_others 0 = .ok (.iconst 0, 1) := by decide +kernel
theorem dX5_others_1 : decode cX5_others 1 = .ok (.istore_n 3, 1) := by decide +kernel
theorem dX5_others_2 : decode cX5_others 2 = .ok (.iconst 0, 1) := by decide +kernel
theorem dX5_others_3 : decode cX5_others 3 = .ok (.istore 4, 2) := by decide +kernel
theorem dX5_others_5 : decode cX5_others 5 = .ok (.iload 4, 2) := by decide +kernel
theorem dX5_others_7 : decode cX5_others 7 = .ok (.iconst 3, 1) := by decide +kernel
theorem dX5_others_8 : decode cX5_others 8 = .ok (.if_icmp .ge 62, 3) := by decide +kernel
theorem dX5_others_11 : decode cX5_others 11 = .ok (.iload_n 3, 1) := by decide +kernel
theorem dX5_others_12 : decode cX5_others 12 = .ok (.aload_n 0, 1) := by decide +kernel
theorem dX5_others_13 : decode cX5_others 13 = .ok (.iload_n 1, 1) := by decide +kernel
theorem dX5_others_14 : decode cX5_others 14 = .ok (.iload 4, 2) := by decide +kernel
theorem dX5_others_16 : decode cX5_others 16 = .ok (.invokevirtual 144, 3) := by decide +kernel
theorem dX5_others_19 : decode cX5_others 19 = .ok (.ifCond .eq 42, 3) := by decide +kernel
theorem dX5_others_22 : decode cX5_others 22 = .ok (.aload_n 0, 1) := by decide +kernel
theorem dX5_others_23 : decode cX5_others 23 = .ok (.getfield 65, 3) := by decide +kernel
theorem dX5_others_26 : decode cX5_others 26 = .ok (.iconst 3, 1) := by decide +kernel
theorem dX5_others_27 : decode cX5_others 27 = .ok (.iload_n 1, 1) := by decide +kernel
theorem dX5_others_28 : decode cX5_others 28 = .ok (.imul, 1) := by decide +kernel
theorem dX5_others_29 : decode cX5_others 29 = .ok (.iload 4, 2) := by decide +kernel
theorem dX5_others_31 : decode cX5_others 31 = .ok (.iadd, 1) := by decide +kernel
theorem dX5_others_32 : decode cX5_others 32 = .ok (.iaload, 1) := by decide +kernel
theorem dX5_others_33 : decode cX5_others 33 = .ok (.iload_n 2, 1) := by decide +kernel
theorem dX5_others_34 : decode cX5_others 34 = .ok (.ifCond .eq 13, 3) := by decide +kernel
theorem dX5_others_37 : decode cX5_others 37 = .ok (.aload_n 0, 1) := by decide +kernel
theorem dX5_others_38 : decode cX5_others 38 = .ok (.getfield 56, 3) := by decide +kernel
theorem dX5_others_41 : decode cX5_others 41 = .ok (.iload 4, 2) := by decide +kernel
theorem dX5_others_43 : decode cX5_others 43 = .ok (.iaload, 1) := by decide +kernel
theorem dX5_others_44 : decode cX5_others 44 = .ok (.goto 10, 3) := by decide +kernel
theorem dX5_others_47 : decode cX5_others 47 = .ok (.aload_n 0, 1) := by decide +kernel
theorem dX5_others_48 : decode cX5_others 48 = .ok (.getfield 47, 3) := by decide +kernel
theorem dX5_others_51 : decode cX5_others 51 = .ok (.iload 4, 2) := by decide +kernel
theorem dX5_others_53 : decode cX5_others 53 = .ok (.iaload, 1) := by decide +kernel
theorem dX5_others_54 : decode cX5_others 54 = .ok (.if_icmp .eq 7, 3) := by decide +kernel
theorem dX5_others_57 : decode cX5_others 57 = .ok (.iconst 1, 1) := by decide +kernel
theorem dX5_others_58 : decode cX5_others 58 = .ok (.goto 4, 3) := by decide +kernel
theorem dX5_others_61 : decode cX5_others 61 = .ok (.iconst 0, 1) := by decide +kernel
theorem dX5_others_62 : decode cX5_others 62 = .ok (.iadd, 1) := by decide +kernel
theorem dX5_others_63 : decode cX5_others 63 = .ok (.istore_n 3, 1) := by decide +kernel
theorem dX5_others_64 : decode cX5_others 64 = .ok (.iinc 4 1, 3) := by decide +kernel
theorem dX5_others_67 : decode cX5_others 67 = .ok (.goto (-62), 3) := by decide +kernel
theorem dX5_others_70 : decode cX5_others 70 = .ok (.iload_n 3, 1) := by decide +kernel
theorem dX5_others_71 : decode cX5_others 71 = .ok (.ireturn, 1) := by decide +kernel
set_option maxRecDepth 20000 in
theorem ggX5_isOpen_X5_others : GoodIn wsX5_isOpen wsX5_others := goodIn_ca (goodIn_r _ [6, 7, 8, 9, 10, 11, 12, 5, 13, 14, 15, 16, 17, 18, 19, 20, 21, 22, 23, 24, 25, 26, 27, 28, 29, 30, 31, 32, 33, 34, 35, 36, 37, 38, 39, 40, 41, 42, 43] (by decide +kernel) (by decide +kernel)) (goodIn_sub (fun _ h => List.mem_cons_of_mem _ (List.mem_append_right _ h)) (by decide +kernel))
set_option maxRecDepth 20000 in
theorem gX5_isOpen_X5_others : GoodIn wsX5_isOpen (wsV RX5 147 RX5 yX5_others wsX5_others) := goodIn_app (goodIn_of _ (by decide +kernel)) ggX5_isOpen_X5_others
theorem dX5_isOpen_0 : decode cX5_isOpen 0 = .ok (.aload_n 0, 1) := by decide +kernel
theorem dX5_isOpen_1 : decode cX5_isOpen 1 = .ok (.getfield 68, 3) := by decide +kernel
theorem dX5_isOpen_4 : decode cX5_isOpen 4 = .ok (.bipush 114, 2) := by decide +kernel
theorem dX5_isOpen_6 : decode cX5_isOpen 6 = .ok (.if_icmp .ne 16, 3) := by decide +kernel
theorem dX5_isOpen_9 : decode cX5_isOpen 9 = .ok (.aload_n 0, 1) := by decide +kernel
theorem dX5_isOpen_10 : decode cX5_isOpen 10 = .ok (.iload_n 1, 1) := by decide +kernel
theorem dX5_isOpen_11 : decode cX5_isOpen 11 = .ok (.iconst 0, 1) := by decide +kernel
theorem dX5_isOpen_12 : decode cX5_isOpen 12 = .ok (.invokevirtual 147, 3) := by decide +kernel
theorem dX5_isOpen_15 : decode cX5_isOpen 15 = .ok (.ifCond .ne 7, 3) := by decide +kernel
theorem dX5_isOpen_18 : decode cX5_isOpen 18 = .ok (.iconst 1, 1) := by decide +kernel
theorem dX5_isOpen_19 : decode cX5_isOpen 19 = .ok (.goto 4, 3) := by decide +kernel
theorem dX5_isOpen_22 : decode cX5_isOpen 22 = .ok (.iconst 0, 1) := by decide +kernel
theorem dX5_isOpen_23 : decode cX5_isOpen 23 = .ok (.ireturn, 1) := by decide +kernel
set_option maxRecDepth 20000 in
theorem ggX5_seal_X5_in : GoodIn wsX5_seal wsX5_in := goodIn_r _ [9] (by decide +kernel) (by decide +kernel)
set_option maxRecDepth 20000 in
theorem gX5_seal_X5_in : GoodIn wsX5_seal (va_wsS RX5 100 yX5_in wsX5_in) := goodIn_app (goodIn_of _ (by decide +kernel)) ggX5_seal_X5_in
set_option maxRecDepth 20000 in
theorem ggX5_seal_X5_seals : GoodIn wsX5_seal wsX5_seals := goodIn_ca (goodIn_r _ [13, 14, 15, 16, 17, 18, 19, 20, 21, 22, 23, 24, 25, 26, 27, 28, 29, 30, 31, 32, 33, 34, 35, 36, 37, 38, 39, 40, 41, 42, 43, 44, 45] (by decide +kernel) (by decide +kernel)) (goodIn_sub (fun _ h => List.mem_cons_of_mem _ (List.mem_append_right _ h)) (by decide +kernel))
set_option maxRecDepth 20000 in
theorem gX5_seal_X5_seals : GoodIn wsX5_seal (wsV RX5 151 RX5 yX5_seals wsX5_seals) := goodIn_app (goodIn_of _ (by decide +kernel)) ggX5_seal_X5_seals
theorem dX5_seal_0 : decode cX5_seal 0 = .ok (.aload_n 0, 1) := by decide +kernel
theorem dX5_seal_1 : decode cX5_seal 1 = .ok (.iload_n 1, 1) := by decide +kernel
theorem dX5_seal_2 : decode cX5_seal 2 = .ok (.iconst 1, 1) := by decide +kernel
theorem dX5_seal_3 : decode cX5_seal 3 = .ok (.bipush 7, 2) := by decide +kernel
theorem dX5_seal_5 : decode cX5_seal 5 = .ok (.invokestatic 100, 3) := by decide +kernel
theorem dX5_seal_8 : decode cX5_seal 8 = .ok (.ifCond .eq 12, 3) := by decide +kernel
theorem dX5_seal_11 : decode cX5_seal 11 = .ok (.iload_n 2, 1) := by decide +kernel
theorem dX5_seal_12 : decode cX5_seal 12 = .ok (.iconst 1, 1) := by decide +kernel
theorem dX5_seal_13 : decode cX5_seal 13 = .ok (.iconst 5, 1) := by decide +kernel
theorem dX5_seal_14 : decode cX5_seal 14 = .ok (.invokestatic 100, 3) := by decide +kernel
theorem dX5_seal_17 : decode cX5_seal 17 = .ok (.ifCond .ne 7, 3) := by decide +kernel
theorem dX5_seal_20 : decode cX5_seal 20 = .ok (.iconst 1, 1) := by decide +kernel
theorem dX5_seal_21 : decode cX5_seal 21 = .ok (.goto 26, 3) := by decide +kernel
theorem dX5_seal_24 : decode cX5_seal 24 = .ok (.aload_n 0, 1) := by decide +kernel
theorem dX5_seal_25 : decode cX5_seal 25 = .ok (.getfield 68, 3) := by decide +kernel
theorem dX5_seal_28 : decode cX5_seal 28 = .ok (.bipush 114, 2) := by decide +kernel
theorem dX5_seal_30 : decode cX5_seal 30 = .ok (.if_icmp .ne 12, 3) := by decide +kernel
theorem dX5_seal_33 : decode cX5_seal 33 = .ok (.aload_n 0, 1) := by decide +kernel
theorem dX5_seal_34 : decode cX5_seal 34 = .ok (.getfield 79, 3) := by decide +kernel
theorem dX5_seal_37 : decode cX5_seal 37 = .ok (.bipush 8, 2) := by decide +kernel
theorem dX5_seal_39 : decode cX5_seal 39 = .ok (.if_icmp .ne 7, 3) := by decide +kernel
theorem dX5_seal_42 : decode cX5_seal 42 = .ok (.iconst 2, 1) := by decide +kernel
theorem dX5_seal_43 : decode cX5_seal 43 = .ok (.goto 4, 3) := by decide +kernel
theorem dX5_seal_46 : decode cX5_seal 46 = .ok (.iconst 0, 1) := by decide +kernel
theorem dX5_seal_47 : decode cX5_seal 47 = .ok (.putfield 72, 3) := by decide +kernel
theorem dX5_seal_50 : decode cX5_seal 50 = .ok (.aload_n 0, 1) := by decide +kernel
theorem dX5_seal_51 : decode cX5_seal 51 = .ok (.getfield 72, 3) := by decide +kernel
theorem dX5_seal_54 : decode cX5_seal 54 = .ok (.ifCond .le 5, 3) := by decide +kernel
theorem dX5_seal_57 : decode cX5_seal 57 = .ok (.iconst 0, 1) := by decide +kernel
theorem dX5_seal_58 : decode cX5_seal 58 = .ok (.ireturn, 1) := by decide +kernel
theorem dX5_seal_59 : decode cX5_seal 59 = .ok (.aload_n 0, 1) := by decide +kernel
theorem dX5_seal_60 : decode cX5_seal 60 = .ok (.getfield 59, 3) := by decide +kernel
theorem dX5_seal_63 : decode cX5_seal 63 = .ok (.aload_n 0, 1) := by decide +kernel
theorem dX5_seal_64 : decode cX5_seal 64 = .ok (.getfield 79, 3) := by decide +kernel
theorem dX5_seal_67 : decode cX5_seal 67 = .ok (.iload_n 1, 1) := by decide +kernel
theorem dX5_seal_68 : decode cX5_seal 68 = .ok (.iastore, 1) := by decide +kernel
theorem dX5_seal_69 : decode cX5_seal 69 = .ok (.aload_n 0, 1) := by decide +kernel
theorem dX5_seal_70 : decode cX5_seal 70 = .ok (.getfield 62, 3) := by decide +kernel
theorem dX5_seal_73 : decode cX5_seal 73 = .ok (.aload_n 0, 1) := by decide +kernel
theorem dX5_seal_74 : decode cX5_seal 74 = .ok (.getfield 79, 3) := by decide +kernel
theorem dX5_seal_77 : decode cX5_seal 77 = .ok (.iload_n 2, 1) := by decide +kernel
theorem dX5_seal_78 : decode cX5_seal 78 = .ok (.iastore, 1) := by decide +kernel
theorem dX5_seal_79 : decode cX5_seal 79 = .ok (.aload_n 0, 1) := by decide +kernel
theorem dX5_seal_80 : decode cX5_seal 80 = .ok (.aload_n 0, 1) := by decide +kernel
theorem dX5_seal_81 : decode cX5_seal 81 = .ok (.getfield 79, 3) := by decide +kernel
theorem dX5_seal_84 : decode cX5_seal 84 = .ok (.iconst 0, 1) := by decide +kernel
theorem dX5_seal_85 : decode cX5_seal 85 = .ok (.invokevirtual 151, 3) := by decide +kernel
theorem dX5_seal_88 : decode cX5_seal 88 = .ok (.aload_n 0, 1) := by decide +kernel
theorem dX5_seal_89 : decode cX5_seal 89 = .ok (.dup, 1) := by decide +kernel
theorem dX5_seal_90 : decode cX5_seal 90 = .ok (.getfield 79, 3) := by decide +kernel
theorem dX5_seal_93 : decode cX5_seal 93 = .ok (.iconst 1, 1) := by decide +kernel
theorem dX5_seal_94 : decode cX5_seal 94 = .ok (.iadd, 1) := by decide +kernel
theorem dX5_seal_95 : decode cX5_seal 95 = .ok (.putfield 79, 3) := by decide +kernel
theorem dX5_seal_98 : decode cX5_seal 98 = .ok (.aload_n 0, 1) := by decide +kernel
theorem dX5_seal_99 : decode cX5_seal 99 = .ok (.getfield 79, 3) := by decide +kernel
theorem dX5_seal_102 : decode cX5_seal 102 = .ok (.iconst 1, 1) := by decide +kernel
theorem dX5_seal_103 : decode cX5_seal 103 = .ok (.isub, 1) := by decide +kernel
theorem dX5_seal_104 : decode cX5_seal 104 = .ok (.ireturn, 1) := by decide +kernel
set_option maxRecDepth 20000 in
theorem ggX5_sealAhead_X5_isSecret : GoodIn wsX5_sealAhead wsX5_isSecret := goodIn_r _ [6, 7, 8, 9, 5, 10, 68, 69, 70, 71, 72, 73, 74, 75, 76, 77, 78, 79, 80, 81, 82, 83, 84, 85, 86, 87, 88, 89, 90, 91, 92, 93, 94, 95, 96] (by decide +kernel) (by decide +kernel)
set_option maxRecDepth 20000 in
theorem gX5_sealAhead_X5_isSecret : GoodIn wsX5_sealAhead (wsV RX5 155 RX5 yX5_isSecret wsX5_isSecret) := goodIn_app (goodIn_of _ (by decide +kernel)) ggX5_sealAhead_X5_isSecret
set_option maxRecDepth 20000 in
theorem ggX5_sealAhead_X5_isOpen : GoodIn wsX5_sealAhead wsX5_isOpen := goodIn_ca (goodIn_r _ [14, 15, 16, 17, 18, 5, 19, 20, 21, 22, 23, 24, 25, 26, 27, 68, 69, 70, 71, 72, 73, 74, 75, 76, 77, 78, 79, 80, 81, 82, 83, 84, 85, 86, 87, 88, 89, 90, 91, 92, 93, 94, 95, 96] (by decide +kernel) (by decide +kernel)) (goodIn_sub (fun _ h => List.mem_cons_of_mem _ (List.mem_append_right _ h)) (by decide +kernel))
set_option maxRecDepth 20000 in
theorem gX5_sealAhead_X5_isOpen : GoodIn wsX5_sealAhead (wsV RX5 158 RX5 yX5_isOpen wsX5_isOpen) := goodIn_app (goodIn_of _ (by decide +kernel)) ggX5_sealAhead_X5_isOpen
set_option maxRecDepth 20000 in
theorem ggX5_sealAhead_X5_starts : GoodIn wsX5_sealAhead wsX5_starts := goodIn_ca (goodIn_r _ [31, 32, 33, 21, 34, 35, 36, 37, 38, 39, 5, 40, 41, 42, 43, 44, 45, 46, 47, 48, 49, 50, 51, 52, 53, 54, 55, 56, 57, 58, 59, 60, 61, 62, 63, 68, 69, 70, 71, 72, 73, 74, 75, 76, 77, 78, 79, 80, 81, 82, 83, 84, 85, 86, 87, 88, 89, 90, 91, 92, 93, 94, 95, 96] (by decide +kernel) (by decide +kernel)) (goodIn_sub (fun _ h => List.mem_cons_of_mem _ (List.mem_append_right _ h)) (by decide +kernel))
set_option maxRecDepth 20000 in
theorem gX5_sealAhead_X5_starts : GoodIn wsX5_sealAhead (wsV RX5 136 RX5 yX5_starts wsX5_starts) := goodIn_app (goodIn_of _ (by decide +kernel)) ggX5_sealAhead_X5_starts
set_option maxRecDepth 20000 in
theorem ggX5_sealAhead_X5_others : GoodIn wsX5_sealAhead wsX5_others := goodIn_ca (goodIn_r _ [19, 20, 21, 22, 23, 24, 25, 5, 26, 27, 68, 69, 70, 71, 72, 73, 74, 75, 76, 77, 78, 79, 80, 81, 82, 83, 84, 85, 86, 87, 88, 89, 90, 91, 92, 93, 94, 95, 96] (by decide +kernel) (by decide +kernel)) (goodIn_sub (fun _ h => List.mem_cons_of_mem _ (List.mem_append_right _ h)) (by decide +kernel))
set_option maxRecDepth 20000 in
theorem gX5_sealAhead_X5_others : GoodIn wsX5_sealAhead (wsV RX5 147 RX5 yX5_others wsX5_others) := goodIn_app (goodIn_of _ (by decide +kernel)) ggX5_sealAhead_X5_others
set_option maxRecDepth 20000 in
theorem ggX5_sealAhead_X5_seals : GoodIn wsX5_sealAhead wsX5_seals := goodIn_ca (goodIn_r _ [67, 20, 21, 22, 68, 69, 70, 71, 72, 73, 74, 75, 76, 77, 78, 79, 80, 81, 82, 83, 84, 85, 86, 87, 88, 89, 90, 91, 92, 93, 94, 95, 96] (by decide +kernel) (by decide +kernel)) (goodIn_sub (fun _ h => List.mem_cons_of_mem _ (List.mem_append_right _ h)) (by decide +kernel))
set_option maxRecDepth 20000 in
theorem gX5_sealAhead_X5_seals : GoodIn wsX5_sealAhead (wsV RX5 151 RX5 yX5_seals wsX5_seals) := goodIn_app (goodIn_of _ (by decide +kernel)) ggX5_sealAhead_X5_seals
theorem dX5_sealAhead_0 : decode cX5_sealAhead 0 = .ok (.aload_n 0, 1) := by decide +kernel
theorem dX5_sealAhead_1 : decode cX5_sealAhead 1 = .ok (.aload_n 0, 1) := by decide +kernel
theorem dX5_sealAhead_2 : decode cX5_sealAhead 2 = .ok (.iload_n 1, 1) := by decide +kernel
theorem dX5_sealAhead_3 : decode cX5_sealAhead 3 = .ok (.invokevirtual 155, 3) := by decide +kernel
theorem dX5_sealAhead_6 : decode cX5_sealAhead 6 = .ok (.ifCond .ne 7, 3) := by decide +kernel
theorem dX5_sealAhead_9 : decode cX5_sealAhead 9 = .ok (.iconst 1, 1) := by decide +kernel
theorem dX5_sealAhead_10 : decode cX5_sealAhead 10 = .ok (.goto 16, 3) := by decide +kernel
theorem dX5_sealAhead_13 : decode cX5_sealAhead 13 = .ok (.aload_n 0, 1) := by decide +kernel
theorem dX5_sealAhead_14 : decode cX5_sealAhead 14 = .ok (.iload_n 1, 1) := by decide +kernel
theorem dX5_sealAhead_15 : decode cX5_sealAhead 15 = .ok (.invokevirtual 158, 3) := by decide +kernel
theorem dX5_sealAhead_18 : decode cX5_sealAhead 18 = .ok (.ifCond .ne 7, 3) := by decide +kernel
theorem dX5_sealAhead_21 : decode cX5_sealAhead 21 = .ok (.iconst 2, 1) := by decide +kernel
theorem dX5_sealAhead_22 : decode cX5_sealAhead 22 = .ok (.goto 4, 3) := by decide +kernel
theorem dX5_sealAhead_25 : decode cX5_sealAhead 25 = .ok (.iconst 0, 1) := by decide +kernel
theorem dX5_sealAhead_26 : decode cX5_sealAhead 26 = .ok (.putfield 72, 3) := by decide +kernel
theorem dX5_sealAhead_29 : decode cX5_sealAhead 29 = .ok (.aload_n 0, 1) := by decide +kernel
theorem dX5_sealAhead_30 : decode cX5_sealAhead 30 = .ok (.getfield 72, 3) := by decide +kernel
theorem dX5_sealAhead_33 : decode cX5_sealAhead 33 = .ok (.ifCond .le 5, 3) := by decide +kernel
theorem dX5_sealAhead_36 : decode cX5_sealAhead 36 = .ok (.iconst 0, 1) := by decide +kernel
theorem dX5_sealAhead_37 : decode cX5_sealAhead 37 = .ok (.ireturn, 1) := by decide +kernel
theorem dX5_sealAhead_38 : decode cX5_sealAhead 38 = .ok (.aload_n 0, 1) := by decide +kernel
theorem dX5_sealAhead_39 : decode cX5_sealAhead 39 = .ok (.invokevirtual 136, 3) := by decide +kernel
theorem dX5_sealAhead_42 : decode cX5_sealAhead 42 = .ok (.istore_n 2, 1) := by decide +kernel
theorem dX5_sealAhead_43 : decode cX5_sealAhead 43 = .ok (.aload_n 0, 1) := by decide +kernel
theorem dX5_sealAhead_44 : decode cX5_sealAhead 44 = .ok (.iload_n 1, 1) := by decide +kernel
theorem dX5_sealAhead_45 : decode cX5_sealAhead 45 = .ok (.iconst 1, 1) := by decide +kernel
theorem dX5_sealAhead_46 : decode cX5_sealAhead 46 = .ok (.invokevirtual 147, 3) := by decide +kernel
theorem dX5_sealAhead_49 : decode cX5_sealAhead 49 = .ok (.istore_n 3, 1) := by decide +kernel
theorem dX5_sealAhead_50 : decode cX5_sealAhead 50 = .ok (.aload_n 0, 1) := by decide +kernel
theorem dX5_sealAhead_51 : decode cX5_sealAhead 51 = .ok (.iload_n 1, 1) := by decide +kernel
theorem dX5_sealAhead_52 : decode cX5_sealAhead 52 = .ok (.iconst 1, 1) := by decide +kernel
theorem dX5_sealAhead_53 : decode cX5_sealAhead 53 = .ok (.invokevirtual 151, 3) := by decide +kernel
theorem dX5_sealAhead_56 : decode cX5_sealAhead 56 = .ok (.iload_n 3, 1) := by decide +kernel
theorem dX5_sealAhead_57 : decode cX5_sealAhead 57 = .ok (.ireturn, 1) := by decide +kernel
set_option maxRecDepth 20000 in
theorem ggX5_opens_X5_isSecret : GoodIn wsX5_opens wsX5_isSecret := goodIn_r _ [5, 6, 7, 8, 4, 9, 32, 33, 34, 35, 36, 37, 38, 39, 40, 41, 42, 43, 44, 45, 46, 47, 48, 49, 50, 51, 52, 53, 54, 55, 56, 57, 58, 59, 60] (by decide +kernel) (by decide +kernel)
set_option maxRecDepth 20000 in
theorem gX5_opens_X5_isSecret : GoodIn wsX5_opens (wsV RX5 155 RX5 yX5_isSecret wsX5_isSecret) := goodIn_app (goodIn_of _ (by decide +kernel)) ggX5_opens_X5_isSecret
set_option maxRecDepth 20000 in
theorem ggX5_opens_X5_checked : GoodIn wsX5_opens wsX5_checked := goodIn_r _ [13, 14, 32, 33, 34, 35, 36, 37, 38, 39, 40, 41, 42, 43, 44, 45, 46, 47, 48, 49, 50, 51, 52, 53, 54, 55, 56, 57, 58, 59, 60] (by decide +kernel) (by decide +kernel)
set_option maxRecDepth 20000 in
theorem gX5_opens_X5_checked : GoodIn wsX5_opens (wsV RX5 104 RX5 yX5_checked wsX5_checked) := goodIn_app (goodIn_of _ (by decide +kernel)) ggX5_opens_X5_checked
set_option maxRecDepth 20000 in
theorem ggX5_opens_X5_isOpen : GoodIn wsX5_opens wsX5_isOpen := goodIn_ca (goodIn_r _ [18, 19, 20, 21, 22, 4, 23, 24, 25, 26, 27, 28, 29, 30, 31, 32, 33, 34, 35, 36, 37, 38, 39, 40, 41, 42, 43, 44, 45, 46, 47, 48, 49, 50, 51, 52, 53, 54, 55, 56, 57, 58, 59, 60] (by decide +kernel) (by decide +kernel)) (goodIn_sub (fun _ h => List.mem_cons_of_mem _ (List.mem_append_right _ h)) (by decide +kernel))
set_option maxRecDepth 20000 in
theorem gX5_opens_X5_isOpen : GoodIn wsX5_opens (wsV RX5 158 RX5 yX5_isOpen wsX5_isOpen) := goodIn_app (goodIn_of _ (by decide +kernel)) ggX5_opens_X5_isOpen
theorem dX5_opens_0 : decode cX5_opens 0 = .ok (.aload_n 0, 1) := by decide +kernel
theorem dX5_opens_1 : decode cX5_opens 1 = .ok (.aload_n 0, 1) := by decide +kernel
theorem dX5_opens_2 : decode cX5_opens 2 = .ok (.iload_n 1, 1) := by decide +kernel
theorem dX5_opens_3 : decode cX5_opens 3 = .ok (.invokevirtual 155, 3) := by decide +kernel
theorem dX5_opens_6 : decode cX5_opens 6 = .ok (.invokevirtual 104, 3) := by decide +kernel
theorem dX5_opens_9 : decode cX5_opens 9 = .ok (.ifCond .ne 15, 3) := by decide +kernel
theorem dX5_opens_12 : decode cX5_opens 12 = .ok (.aload_n 0, 1) := by decide +kernel
theorem dX5_opens_13 : decode cX5_opens 13 = .ok (.iload_n 1, 1) := by decide +kernel
theorem dX5_opens_14 : decode cX5_opens 14 = .ok (.invokevirtual 158, 3) := by decide +kernel
theorem dX5_opens_17 : decode cX5_opens 17 = .ok (.ifCond .eq 7, 3) := by decide +kernel
theorem dX5_opens_20 : decode cX5_opens 20 = .ok (.iconst 1, 1) := by decide +kernel
theorem dX5_opens_21 : decode cX5_opens 21 = .ok (.goto 4, 3) := by decide +kernel
theorem dX5_opens_24 : decode cX5_opens 24 = .ok (.iconst 0, 1) := by decide +kernel
theorem dX5_opens_25 : decode cX5_opens 25 = .ok (.ireturn, 1) := by decide +kernel
set_option maxRecDepth 20000 in
theorem ggX5_isLost_X5_isSecret : GoodIn wsX5_isLost wsX5_isSecret := goodIn_r _ [5, 6, 7, 8, 4, 9, 63, 64, 65, 66, 67, 68, 69, 70, 71, 72, 73, 74, 75, 76, 77, 78, 79, 80, 81, 82, 83, 84, 85, 86, 87, 88, 89, 90, 91] (by decide +kernel) (by decide +kernel)
set_option maxRecDepth 20000 in
theorem gX5_isLost_X5_isSecret : GoodIn wsX5_isLost (wsV RX5 155 RX5 yX5_isSecret wsX5_isSecret) := goodIn_app (goodIn_of _ (by decide +kernel)) ggX5_isLost_X5_isSecret
set_option maxRecDepth 20000 in
theorem ggX5_isLost_X5_checked : GoodIn wsX5_isLost wsX5_checked := goodIn_r _ [13, 14, 63, 64, 65, 66, 67, 68, 69, 70, 71, 72, 73, 74, 75, 76, 77, 78, 79, 80, 81, 82, 83, 84, 85, 86, 87, 88, 89, 90, 91] (by decide +kernel) (by decide +kernel)
set_option maxRecDepth 20000 in
theorem gX5_isLost_X5_checked : GoodIn wsX5_isLost (wsV RX5 104 RX5 yX5_checked wsX5_checked) := goodIn_app (goodIn_of _ (by decide +kernel)) ggX5_isLost_X5_checked
set_option maxRecDepth 20000 in
theorem ggX5_isLost_X5_starts : GoodIn wsX5_isLost wsX5_starts := goodIn_ca (goodIn_r _ [18, 19, 20, 21, 22, 23, 24, 25, 26, 27, 4, 28, 29, 30, 31, 32, 33, 34, 35, 36, 37, 38, 39, 40, 41, 42, 43, 44, 45, 46, 47, 48, 49, 50, 51, 63, 64, 65, 66, 67, 68, 69, 70, 71, 72, 73, 74, 75, 76, 77, 78, 79, 80, 81, 82, 83, 84, 85, 86, 87, 88, 89, 90, 91] (by decide +kernel) (by decide +kernel)) (goodIn_sub (fun _ h => List.mem_cons_of_mem _ (List.mem_append_right _ h)) (by decide +kernel))
set_option maxRecDepth 20000 in
theorem gX5_isLost_X5_starts : GoodIn wsX5_isLost (wsV RX5 136 RX5 yX5_starts wsX5_starts) := goodIn_app (goodIn_of _ (by decide +kernel)) ggX5_isLost_X5_starts
set_option maxRecDepth 20000 in
theorem ggX5_isLost_X5_others : GoodIn wsX5_isLost wsX5_others := goodIn_ca (goodIn_r _ [55, 56, 21, 57, 58, 59, 60, 4, 61, 62, 63, 64, 65, 66, 67, 68, 69, 70, 71, 72, 73, 74, 75, 76, 77, 78, 79, 80, 81, 82, 83, 84, 85, 86, 87, 88, 89, 90, 91] (by decide +kernel) (by decide +kernel)) (goodIn_sub (fun _ h => List.mem_cons_of_mem _ (List.mem_append_right _ h)) (by decide +kernel))
set_option maxRecDepth 20000 in
theorem gX5_isLost_X5_others : GoodIn wsX5_isLost (wsV RX5 147 RX5 yX5_others wsX5_others) := goodIn_app (goodIn_of _ (by decide +kernel)) ggX5_isLost_X5_others
theorem dX5_isLost_0 : decode cX5_isLost 0 = .ok (.aload_n 0, 1) := by decide +kernel
theorem dX5_isLost_1 : decode cX5_isLost 1 = .ok (.aload_n 0, 1) := by decide +kernel
theorem dX5_isLost_2 : decode cX5_isLost 2 = .ok (.iload_n 1, 1) := by decide +kernel
theorem dX5_isLost_3 : decode cX5_isLost 3 = .ok (.invokevirtual 155, 3) := by decide +kernel
theorem dX5_isLost_6 : decode cX5_isLost 6 = .ok (.invokevirtual 104, 3) := by decide +kernel
theorem dX5_isLost_9 : decode cX5_isLost 9 = .ok (.ifCond .le 5, 3) := by decide +kernel
theorem dX5_isLost_12 : decode cX5_isLost 12 = .ok (.iconst 0, 1) := by decide +kernel
theorem dX5_isLost_13 : decode cX5_isLost 13 = .ok (.ireturn, 1) := by decide +kernel
theorem dX5_isLost_14 : decode cX5_isLost 14 = .ok (.aload_n 0, 1) := by decide +kernel
theorem dX5_isLost_15 : decode cX5_isLost 15 = .ok (.invokevirtual 136, 3) := by decide +kernel
theorem dX5_isLost_18 : decode cX5_isLost 18 = .ok (.istore_n 2, 1) := by decide +kernel
theorem dX5_isLost_19 : decode cX5_isLost 19 = .ok (.iload_n 2, 1) := by decide +kernel
theorem dX5_isLost_20 : decode cX5_isLost 20 = .ok (.ifCond .eq 12, 3) := by decide +kernel
theorem dX5_isLost_23 : decode cX5_isLost 23 = .ok (.aload_n 0, 1) := by decide +kernel
theorem dX5_isLost_24 : decode cX5_isLost 24 = .ok (.iload_n 1, 1) := by decide +kernel
theorem dX5_isLost_25 : decode cX5_isLost 25 = .ok (.iconst 1, 1) := by decide +kernel
theorem dX5_isLost_26 : decode cX5_isLost 26 = .ok (.invokevirtual 147, 3) := by decide +kernel
theorem dX5_isLost_29 : decode cX5_isLost 29 = .ok (.ifCond .le 7, 3) := by decide +kernel
theorem dX5_isLost_32 : decode cX5_isLost 32 = .ok (.iconst 1, 1) := by decide +kernel
theorem dX5_isLost_33 : decode cX5_isLost 33 = .ok (.goto 4, 3) := by decide +kernel
theorem dX5_isLost_36 : decode cX5_isLost 36 = .ok (.iconst 0, 1) := by decide +kernel
theorem dX5_isLost_37 : decode cX5_isLost 37 = .ok (.ireturn, 1) := by decide +kernel
set_option maxRecDepth 20000 in
theorem ggX5_nextOpen_X5_isOpen : GoodIn wsX5_nextOpen wsX5_isOpen := goodIn_ca (goodIn_r _ [6, 7, 8, 9, 10, 5, 11, 12, 13, 14, 15, 16, 17, 18, 19, 25, 26, 27, 28, 29, 30, 31, 32, 33, 34, 35, 36, 37, 38, 39, 40, 41, 42, 43, 44, 45, 46, 47, 48, 49, 50, 51, 52, 53] (by decide +kernel) (by decide +kernel)) (goodIn_sub (fun _ h => List.mem_cons_of_mem _ (List.mem_append_right _ h)) (by decide +kernel))
set_option maxRecDepth 20000 in
theorem gX5_nextOpen_X5_isOpen : GoodIn wsX5_nextOpen (wsV RX5 158 RX5 yX5_isOpen wsX5_isOpen) := goodIn_app (goodIn_of _ (by decide +kernel)) ggX5_nextOpen_X5_isOpen
set_option maxRecDepth 20000 in
theorem ggX5_nextOpen_X5_checked : GoodIn wsX5_nextOpen wsX5_checked := goodIn_r _ [23, 24, 25, 26, 27, 28, 29, 30, 31, 32, 33, 34, 35, 36, 37, 38, 39, 40, 41, 42, 43, 44, 45, 46, 47, 48, 49, 50, 51, 52, 53] (by decide +kernel) (by decide +kernel)
set_option maxRecDepth 20000 in
theorem gX5_nextOpen_X5_checked : GoodIn wsX5_nextOpen (wsV RX5 104 RX5 yX5_checked wsX5_checked) := goodIn_app (goodIn_of _ (by decide +kernel)) ggX5_nextOpen_X5_checked
theorem dX5_nextOpen_0 : decode cX5_nextOpen 0 = .ok (.iconst (-1), 1) := by decide +kernel
theorem dX5_nextOpen_1 : decode cX5_nextOpen 1 = .ok (.istore_n 2, 1) := by decide +kernel
theorem dX5_nextOpen_2 : decode cX5_nextOpen 2 = .ok (.aload_n 0, 1) := by decide +kernel
theorem dX5_nextOpen_3 : decode cX5_nextOpen 3 = .ok (.getfield 79, 3) := by decide +kernel
theorem dX5_nextOpen_6 : decode cX5_nextOpen 6 = .ok (.iconst 1, 1) := by decide +kernel
theorem dX5_nextOpen_7 : decode cX5_nextOpen 7 = .ok (.isub, 1) := by decide +kernel
theorem dX5_nextOpen_8 : decode cX5_nextOpen 8 = .ok (.istore_n 3, 1) := by decide +kernel
theorem dX5_nextOpen_9 : decode cX5_nextOpen 9 = .ok (.iload_n 3, 1) := by decide +kernel
theorem dX5_nextOpen_10 : decode cX5_nextOpen 10 = .ok (.ifCond .lt 24, 3) := by decide +kernel
theorem dX5_nextOpen_13 : decode cX5_nextOpen 13 = .ok (.iload_n 3, 1) := by decide +kernel
theorem dX5_nextOpen_14 : decode cX5_nextOpen 14 = .ok (.iload_n 1, 1) := by decide +kernel
theorem dX5_nextOpen_15 : decode cX5_nextOpen 15 = .ok (.if_icmp .lt 19, 3) := by decide +kernel
theorem dX5_nextOpen_18 : decode cX5_nextOpen 18 = .ok (.aload_n 0, 1) := by decide +kernel
theorem dX5_nextOpen_19 : decode cX5_nextOpen 19 = .ok (.iload_n 3, 1) := by decide +kernel
theorem dX5_nextOpen_20 : decode cX5_nextOpen 20 = .ok (.invokevirtual 158, 3) := by decide +kernel
theorem dX5_nextOpen_23 : decode cX5_nextOpen 23 = .ok (.ifCond .eq 5, 3) := by decide +kernel
theorem dX5_nextOpen_26 : decode cX5_nextOpen 26 = .ok (.iload_n 3, 1) := by decide +kernel
theorem dX5_nextOpen_27 : decode cX5_nextOpen 27 = .ok (.istore_n 2, 1) := by decide +kernel
theorem dX5_nextOpen_28 : decode cX5_nextOpen 28 = .ok (.iinc 3 (-1), 3) := by decide +kernel
theorem dX5_nextOpen_31 : decode cX5_nextOpen 31 = .ok (.goto (-22), 3) := by decide +kernel
theorem dX5_nextOpen_34 : decode cX5_nextOpen 34 = .ok (.aload_n 0, 1) := by decide +kernel
theorem dX5_nextOpen_35 : decode cX5_nextOpen 35 = .ok (.iload_n 2, 1) := by decide +kernel
theorem dX5_nextOpen_36 : decode cX5_nextOpen 36 = .ok (.ifCond .lt 7, 3) := by decide +kernel
theorem dX5_nextOpen_39 : decode cX5_nextOpen 39 = .ok (.iconst 1, 1) := by decide +kernel
theorem dX5_nextOpen_40 : decode cX5_nextOpen 40 = .ok (.goto 4, 3) := by decide +kernel
theorem dX5_nextOpen_43 : decode cX5_nextOpen 43 = .ok (.iconst 0, 1) := by decide +kernel
theorem dX5_nextOpen_44 : decode cX5_nextOpen 44 = .ok (.invokevirtual 104, 3) := by decide +kernel
theorem dX5_nextOpen_47 : decode cX5_nextOpen 47 = .ok (.ifCond .le 7, 3) := by decide +kernel
theorem dX5_nextOpen_50 : decode cX5_nextOpen 50 = .ok (.iconst 0, 1) := by decide +kernel
theorem dX5_nextOpen_51 : decode cX5_nextOpen 51 = .ok (.goto 4, 3) := by decide +kernel
theorem dX5_nextOpen_54 : decode cX5_nextOpen 54 = .ok (.iload_n 2, 1) := by decide +kernel
theorem dX5_nextOpen_55 : decode cX5_nextOpen 55 = .ok (.ireturn, 1) := by decide +kernel
theorem dX5_agreeing_0 : decode cX5_agreeing 0 = .ok (.iconst 0, 1) := by decide +kernel
theorem dX5_agreeing_1 : decode cX5_agreeing 1 = .ok (.istore_n 1, 1) := by decide +kernel
theorem dX5_agreeing_2 : decode cX5_agreeing 2 = .ok (.iconst 0, 1) := by decide +kernel
theorem dX5_agreeing_3 : decode cX5_agreeing 3 = .ok (.istore_n 2, 1) := by decide +kernel
theorem dX5_agreeing_4 : decode cX5_agreeing 4 = .ok (.iload_n 2, 1) := by decide +kernel
theorem dX5_agreeing_5 : decode cX5_agreeing 5 = .ok (.iconst 5, 1) := by decide +kernel
theorem dX5_agreeing_6 : decode cX5_agreeing 6 = .ok (.if_icmp .ge 26, 3) := by decide +kernel
theorem dX5_agreeing_9 : decode cX5_agreeing 9 = .ok (.iload_n 1, 1) := by decide +kernel
theorem dX5_agreeing_10 : decode cX5_agreeing 10 = .ok (.aload_n 0, 1) := by decide +kernel
theorem dX5_agreeing_11 : decode cX5_agreeing 11 = .ok (.getfield 16, 3) := by decide +kernel
theorem dX5_agreeing_14 : decode cX5_agreeing 14 = .ok (.iload_n 2, 1) := by decide +kernel
theorem dX5_agreeing_15 : decode cX5_agreeing 15 = .ok (.baload, 1) := by decide +kernel
theorem dX5_agreeing_16 : decode cX5_agreeing 16 = .ok (.ifCond .eq 7, 3) := by decide +kernel
theorem dX5_agreeing_19 : decode cX5_agreeing 19 = .ok (.iconst 1, 1) := by decide +kernel
theorem dX5_agreeing_20 : decode cX5_agreeing 20 = .ok (.goto 4, 3) := by decide +kernel
theorem dX5_agreeing_23 : decode cX5_agreeing 23 = .ok (.iconst 0, 1) := by decide +kernel
theorem dX5_agreeing_24 : decode cX5_agreeing 24 = .ok (.iadd, 1) := by decide +kernel
theorem dX5_agreeing_25 : decode cX5_agreeing 25 = .ok (.istore_n 1, 1) := by decide +kernel
theorem dX5_agreeing_26 : decode cX5_agreeing 26 = .ok (.iinc 2 1, 3) := by decide +kernel
theorem dX5_agreeing_29 : decode cX5_agreeing 29 = .ok (.goto (-25), 3) := by decide +kernel
theorem dX5_agreeing_32 : decode cX5_agreeing 32 = .ok (.iload_n 1, 1) := by decide +kernel
theorem dX5_agreeing_33 : decode cX5_agreeing 33 = .ok (.ireturn, 1) := by decide +kernel
set_option maxRecDepth 20000 in
theorem ggX5_setAgreed_X5_in : GoodIn wsX5_setAgreed wsX5_in := goodIn_r _ [5] (by decide +kernel) (by decide +kernel)
set_option maxRecDepth 20000 in
theorem gX5_setAgreed_X5_in : GoodIn wsX5_setAgreed (va_wsS RX5 100 yX5_in wsX5_in) := goodIn_app (goodIn_of _ (by decide +kernel)) ggX5_setAgreed_X5_in
set_option maxRecDepth 20000 in
theorem ggX5_setAgreed_X5_checked : GoodIn wsX5_setAgreed wsX5_checked := goodIn_r _ [9, 10, 15, 16, 17, 18, 19, 20, 21, 22, 23, 24, 25, 26, 27, 28, 29, 30, 31, 32, 33, 34, 35, 36, 37, 38, 39, 40, 41, 42, 43] (by decide +kernel) (by decide +kernel)
set_option maxRecDepth 20000 in
theorem gX5_setAgreed_X5_checked : GoodIn wsX5_setAgreed (wsV RX5 104 RX5 yX5_checked wsX5_checked) := goodIn_app (goodIn_of _ (by decide +kernel)) ggX5_setAgreed_X5_checked
set_option maxRecDepth 20000 in
theorem ggX5_setAgreed_X5_agreeing : GoodIn wsX5_setAgreed wsX5_agreeing := goodIn_ca (goodIn_r _ [14, 1, 15, 16, 17, 18, 19, 20, 21, 22, 23, 24, 25, 26, 27, 28, 29, 30, 31, 32, 33, 34, 35, 36, 37, 38, 39, 40, 41, 42, 43] (by decide +kernel) (by decide +kernel)) (goodIn_sub (fun _ h => List.mem_cons_of_mem _ (List.mem_append_right _ h)) (by decide +kernel))
set_option maxRecDepth 20000 in
theorem gX5_setAgreed_X5_agreeing : GoodIn wsX5_setAgreed (wsV RX5 161 RX5 yX5_agreeing wsX5_agreeing) := goodIn_app (goodIn_of _ (by decide +kernel)) ggX5_setAgreed_X5_agreeing
theorem dX5_setAgreed_0 : decode cX5_setAgreed 0 = .ok (.aload_n 0, 1) := by decide +kernel
theorem dX5_setAgreed_1 : decode cX5_setAgreed 1 = .ok (.iload_n 1, 1) := by decide +kernel
theorem dX5_setAgreed_2 : decode cX5_setAgreed 2 = .ok (.iconst 0, 1) := by decide +kernel
theorem dX5_setAgreed_3 : decode cX5_setAgreed 3 = .ok (.iconst 4, 1) := by decide +kernel
theorem dX5_setAgreed_4 : decode cX5_setAgreed 4 = .ok (.invokestatic 100, 3) := by decide +kernel
theorem dX5_setAgreed_7 : decode cX5_setAgreed 7 = .ok (.invokevirtual 104, 3) := by decide +kernel
theorem dX5_setAgreed_10 : decode cX5_setAgreed 10 = .ok (.ifCond .le 5, 3) := by decide +kernel
theorem dX5_setAgreed_13 : decode cX5_setAgreed 13 = .ok (.iconst 0, 1) := by decide +kernel
theorem dX5_setAgreed_14 : decode cX5_setAgreed 14 = .ok (.ireturn, 1) := by decide +kernel
theorem dX5_setAgreed_15 : decode cX5_setAgreed 15 = .ok (.aload_n 0, 1) := by decide +kernel
theorem dX5_setAgreed_16 : decode cX5_setAgreed 16 = .ok (.getfield 16, 3) := by decide +kernel
theorem dX5_setAgreed_19 : decode cX5_setAgreed 19 = .ok (.iload_n 1, 1) := by decide +kernel
theorem dX5_setAgreed_20 : decode cX5_setAgreed 20 = .ok (.iload_n 2, 1) := by decide +kernel
theorem dX5_setAgreed_21 : decode cX5_setAgreed 21 = .ok (.bastore, 1) := by decide +kernel
theorem dX5_setAgreed_22 : decode cX5_setAgreed 22 = .ok (.aload_n 0, 1) := by decide +kernel
theorem dX5_setAgreed_23 : decode cX5_setAgreed 23 = .ok (.invokevirtual 161, 3) := by decide +kernel
theorem dX5_setAgreed_26 : decode cX5_setAgreed 26 = .ok (.ireturn, 1) := by decide +kernel
set_option maxRecDepth 20000 in
theorem ggX5_recover_X5_isSecret : GoodIn wsX5_recover wsX5_isSecret := goodIn_r _ [9, 10, 11, 12, 8, 13, 38, 39, 40, 41, 42, 43, 44, 45, 46, 47, 48, 49, 50, 51, 52, 53, 54, 55, 56, 57, 58, 59, 60, 61, 62, 63, 64, 65, 66] (by decide +kernel) (by decide +kernel)
set_option maxRecDepth 20000 in
theorem gX5_recover_X5_isSecret : GoodIn wsX5_recover (wsV RX5 155 RX5 yX5_isSecret wsX5_isSecret) := goodIn_app (goodIn_of _ (by decide +kernel)) ggX5_recover_X5_isSecret
set_option maxRecDepth 20000 in
theorem ggX5_recover_X5_isOpen : GoodIn wsX5_recover wsX5_isOpen := goodIn_ca (goodIn_r _ [17, 1, 18, 19, 20, 8, 21, 22, 23, 24, 25, 26, 27, 28, 29, 38, 39, 40, 41, 42, 43, 44, 45, 46, 47, 48, 49, 50, 51, 52, 53, 54, 55, 56, 57, 58, 59, 60, 61, 62, 63, 64, 65, 66] (by decide +kernel) (by decide +kernel)) (goodIn_sub (fun _ h => List.mem_cons_of_mem _ (List.mem_append_right _ h)) (by decide +kernel))
set_option maxRecDepth 20000 in
theorem gX5_recover_X5_isOpen : GoodIn wsX5_recover (wsV RX5 158 RX5 yX5_isOpen wsX5_isOpen) := goodIn_app (goodIn_of _ (by decide +kernel)) ggX5_recover_X5_isOpen
set_option maxRecDepth 20000 in
theorem ggX5_recover_X5_agreeing : GoodIn wsX5_recover wsX5_agreeing := goodIn_ca (goodIn_r _ [33, 4, 38, 39, 40, 41, 42, 43, 44, 45, 46, 47, 48, 49, 50, 51, 52, 53, 54, 55, 56, 57, 58, 59, 60, 61, 62, 63, 64, 65, 66] (by decide +kernel) (by decide +kernel)) (goodIn_sub (fun _ h => List.mem_cons_of_mem _ (List.mem_append_right _ h)) (by decide +kernel))
set_option maxRecDepth 20000 in
theorem gX5_recover_X5_agreeing : GoodIn wsX5_recover (wsV RX5 161 RX5 yX5_agreeing wsX5_agreeing) := goodIn_app (goodIn_of _ (by decide +kernel)) ggX5_recover_X5_agreeing
set_option maxRecDepth 20000 in
theorem ggX5_recover_X5_seals : GoodIn wsX5_recover wsX5_seals := goodIn_ca (goodIn_r _ [37, 22, 23, 24, 38, 39, 40, 41, 42, 43, 44, 45, 46, 47, 48, 49, 50, 51, 52, 53, 54, 55, 56, 57, 58, 59, 60, 61, 62, 63, 64, 65, 66] (by decide +kernel) (by decide +kernel)) (goodIn_sub (fun _ h => List.mem_cons_of_mem _ (List.mem_append_right _ h)) (by decide +kernel))
set_option maxRecDepth 20000 in
theorem gX5_recover_X5_seals : GoodIn wsX5_recover (wsV RX5 151 RX5 yX5_seals wsX5_seals) := goodIn_app (goodIn_of _ (by decide +kernel)) ggX5_recover_X5_seals
theorem dX5_recover_0 : decode cX5_recover 0 = .ok (.aload_n 0, 1) := by decide +kernel
theorem dX5_recover_1 : decode cX5_recover 1 = .ok (.aload_n 0, 1) := by decide +kernel
theorem dX5_recover_2 : decode cX5_recover 2 = .ok (.iload_n 1, 1) := by decide +kernel
theorem dX5_recover_3 : decode cX5_recover 3 = .ok (.invokevirtual 155, 3) := by decide +kernel
theorem dX5_recover_6 : decode cX5_recover 6 = .ok (.ifCond .ne 7, 3) := by decide +kernel
theorem dX5_recover_9 : decode cX5_recover 9 = .ok (.iconst 1, 1) := by decide +kernel
theorem dX5_recover_10 : decode cX5_recover 10 = .ok (.goto 42, 3) := by decide +kernel
theorem dX5_recover_13 : decode cX5_recover 13 = .ok (.aload_n 0, 1) := by decide +kernel
theorem dX5_recover_14 : decode cX5_recover 14 = .ok (.getfield 68, 3) := by decide +kernel
theorem dX5_recover_17 : decode cX5_recover 17 = .ok (.bipush 114, 2) := by decide +kernel
theorem dX5_recover_19 : decode cX5_recover 19 = .ok (.if_icmp .ne 11, 3) := by decide +kernel
theorem dX5_recover_22 : decode cX5_recover 22 = .ok (.aload_n 0, 1) := by decide +kernel
theorem dX5_recover_23 : decode cX5_recover 23 = .ok (.iload_n 1, 1) := by decide +kernel
theorem dX5_recover_24 : decode cX5_recover 24 = .ok (.invokevirtual 158, 3) := by decide +kernel
theorem dX5_recover_27 : decode cX5_recover 27 = .ok (.ifCond .eq 7, 3) := by decide +kernel
theorem dX5_recover_30 : decode cX5_recover 30 = .ok (.iconst 2, 1) := by decide +kernel
theorem dX5_recover_31 : decode cX5_recover 31 = .ok (.goto 21, 3) := by decide +kernel
theorem dX5_recover_34 : decode cX5_recover 34 = .ok (.aload_n 0, 1) := by decide +kernel
theorem dX5_recover_35 : decode cX5_recover 35 = .ok (.invokevirtual 161, 3) := by decide +kernel
theorem dX5_recover_38 : decode cX5_recover 38 = .ok (.aload_n 0, 1) := by decide +kernel
theorem dX5_recover_39 : decode cX5_recover 39 = .ok (.getfield 62, 3) := by decide +kernel
theorem dX5_recover_42 : decode cX5_recover 42 = .ok (.iload_n 1, 1) := by decide +kernel
theorem dX5_recover_43 : decode cX5_recover 43 = .ok (.iaload, 1) := by decide +kernel
theorem dX5_recover_44 : decode cX5_recover 44 = .ok (.if_icmp .ge 7, 3) := by decide +kernel
theorem dX5_recover_47 : decode cX5_recover 47 = .ok (.iconst 3, 1) := by decide +kernel
theorem dX5_recover_48 : decode cX5_recover 48 = .ok (.goto 4, 3) := by decide +kernel
theorem dX5_recover_51 : decode cX5_recover 51 = .ok (.iconst 0, 1) := by decide +kernel
theorem dX5_recover_52 : decode cX5_recover 52 = .ok (.putfield 72, 3) := by decide +kernel
theorem dX5_recover_55 : decode cX5_recover 55 = .ok (.aload_n 0, 1) := by decide +kernel
theorem dX5_recover_56 : decode cX5_recover 56 = .ok (.getfield 72, 3) := by decide +kernel
theorem dX5_recover_59 : decode cX5_recover 59 = .ok (.ifCond .le 5, 3) := by decide +kernel
theorem dX5_recover_62 : decode cX5_recover 62 = .ok (.iconst 0, 1) := by decide +kernel
theorem dX5_recover_63 : decode cX5_recover 63 = .ok (.ireturn, 1) := by decide +kernel
theorem dX5_recover_64 : decode cX5_recover 64 = .ok (.aload_n 0, 1) := by decide +kernel
theorem dX5_recover_65 : decode cX5_recover 65 = .ok (.invokevirtual 161, 3) := by decide +kernel
theorem dX5_recover_68 : decode cX5_recover 68 = .ok (.istore_n 2, 1) := by decide +kernel
theorem dX5_recover_69 : decode cX5_recover 69 = .ok (.aload_n 0, 1) := by decide +kernel
theorem dX5_recover_70 : decode cX5_recover 70 = .ok (.iload_n 1, 1) := by decide +kernel
theorem dX5_recover_71 : decode cX5_recover 71 = .ok (.iconst 0, 1) := by decide +kernel
theorem dX5_recover_72 : decode cX5_recover 72 = .ok (.invokevirtual 151, 3) := by decide +kernel
theorem dX5_recover_75 : decode cX5_recover 75 = .ok (.iconst 0, 1) := by decide +kernel
theorem dX5_recover_76 : decode cX5_recover 76 = .ok (.istore_n 3, 1) := by decide +kernel
theorem dX5_recover_77 : decode cX5_recover 77 = .ok (.iload_n 3, 1) := by decide +kernel
theorem dX5_recover_78 : decode cX5_recover 78 = .ok (.iconst 5, 1) := by decide +kernel
theorem dX5_recover_79 : decode cX5_recover 79 = .ok (.if_icmp .ge 16, 3) := by decide +kernel
theorem dX5_recover_82 : decode cX5_recover 82 = .ok (.aload_n 0, 1) := by decide +kernel
theorem dX5_recover_83 : decode cX5_recover 83 = .ok (.getfield 16, 3) := by decide +kernel
theorem dX5_recover_86 : decode cX5_recover 86 = .ok (.iload_n 3, 1) := by decide +kernel
theorem dX5_recover_87 : decode cX5_recover 87 = .ok (.iconst 0, 1) := by decide +kernel
theorem dX5_recover_88 : decode cX5_recover 88 = .ok (.bastore, 1) := by decide +kernel
theorem dX5_recover_89 : decode cX5_recover 89 = .ok (.iinc 3 1, 3) := by decide +kernel
theorem dX5_recover_92 : decode cX5_recover 92 = .ok (.goto (-15), 3) := by decide +kernel
theorem dX5_recover_95 : decode cX5_recover 95 = .ok (.iload_n 2, 1) := by decide +kernel
theorem dX5_recover_96 : decode cX5_recover 96 = .ok (.ireturn, 1) := by decide +kernel
set_option maxRecDepth 20000 in
theorem ggX5_openShare_X5_isOpen : GoodIn wsX5_openShare wsX5_isOpen := goodIn_ca (goodIn_r _ [6, 7, 8, 9, 10, 5, 11, 12, 13, 14, 15, 16, 17, 18, 19, 25, 26, 27, 28, 29, 30, 31, 32, 33, 34, 35, 36, 37, 38, 39, 40, 41, 42, 43, 44, 45, 46, 47, 48, 49, 50, 51, 52, 53] (by decide +kernel) (by decide +kernel)) (goodIn_sub (fun _ h => List.mem_cons_of_mem _ (List.mem_append_right _ h)) (by decide +kernel))
set_option maxRecDepth 20000 in
theorem gX5_openShare_X5_isOpen : GoodIn wsX5_openShare (wsV RX5 158 RX5 yX5_isOpen wsX5_isOpen) := goodIn_app (goodIn_of _ (by decide +kernel)) ggX5_openShare_X5_isOpen
set_option maxRecDepth 20000 in
theorem ggX5_openShare_X5_checked : GoodIn wsX5_openShare wsX5_checked := goodIn_r _ [23, 24, 25, 26, 27, 28, 29, 30, 31, 32, 33, 34, 35, 36, 37, 38, 39, 40, 41, 42, 43, 44, 45, 46, 47, 48, 49, 50, 51, 52, 53] (by decide +kernel) (by decide +kernel)
set_option maxRecDepth 20000 in
theorem gX5_openShare_X5_checked : GoodIn wsX5_openShare (wsV RX5 104 RX5 yX5_checked wsX5_checked) := goodIn_app (goodIn_of _ (by decide +kernel)) ggX5_openShare_X5_checked
theorem dX5_openShare_0 : decode cX5_openShare 0 = .ok (.iconst 0, 1) := by decide +kernel
theorem dX5_openShare_1 : decode cX5_openShare 1 = .ok (.istore_n 1, 1) := by decide +kernel
theorem dX5_openShare_2 : decode cX5_openShare 2 = .ok (.iconst 0, 1) := by decide +kernel
theorem dX5_openShare_3 : decode cX5_openShare 3 = .ok (.istore_n 2, 1) := by decide +kernel
theorem dX5_openShare_4 : decode cX5_openShare 4 = .ok (.iload_n 2, 1) := by decide +kernel
theorem dX5_openShare_5 : decode cX5_openShare 5 = .ok (.aload_n 0, 1) := by decide +kernel
theorem dX5_openShare_6 : decode cX5_openShare 6 = .ok (.getfield 79, 3) := by decide +kernel
theorem dX5_openShare_9 : decode cX5_openShare 9 = .ok (.if_icmp .ge 25, 3) := by decide +kernel
theorem dX5_openShare_12 : decode cX5_openShare 12 = .ok (.iload_n 1, 1) := by decide +kernel
theorem dX5_openShare_13 : decode cX5_openShare 13 = .ok (.aload_n 0, 1) := by decide +kernel
theorem dX5_openShare_14 : decode cX5_openShare 14 = .ok (.iload_n 2, 1) := by decide +kernel
theorem dX5_openShare_15 : decode cX5_openShare 15 = .ok (.invokevirtual 158, 3) := by decide +kernel
theorem dX5_openShare_18 : decode cX5_openShare 18 = .ok (.ifCond .eq 7, 3) := by decide +kernel
theorem dX5_openShare_21 : decode cX5_openShare 21 = .ok (.iconst 1, 1) := by decide +kernel
theorem dX5_openShare_22 : decode cX5_openShare 22 = .ok (.goto 4, 3) := by decide +kernel
theorem dX5_openShare_25 : decode cX5_openShare 25 = .ok (.iconst 0, 1) := by decide +kernel
theorem dX5_openShare_26 : decode cX5_openShare 26 = .ok (.iadd, 1) := by decide +kernel
theorem dX5_openShare_27 : decode cX5_openShare 27 = .ok (.istore_n 1, 1) := by decide +kernel
theorem dX5_openShare_28 : decode cX5_openShare 28 = .ok (.iinc 2 1, 3) := by decide +kernel
theorem dX5_openShare_31 : decode cX5_openShare 31 = .ok (.goto (-27), 3) := by decide +kernel
theorem dX5_openShare_34 : decode cX5_openShare 34 = .ok (.aload_n 0, 1) := by decide +kernel
theorem dX5_openShare_35 : decode cX5_openShare 35 = .ok (.aload_n 0, 1) := by decide +kernel
theorem dX5_openShare_36 : decode cX5_openShare 36 = .ok (.getfield 79, 3) := by decide +kernel
theorem dX5_openShare_39 : decode cX5_openShare 39 = .ok (.ifCond .le 7, 3) := by decide +kernel
theorem dX5_openShare_42 : decode cX5_openShare 42 = .ok (.iconst 1, 1) := by decide +kernel
theorem dX5_openShare_43 : decode cX5_openShare 43 = .ok (.goto 4, 3) := by decide +kernel
theorem dX5_openShare_46 : decode cX5_openShare 46 = .ok (.iconst 0, 1) := by decide +kernel
theorem dX5_openShare_47 : decode cX5_openShare 47 = .ok (.invokevirtual 104, 3) := by decide +kernel
theorem dX5_openShare_50 : decode cX5_openShare 50 = .ok (.ifCond .le 7, 3) := by decide +kernel
theorem dX5_openShare_53 : decode cX5_openShare 53 = .ok (.fconst 0, 1) := by decide +kernel
theorem dX5_openShare_54 : decode cX5_openShare 54 = .ok (.goto 11, 3) := by decide +kernel
theorem dX5_openShare_57 : decode cX5_openShare 57 = .ok (.iload_n 1, 1) := by decide +kernel
theorem dX5_openShare_58 : decode cX5_openShare 58 = .ok (.i2f, 1) := by decide +kernel
theorem dX5_openShare_59 : decode cX5_openShare 59 = .ok (.aload_n 0, 1) := by decide +kernel
theorem dX5_openShare_60 : decode cX5_openShare 60 = .ok (.getfield 79, 3) := by decide +kernel
theorem dX5_openShare_63 : decode cX5_openShare 63 = .ok (.i2f, 1) := by decide +kernel
theorem dX5_openShare_64 : decode cX5_openShare 64 = .ok (.fdiv, 1) := by decide +kernel
theorem dX5_openShare_65 : decode cX5_openShare 65 = .ok (.freturn, 1) := by decide +kernel
set_option maxRecDepth 20000 in
theorem ggX5_meanVersion_X5_checked : GoodIn wsX5_meanVersion wsX5_checked := goodIn_r _ [7, 8, 9, 10, 11, 12, 13, 14, 15, 16, 17, 18, 19, 20, 21, 22, 23, 24, 25, 26, 27, 28, 29, 30, 31, 32, 33, 34, 35, 36, 37] (by decide +kernel) (by decide +kernel)
set_option maxRecDepth 20000 in
theorem gX5_meanVersion_X5_checked : GoodIn wsX5_meanVersion (wsV RX5 104 RX5 yX5_checked wsX5_checked) := goodIn_app (goodIn_of _ (by decide +kernel)) ggX5_meanVersion_X5_checked
theorem dX5_meanVersion_0 : decode cX5_meanVersion 0 = .ok (.iconst 0, 1) := by decide +kernel
theorem dX5_meanVersion_1 : decode cX5_meanVersion 1 = .ok (.istore_n 1, 1) := by decide +kernel
theorem dX5_meanVersion_2 : decode cX5_meanVersion 2 = .ok (.iconst 0, 1) := by decide +kernel
theorem dX5_meanVersion_3 : decode cX5_meanVersion 3 = .ok (.istore_n 2, 1) := by decide +kernel
theorem dX5_meanVersion_4 : decode cX5_meanVersion 4 = .ok (.iload_n 2, 1) := by decide +kernel
theorem dX5_meanVersion_5 : decode cX5_meanVersion 5 = .ok (.aload_n 0, 1) := by decide +kernel
theorem dX5_meanVersion_6 : decode cX5_meanVersion 6 = .ok (.getfield 85, 3) := by decide +kernel
theorem dX5_meanVersion_9 : decode cX5_meanVersion 9 = .ok (.if_icmp .ge 18, 3) := by decide +kernel
theorem dX5_meanVersion_12 : decode cX5_meanVersion 12 = .ok (.iload_n 1, 1) := by decide +kernel
theorem dX5_meanVersion_13 : decode cX5_meanVersion 13 = .ok (.aload_n 0, 1) := by decide +kernel
theorem dX5_meanVersion_14 : decode cX5_meanVersion 14 = .ok (.getfield 41, 3) := by decide +kernel
theorem dX5_meanVersion_17 : decode cX5_meanVersion 17 = .ok (.iload_n 2, 1) := by decide +kernel
theorem dX5_meanVersion_18 : decode cX5_meanVersion 18 = .ok (.iaload, 1) := by decide +kernel
theorem dX5_meanVersion_19 : decode cX5_meanVersion 19 = .ok (.iadd, 1) := by decide +kernel
theorem dX5_meanVersion_20 : decode cX5_meanVersion 20 = .ok (.istore_n 1, 1) := by decide +kernel
theorem dX5_meanVersion_21 : decode cX5_meanVersion 21 = .ok (.iinc 2 1, 3) := by decide +kernel
theorem dX5_meanVersion_24 : decode cX5_meanVersion 24 = .ok (.goto (-20), 3) := by decide +kernel
theorem dX5_meanVersion_27 : decode cX5_meanVersion 27 = .ok (.aload_n 0, 1) := by decide +kernel
theorem dX5_meanVersion_28 : decode cX5_meanVersion 28 = .ok (.aload_n 0, 1) := by decide +kernel
theorem dX5_meanVersion_29 : decode cX5_meanVersion 29 = .ok (.getfield 85, 3) := by decide +kernel
theorem dX5_meanVersion_32 : decode cX5_meanVersion 32 = .ok (.ifCond .le 7, 3) := by decide +kernel
theorem dX5_meanVersion_35 : decode cX5_meanVersion 35 = .ok (.iconst 1, 1) := by decide +kernel
theorem dX5_meanVersion_36 : decode cX5_meanVersion 36 = .ok (.goto 4, 3) := by decide +kernel
theorem dX5_meanVersion_39 : decode cX5_meanVersion 39 = .ok (.iconst 0, 1) := by decide +kernel
theorem dX5_meanVersion_40 : decode cX5_meanVersion 40 = .ok (.invokevirtual 104, 3) := by decide +kernel
theorem dX5_meanVersion_43 : decode cX5_meanVersion 43 = .ok (.ifCond .le 7, 3) := by decide +kernel
theorem dX5_meanVersion_46 : decode cX5_meanVersion 46 = .ok (.dconst 0, 1) := by decide +kernel
theorem dX5_meanVersion_47 : decode cX5_meanVersion 47 = .ok (.goto 11, 3) := by decide +kernel
theorem dX5_meanVersion_50 : decode cX5_meanVersion 50 = .ok (.iload_n 1, 1) := by decide +kernel
theorem dX5_meanVersion_51 : decode cX5_meanVersion 51 = .ok (.i2d, 1) := by decide +kernel
theorem dX5_meanVersion_52 : decode cX5_meanVersion 52 = .ok (.aload_n 0, 1) := by decide +kernel
theorem dX5_meanVersion_53 : decode cX5_meanVersion 53 = .ok (.getfield 85, 3) := by decide +kernel
theorem dX5_meanVersion_56 : decode cX5_meanVersion 56 = .ok (.i2d, 1) := by decide +kernel
theorem dX5_meanVersion_57 : decode cX5_meanVersion 57 = .ok (.ddiv, 1) := by decide +kernel
theorem dX5_meanVersion_58 : decode cX5_meanVersion 58 = .ok (.dreturn, 1) := by decide +kernel
theorem dJx00060_init_a7421_0 : decode cJx00060_init_a7421 0 = .ok (.aload_n 0, 1) := by decide +kernel
theorem dJx00060_init_a7421_1 : decode cJx00060_init_a7421 1 = .ok (.aload_n 1, 1) := by decide +kernel
theorem dJx00060_init_a7421_2 : decode cJx00060_init_a7421 2 = .ok (.invokespecial 7, 3) := by decide +kernel
theorem dJx00060_init_a7421_5 : decode cJx00060_init_a7421 5 = .ok (.return_, 1) := by decide +kernel
theorem dJ9_max_7cf53_0 : decode cJ9_max_7cf53 0 = .ok (.iload_n 0, 1) := by decide +kernel
theorem dJ9_max_7cf53_1 : decode cJ9_max_7cf53 1 = .ok (.iload_n 1, 1) := by decide +kernel
theorem dJ9_max_7cf53_2 : decode cJ9_max_7cf53 2 = .ok (.if_icmp .lt 7, 3) := by decide +kernel
theorem dJ9_max_7cf53_5 : decode cJ9_max_7cf53 5 = .ok (.iload_n 0, 1) := by decide +kernel
theorem dJ9_max_7cf53_6 : decode cJ9_max_7cf53 6 = .ok (.goto 4, 3) := by decide +kernel
theorem dJ9_max_7cf53_9 : decode cJ9_max_7cf53 9 = .ok (.iload_n 1, 1) := by decide +kernel
theorem dJ9_max_7cf53_10 : decode cJ9_max_7cf53 10 = .ok (.ireturn, 1) := by decide +kernel
theorem dJ9_min_7cf53_0 : decode cJ9_min_7cf53 0 = .ok (.iload_n 0, 1) := by decide +kernel
theorem dJ9_min_7cf53_1 : decode cJ9_min_7cf53 1 = .ok (.iload_n 1, 1) := by decide +kernel
theorem dJ9_min_7cf53_2 : decode cJ9_min_7cf53 2 = .ok (.if_icmp .gt 7, 3) := by decide +kernel
theorem dJ9_min_7cf53_5 : decode cJ9_min_7cf53 5 = .ok (.iload_n 0, 1) := by decide +kernel
theorem dJ9_min_7cf53_6 : decode cJ9_min_7cf53 6 = .ok (.goto 4, 3) := by decide +kernel
theorem dJ9_min_7cf53_9 : decode cJ9_min_7cf53 9 = .ok (.iload_n 1, 1) := by decide +kernel
theorem dJ9_min_7cf53_10 : decode cJ9_min_7cf53 10 = .ok (.ireturn, 1) := by decide +kernel
theorem dJxa1e45_init_da8c8_0 : decode cJxa1e45_init_da8c8 0 = .ok (.aload_n 0, 1) := by decide +kernel
theorem dJxa1e45_init_da8c8_1 : decode cJxa1e45_init_da8c8 1 = .ok (.invokespecial 1, 3) := by decide +kernel
theorem dJxa1e45_init_da8c8_4 : decode cJxa1e45_init_da8c8 4 = .ok (.return_, 1) := by decide +kernel
set_option maxRecDepth 20000 in
theorem ggJxc12de_init_da8c8_Jxa1e45_init_da8c8 : GoodIn wsJxc12de_init_da8c8 wsJxa1e45_init_da8c8 := goodIn_r _ [5, 6, 7, 8] (by decide +kernel) (by decide +kernel)
set_option maxRecDepth 20000 in
theorem gJxc12de_init_da8c8_Jxa1e45_init_da8c8 : GoodIn wsJxc12de_init_da8c8 (wsJxa1e45_init_da8c8) := ggJxc12de_init_da8c8_Jxa1e45_init_da8c8
theorem dJxc12de_init_da8c8_0 : decode cJxc12de_init_da8c8 0 = .ok (.aload_n 0, 1) := by decide +kernel
theorem dJxc12de_init_da8c8_1 : decode cJxc12de_init_da8c8 1 = .ok (.invokespecial 1, 3) := by decide +kernel
theorem dJxc12de_init_da8c8_4 : decode cJxc12de_init_da8c8 4 = .ok (.aload_n 0, 1) := by decide +kernel
theorem dJxc12de_init_da8c8_5 : decode cJxc12de_init_da8c8 5 = .ok (.iconst 0, 1) := by decide +kernel
theorem dJxc12de_init_da8c8_6 : decode cJxc12de_init_da8c8 6 = .ok (.putfield 7, 3) := by decide +kernel
theorem dJxc12de_init_da8c8_9 : decode cJxc12de_init_da8c8 9 = .ok (.return_, 1) := by decide +kernel
set_option maxRecDepth 20000 in
theorem ggJx4a65c_init_da8c8_Jxc12de_init_da8c8 : GoodIn wsJx4a65c_init_da8c8 wsJxc12de_init_da8c8 := goodIn_r _ [6, 7, 8, 9, 10, 11, 12, 13, 14, 15, 16, 17] (by decide +kernel) (by decide +kernel)
set_option maxRecDepth 20000 in
theorem gJx4a65c_init_da8c8_Jxc12de_init_da8c8 : GoodIn wsJx4a65c_init_da8c8 (wsJxc12de_init_da8c8) := ggJx4a65c_init_da8c8_Jxc12de_init_da8c8
theorem dJx4a65c_init_da8c8_0 : decode cJx4a65c_init_da8c8 0 = .ok (.aload_n 0, 1) := by decide +kernel
theorem dJx4a65c_init_da8c8_1 : decode cJx4a65c_init_da8c8 1 = .ok (.invokespecial 1, 3) := by decide +kernel
theorem dJx4a65c_init_da8c8_4 : decode cJx4a65c_init_da8c8 4 = .ok (.aload_n 0, 1) := by decide +kernel
theorem dJx4a65c_init_da8c8_5 : decode cJx4a65c_init_da8c8 5 = .ok (.getstatic 39, 3) := by decide +kernel
theorem dJx4a65c_init_da8c8_8 : decode cJx4a65c_init_da8c8 8 = .ok (.putfield 9, 3) := by decide +kernel
theorem dJx4a65c_init_da8c8_11 : decode cJx4a65c_init_da8c8 11 = .ok (.return_, 1) := by decide +kernel
set_option maxRecDepth 20000 in
theorem ggJx4a65c_grow_92f84_J8_newLength_cabcc : GoodIn wsJx4a65c_grow_92f84 wsJ8_newLength_cabcc := goodIn_r _ [11, 12, 4, 5, 6, 13, 14, 15, 10, 16] (by decide +kernel) (by decide +kernel)
set_option maxRecDepth 20000 in
theorem gJx4a65c_grow_92f84_J8_newLength_cabcc : GoodIn wsJx4a65c_grow_92f84 (va_wsS RJx4a65c 73 yJ8_newLength_cabcc wsJ8_newLength_cabcc) := goodIn_app (goodIn_of _ (by decide +kernel)) ggJx4a65c_grow_92f84_J8_newLength_cabcc
set_option maxRecDepth 20000 in
theorem ggJx4a65c_grow_92f84_J7_copyOf_1904c : GoodIn wsJx4a65c_grow_92f84 wsJ7_copyOf_1904c := goodIn_r _ [20, 21, 22, 23, 24, 25, 26, 19, 27, 28, 29, 30, 31, 5, 32, 33, 34, 35, 36] (by decide +kernel) (by decide +kernel)
set_option maxRecDepth 20000 in
theorem gJx4a65c_grow_92f84_J7_copyOf_1904c : GoodIn wsJx4a65c_grow_92f84 (va_wsS RJx4a65c 66 yJ7_copyOf_1904c wsJ7_copyOf_1904c) := goodIn_app (goodIn_of _ (by decide +kernel)) ggJx4a65c_grow_92f84_J7_copyOf_1904c
theorem dJx4a65c_grow_92f84_0 : decode cJx4a65c_grow_92f84 0 = .ok (.aload_n 0, 1) := by decide +kernel
theorem dJx4a65c_grow_92f84_1 : decode cJx4a65c_grow_92f84 1 = .ok (.getfield 9, 3) := by decide +kernel
theorem dJx4a65c_grow_92f84_4 : decode cJx4a65c_grow_92f84 4 = .ok (.arraylength, 1) := by decide +kernel
theorem dJx4a65c_grow_92f84_5 : decode cJx4a65c_grow_92f84 5 = .ok (.istore_n 2, 1) := by decide +kernel
theorem dJx4a65c_grow_92f84_6 : decode cJx4a65c_grow_92f84 6 = .ok (.iload_n 2, 1) := by decide +kernel
theorem dJx4a65c_grow_92f84_7 : decode cJx4a65c_grow_92f84 7 = .ok (.ifCond .gt 13, 3) := by decide +kernel
theorem dJx4a65c_grow_92f84_10 : decode cJx4a65c_grow_92f84 10 = .ok (.aload_n 0, 1) := by decide +kernel
theorem dJx4a65c_grow_92f84_11 : decode cJx4a65c_grow_92f84 11 = .ok (.getfield 9, 3) := by decide +kernel
theorem dJx4a65c_grow_92f84_14 : decode cJx4a65c_grow_92f84 14 = .ok (.getstatic 39, 3) := by decide +kernel
theorem dJx4a65c_grow_92f84_17 : decode cJx4a65c_grow_92f84 17 = .ok (.if_acmp .eq 28, 3) := by decide +kernel
theorem dJx4a65c_grow_92f84_20 : decode cJx4a65c_grow_92f84 20 = .ok (.iload_n 2, 1) := by decide +kernel
theorem dJx4a65c_grow_92f84_21 : decode cJx4a65c_grow_92f84 21 = .ok (.iload_n 1, 1) := by decide +kernel
theorem dJx4a65c_grow_92f84_22 : decode cJx4a65c_grow_92f84 22 = .ok (.iload_n 2, 1) := by decide +kernel
theorem dJx4a65c_grow_92f84_23 : decode cJx4a65c_grow_92f84 23 = .ok (.isub, 1) := by decide +kernel
theorem dJx4a65c_grow_92f84_24 : decode cJx4a65c_grow_92f84 24 = .ok (.iload_n 2, 1) := by decide +kernel
theorem dJx4a65c_grow_92f84_25 : decode cJx4a65c_grow_92f84 25 = .ok (.iconst 1, 1) := by decide +kernel
theorem dJx4a65c_grow_92f84_26 : decode cJx4a65c_grow_92f84 26 = .ok (.ishr, 1) := by decide +kernel
theorem dJx4a65c_grow_92f84_27 : decode cJx4a65c_grow_92f84 27 = .ok (.invokestatic 73, 3) := by decide +kernel
theorem dJx4a65c_grow_92f84_30 : decode cJx4a65c_grow_92f84 30 = .ok (.istore_n 3, 1) := by decide +kernel
theorem dJx4a65c_grow_92f84_31 : decode cJx4a65c_grow_92f84 31 = .ok (.aload_n 0, 1) := by decide +kernel
theorem dJx4a65c_grow_92f84_32 : decode cJx4a65c_grow_92f84 32 = .ok (.aload_n 0, 1) := by decide +kernel
theorem dJx4a65c_grow_92f84_33 : decode cJx4a65c_grow_92f84 33 = .ok (.getfield 9, 3) := by decide +kernel
theorem dJx4a65c_grow_92f84_36 : decode cJx4a65c_grow_92f84 36 = .ok (.iload_n 3, 1) := by decide +kernel
theorem dJx4a65c_grow_92f84_37 : decode cJx4a65c_grow_92f84 37 = .ok (.invokestatic 66, 3) := by decide +kernel
theorem dJx4a65c_grow_92f84_40 : decode cJx4a65c_grow_92f84 40 = .ok (.dup_x1, 1) := by decide +kernel
theorem dJx4a65c_grow_92f84_41 : decode cJx4a65c_grow_92f84 41 = .ok (.putfield 9, 3) := by decide +kernel
theorem dJx4a65c_grow_92f84_44 : decode cJx4a65c_grow_92f84 44 = .ok (.areturn, 1) := by decide +kernel
theorem dJx4a65c_grow_92f84_45 : decode cJx4a65c_grow_92f84 45 = .ok (.aload_n 0, 1) := by decide +kernel
theorem dJx4a65c_grow_92f84_46 : decode cJx4a65c_grow_92f84 46 = .ok (.bipush 10, 2) := by decide +kernel
theorem dJx4a65c_grow_92f84_48 : decode cJx4a65c_grow_92f84 48 = .ok (.iload_n 1, 1) := by decide +kernel
theorem dJx4a65c_grow_92f84_49 : decode cJx4a65c_grow_92f84 49 = .ok (.invokestatic 79, 3) := by decide +kernel
theorem dJx4a65c_grow_92f84_52 : decode cJx4a65c_grow_92f84 52 = .ok (.anewarray 7, 3) := by decide +kernel
theorem dJx4a65c_grow_92f84_55 : decode cJx4a65c_grow_92f84 55 = .ok (.dup_x1, 1) := by decide +kernel
theorem dJx4a65c_grow_92f84_56 : decode cJx4a65c_grow_92f84 56 = .ok (.putfield 9, 3) := by decide +kernel
theorem dJx4a65c_grow_92f84_59 : decode cJx4a65c_grow_92f84 59 = .ok (.areturn, 1) := by decide +kernel
set_option maxRecDepth 20000 in
theorem ggJx4a65c_grow_d5877_Jx4a65c_grow_92f84 : GoodIn wsJx4a65c_grow_d5877 wsJx4a65c_grow_92f84 := goodIn_r _ [6, 7, 8, 9, 10, 11, 12, 13, 14, 15, 16, 17, 18, 19, 20, 21, 22, 23, 24, 25, 26, 27, 28, 29, 30, 31, 32, 33, 34, 35, 36, 37, 38, 39, 40, 41, 42, 43, 44, 45] (by decide +kernel) (by decide +kernel)
set_option maxRecDepth 20000 in
theorem gJx4a65c_grow_d5877_Jx4a65c_grow_92f84 : GoodIn wsJx4a65c_grow_d5877 (wsV RJx4a65c 69 RJx4a65c yJx4a65c_grow_92f84 wsJx4a65c_grow_92f84) := goodIn_app (goodIn_of _ (by decide +kernel)) ggJx4a65c_grow_d5877_Jx4a65c_grow_92f84
theorem dJx4a65c_grow_d5877_0 : decode cJx4a65c_grow_d5877 0 = .ok (.aload_n 0, 1) := by decide +kernel
theorem dJx4a65c_grow_d5877_1 : decode cJx4a65c_grow_d5877 1 = .ok (.aload_n 0, 1) := by decide +kernel
theorem dJx4a65c_grow_d5877_2 : decode cJx4a65c_grow_d5877 2 = .ok (.getfield 48, 3) := by decide +kernel
theorem dJx4a65c_grow_d5877_5 : decode cJx4a65c_grow_d5877 5 = .ok (.iconst 1, 1) := by decide +kernel
theorem dJx4a65c_grow_d5877_6 : decode cJx4a65c_grow_d5877 6 = .ok (.iadd, 1) := by decide +kernel
theorem dJx4a65c_grow_d5877_7 : decode cJx4a65c_grow_d5877 7 = .ok (.invokevirtual 69, 3) := by decide +kernel
theorem dJx4a65c_grow_d5877_10 : decode cJx4a65c_grow_d5877 10 = .ok (.areturn, 1) := by decide +kernel
theorem dJx4a65c_size_8abf5_0 : decode cJx4a65c_size_8abf5 0 = .ok (.aload_n 0, 1) := by decide +kernel
theorem dJx4a65c_size_8abf5_1 : decode cJx4a65c_size_8abf5 1 = .ok (.getfield 48, 3) := by decide +kernel
theorem dJx4a65c_size_8abf5_4 : decode cJx4a65c_size_8abf5 4 = .ok (.ireturn, 1) := by decide +kernel
theorem dJx4a65c_isEmpty_aae02_0 : decode cJx4a65c_isEmpty_aae02 0 = .ok (.aload_n 0, 1) := by decide +kernel
theorem dJx4a65c_isEmpty_aae02_1 : decode cJx4a65c_isEmpty_aae02 1 = .ok (.getfield 48, 3) := by decide +kernel
theorem dJx4a65c_isEmpty_aae02_4 : decode cJx4a65c_isEmpty_aae02 4 = .ok (.ifCond .ne 7, 3) := by decide +kernel
theorem dJx4a65c_isEmpty_aae02_7 : decode cJx4a65c_isEmpty_aae02 7 = .ok (.iconst 1, 1) := by decide +kernel
theorem dJx4a65c_isEmpty_aae02_8 : decode cJx4a65c_isEmpty_aae02 8 = .ok (.goto 4, 3) := by decide +kernel
theorem dJx4a65c_isEmpty_aae02_11 : decode cJx4a65c_isEmpty_aae02 11 = .ok (.iconst 0, 1) := by decide +kernel
theorem dJx4a65c_isEmpty_aae02_12 : decode cJx4a65c_isEmpty_aae02 12 = .ok (.ireturn, 1) := by decide +kernel
theorem dJx4a65c_elementData_915e3_0 : decode cJx4a65c_elementData_915e3 0 = .ok (.aload_n 0, 1) := by decide +kernel
theorem dJx4a65c_elementData_915e3_1 : decode cJx4a65c_elementData_915e3 1 = .ok (.getfield 9, 3) := by decide +kernel
theorem dJx4a65c_elementData_915e3_4 : decode cJx4a65c_elementData_915e3 4 = .ok (.iload_n 1, 1) := by decide +kernel
theorem dJx4a65c_elementData_915e3_5 : decode cJx4a65c_elementData_915e3 5 = .ok (.aaload, 1) := by decide +kernel
theorem dJx4a65c_elementData_915e3_6 : decode cJx4a65c_elementData_915e3 6 = .ok (.areturn, 1) := by decide +kernel
set_option maxRecDepth 20000 in
theorem ggJx4a65c_get_915e3_J15_checkIndex_7cf53 : GoodIn wsJx4a65c_get_915e3 wsJ15_checkIndex_7cf53 := goodIn_r _ [5, 6, 7, 8, 9] (by decide +kernel) (by decide +kernel)
set_option maxRecDepth 20000 in
theorem gJx4a65c_get_915e3_J15_checkIndex_7cf53 : GoodIn wsJx4a65c_get_915e3 (va_wsS RJx4a65c 118 yJ15_checkIndex_7cf53 wsJ15_checkIndex_7cf53) := goodIn_app (goodIn_of _ (by decide +kernel)) ggJx4a65c_get_915e3_J15_checkIndex_7cf53
set_option maxRecDepth 20000 in
theorem ggJx4a65c_get_915e3_Jx4a65c_elementData_915e3 : GoodIn wsJx4a65c_get_915e3 wsJx4a65c_elementData_915e3 := goodIn_r _ [14, 15, 16, 17, 18] (by decide +kernel) (by decide +kernel)
set_option maxRecDepth 20000 in
theorem gJx4a65c_get_915e3_Jx4a65c_elementData_915e3 : GoodIn wsJx4a65c_get_915e3 (wsV RJx4a65c 123 RJx4a65c yJx4a65c_elementData_915e3 wsJx4a65c_elementData_915e3) := goodIn_app (goodIn_of _ (by decide +kernel)) ggJx4a65c_get_915e3_Jx4a65c_elementData_915e3
theorem dJx4a65c_get_915e3_0 : decode cJx4a65c_get_915e3 0 = .ok (.iload_n 1, 1) := by decide +kernel
theorem dJx4a65c_get_915e3_1 : decode cJx4a65c_get_915e3 1 = .ok (.aload_n 0, 1) := by decide +kernel
theorem dJx4a65c_get_915e3_2 : decode cJx4a65c_get_915e3 2 = .ok (.getfield 48, 3) := by decide +kernel
theorem dJx4a65c_get_915e3_5 : decode cJx4a65c_get_915e3 5 = .ok (.invokestatic 118, 3) := by decide +kernel
theorem dJx4a65c_get_915e3_8 : decode cJx4a65c_get_915e3 8 = .ok (.pop, 1) := by decide +kernel
theorem dJx4a65c_get_915e3_9 : decode cJx4a65c_get_915e3 9 = .ok (.aload_n 0, 1) := by decide +kernel
theorem dJx4a65c_get_915e3_10 : decode cJx4a65c_get_915e3 10 = .ok (.iload_n 1, 1) := by decide +kernel
theorem dJx4a65c_get_915e3_11 : decode cJx4a65c_get_915e3 11 = .ok (.invokevirtual 123, 3) := by decide +kernel
theorem dJx4a65c_get_915e3_14 : decode cJx4a65c_get_915e3 14 = .ok (.areturn, 1) := by decide +kernel
set_option maxRecDepth 20000 in
theorem ggJx4a65c_add_72be8_Jx4a65c_grow_d5877 : GoodIn wsJx4a65c_add_72be8 wsJx4a65c_grow_d5877 := goodIn_r _ [6, 1, 7, 8, 9, 5, 10, 11, 12, 13, 14, 15, 16, 17, 18, 19, 20, 21, 22, 23, 24, 25, 26, 27, 28, 29, 30, 31, 32, 33, 34, 35, 36, 37, 38, 39, 40, 41, 42, 43, 44, 45, 46, 47, 48, 49] (by decide +kernel) (by decide +kernel)
set_option maxRecDepth 20000 in
theorem gJx4a65c_add_72be8_Jx4a65c_grow_d5877 : GoodIn wsJx4a65c_add_72be8 (wsV RJx4a65c 129 RJx4a65c yJx4a65c_grow_d5877 wsJx4a65c_grow_d5877) := goodIn_app (goodIn_of _ (by decide +kernel)) ggJx4a65c_add_72be8_Jx4a65c_grow_d5877
theorem dJx4a65c_add_72be8_0 : decode cJx4a65c_add_72be8 0 = .ok (.iload_n 3, 1) := by decide +kernel
theorem dJx4a65c_add_72be8_1 : decode cJx4a65c_add_72be8 1 = .ok (.aload_n 2, 1) := by decide +kernel
theorem dJx4a65c_add_72be8_2 : decode cJx4a65c_add_72be8 2 = .ok (.arraylength, 1) := by decide +kernel
theorem dJx4a65c_add_72be8_3 : decode cJx4a65c_add_72be8 3 = .ok (.if_icmp .ne 8, 3) := by decide +kernel
theorem dJx4a65c_add_72be8_6 : decode cJx4a65c_add_72be8 6 = .ok (.aload_n 0, 1) := by decide +kernel
theorem dJx4a65c_add_72be8_7 : decode cJx4a65c_add_72be8 7 = .ok (.invokevirtual 129, 3) := by decide +kernel
theorem dJx4a65c_add_72be8_10 : decode cJx4a65c_add_72be8 10 = .ok (.astore_n 2, 1) := by decide +kernel
theorem dJx4a65c_add_72be8_11 : decode cJx4a65c_add_72be8 11 = .ok (.aload_n 2, 1) := by decide +kernel
theorem dJx4a65c_add_72be8_12 : decode cJx4a65c_add_72be8 12 = .ok (.iload_n 3, 1) := by decide +kernel
theorem dJx4a65c_add_72be8_13 : decode cJx4a65c_add_72be8 13 = .ok (.aload_n 1, 1) := by decide +kernel
theorem dJx4a65c_add_72be8_14 : decode cJx4a65c_add_72be8 14 = .ok (.aastore, 1) := by decide +kernel
theorem dJx4a65c_add_72be8_15 : decode cJx4a65c_add_72be8 15 = .ok (.aload_n 0, 1) := by decide +kernel
theorem dJx4a65c_add_72be8_16 : decode cJx4a65c_add_72be8 16 = .ok (.iload_n 3, 1) := by decide +kernel
theorem dJx4a65c_add_72be8_17 : decode cJx4a65c_add_72be8 17 = .ok (.iconst 1, 1) := by decide +kernel
theorem dJx4a65c_add_72be8_18 : decode cJx4a65c_add_72be8 18 = .ok (.iadd, 1) := by decide +kernel
theorem dJx4a65c_add_72be8_19 : decode cJx4a65c_add_72be8 19 = .ok (.putfield 48, 3) := by decide +kernel
theorem dJx4a65c_add_72be8_22 : decode cJx4a65c_add_72be8 22 = .ok (.return_, 1) := by decide +kernel
set_option maxRecDepth 20000 in
theorem ggJx4a65c_add_9ea2d_Jx4a65c_add_72be8 : GoodIn wsJx4a65c_add_9ea2d wsJx4a65c_add_72be8 := goodIn_r _ [9, 4, 10, 11, 12, 8, 13, 14, 15, 16, 17, 3, 18, 19, 20, 21, 22, 23, 24, 25, 26, 27, 28, 29, 30, 31, 32, 33, 34, 35, 36, 37, 38, 39, 40, 41, 42, 43, 44, 45, 46, 47, 48, 49, 50, 51, 52, 53, 54, 55] (by decide +kernel) (by decide +kernel)
set_option maxRecDepth 20000 in
theorem gJx4a65c_add_9ea2d_Jx4a65c_add_72be8 : GoodIn wsJx4a65c_add_9ea2d (wsV RJx4a65c 131 RJx4a65c yJx4a65c_add_72be8 wsJx4a65c_add_72be8) := goodIn_app (goodIn_of _ (by decide +kernel)) ggJx4a65c_add_9ea2d_Jx4a65c_add_72be8
theorem dJx4a65c_add_9ea2d_0 : decode cJx4a65c_add_9ea2d 0 = .ok (.aload_n 0, 1) := by decide +kernel
theorem dJx4a65c_add_9ea2d_1 : decode cJx4a65c_add_9ea2d 1 = .ok (.dup, 1) := by decide +kernel
theorem dJx4a65c_add_9ea2d_2 : decode cJx4a65c_add_9ea2d 2 = .ok (.getfield 63, 3) := by decide +kernel
theorem dJx4a65c_add_9ea2d_5 : decode cJx4a65c_add_9ea2d 5 = .ok (.iconst 1, 1) := by decide +kernel
theorem dJx4a65c_add_9ea2d_6 : decode cJx4a65c_add_9ea2d 6 = .ok (.iadd, 1) := by decide +kernel
theorem dJx4a65c_add_9ea2d_7 : decode cJx4a65c_add_9ea2d 7 = .ok (.putfield 63, 3) := by decide +kernel
theorem dJx4a65c_add_9ea2d_10 : decode cJx4a65c_add_9ea2d 10 = .ok (.aload_n 0, 1) := by decide +kernel
theorem dJx4a65c_add_9ea2d_11 : decode cJx4a65c_add_9ea2d 11 = .ok (.aload_n 1, 1) := by decide +kernel
theorem dJx4a65c_add_9ea2d_12 : decode cJx4a65c_add_9ea2d 12 = .ok (.aload_n 0, 1) := by decide +kernel
theorem dJx4a65c_add_9ea2d_13 : decode cJx4a65c_add_9ea2d 13 = .ok (.getfield 9, 3) := by decide +kernel
theorem dJx4a65c_add_9ea2d_16 : decode cJx4a65c_add_9ea2d 16 = .ok (.aload_n 0, 1) := by decide +kernel
theorem dJx4a65c_add_9ea2d_17 : decode cJx4a65c_add_9ea2d 17 = .ok (.getfield 48, 3) := by decide +kernel
theorem dJx4a65c_add_9ea2d_20 : decode cJx4a65c_add_9ea2d 20 = .ok (.invokevirtual 131, 3) := by decide +kernel
theorem dJx4a65c_add_9ea2d_23 : decode cJx4a65c_add_9ea2d 23 = .ok (.iconst 1, 1) := by decide +kernel
theorem dJx4a65c_add_9ea2d_24 : decode cJx4a65c_add_9ea2d 24 = .ok (.ireturn, 1) := by decide +kernel
theorem dJ7_fill_53178_0 : decode cJ7_fill_53178 0 = .ok (.iconst 0, 1) := by decide +kernel
theorem dJ7_fill_53178_1 : decode cJ7_fill_53178 1 = .ok (.istore_n 2, 1) := by decide +kernel
theorem dJ7_fill_53178_2 : decode cJ7_fill_53178 2 = .ok (.aload_n 0, 1) := by decide +kernel
theorem dJ7_fill_53178_3 : decode cJ7_fill_53178 3 = .ok (.arraylength, 1) := by decide +kernel
theorem dJ7_fill_53178_4 : decode cJ7_fill_53178 4 = .ok (.istore_n 3, 1) := by decide +kernel
theorem dJ7_fill_53178_5 : decode cJ7_fill_53178 5 = .ok (.iload_n 2, 1) := by decide +kernel
theorem dJ7_fill_53178_6 : decode cJ7_fill_53178 6 = .ok (.iload_n 3, 1) := by decide +kernel
theorem dJ7_fill_53178_7 : decode cJ7_fill_53178 7 = .ok (.if_icmp .ge 13, 3) := by decide +kernel
theorem dJ7_fill_53178_10 : decode cJ7_fill_53178 10 = .ok (.aload_n 0, 1) := by decide +kernel
theorem dJ7_fill_53178_11 : decode cJ7_fill_53178 11 = .ok (.iload_n 2, 1) := by decide +kernel
theorem dJ7_fill_53178_12 : decode cJ7_fill_53178 12 = .ok (.iload_n 1, 1) := by decide +kernel
theorem dJ7_fill_53178_13 : decode cJ7_fill_53178 13 = .ok (.iastore, 1) := by decide +kernel
theorem dJ7_fill_53178_14 : decode cJ7_fill_53178 14 = .ok (.iinc 2 1, 3) := by decide +kernel
theorem dJ7_fill_53178_17 : decode cJ7_fill_53178 17 = .ok (.goto (-12), 3) := by decide +kernel
theorem dJ7_fill_53178_20 : decode cJ7_fill_53178 20 = .ok (.return_, 1) := by decide +kernel
set_option maxRecDepth 20000 in
theorem ggJ7_copyOf_1904c_J7_copyOf_6403c : GoodIn wsJ7_copyOf_1904c wsJ7_copyOf_6403c := goodIn_r _ [8, 9, 10, 11, 12, 13, 14, 15, 16, 17, 18] (by decide +kernel) (by decide +kernel)
set_option maxRecDepth 20000 in
theorem gJ7_copyOf_1904c_J7_copyOf_6403c : GoodIn wsJ7_copyOf_1904c (va_wsS RJ7 300 yJ7_copyOf_6403c wsJ7_copyOf_6403c) := goodIn_app (goodIn_of _ (by decide +kernel)) ggJ7_copyOf_1904c_J7_copyOf_6403c
theorem dJ7_copyOf_1904c_0 : decode cJ7_copyOf_1904c 0 = .ok (.aload_n 0, 1) := by decide +kernel
theorem dJ7_copyOf_1904c_1 : decode cJ7_copyOf_1904c 1 = .ok (.iload_n 1, 1) := by decide +kernel
theorem dJ7_copyOf_1904c_2 : decode cJ7_copyOf_1904c 2 = .ok (.aload_n 0, 1) := by decide +kernel
theorem dJ7_copyOf_1904c_3 : decode cJ7_copyOf_1904c 3 = .ok (.invokevirtual 86, 3) := by decide +kernel
theorem dJ7_copyOf_1904c_6 : decode cJ7_copyOf_1904c 6 = .ok (.invokestatic 300, 3) := by decide +kernel
theorem dJ7_copyOf_1904c_9 : decode cJ7_copyOf_1904c 9 = .ok (.areturn, 1) := by decide +kernel
theorem dJ7_copyOf_6403c_0 : decode cJ7_copyOf_6403c 0 = .ok (.aload_n 2, 1) := by decide +kernel
theorem dJ7_copyOf_6403c_1 : decode cJ7_copyOf_6403c 1 = .ok (.ldc 110, 2) := by decide +kernel
theorem dJ7_copyOf_6403c_3 : decode cJ7_copyOf_6403c 3 = .ok (.if_acmp .ne 10, 3) := by decide +kernel
theorem dJ7_copyOf_6403c_6 : decode cJ7_copyOf_6403c 6 = .ok (.iload_n 1, 1) := by decide +kernel
theorem dJ7_copyOf_6403c_7 : decode cJ7_copyOf_6403c 7 = .ok (.anewarray 2, 3) := by decide +kernel
theorem dJ7_copyOf_6403c_10 : decode cJ7_copyOf_6403c 10 = .ok (.goto 14, 3) := by decide +kernel
theorem dJ7_copyOf_6403c_13 : decode cJ7_copyOf_6403c 13 = .ok (.aload_n 2, 1) := by decide +kernel
theorem dJ7_copyOf_6403c_14 : decode cJ7_copyOf_6403c 14 = .ok (.invokevirtual 90, 3) := by decide +kernel
theorem dJ7_copyOf_6403c_17 : decode cJ7_copyOf_6403c 17 = .ok (.iload_n 1, 1) := by decide +kernel
theorem dJ7_copyOf_6403c_18 : decode cJ7_copyOf_6403c 18 = .ok (.invokestatic 95, 3) := by decide +kernel
theorem dJ7_copyOf_6403c_21 : decode cJ7_copyOf_6403c 21 = .ok (.checkcast 110, 3) := by decide +kernel
theorem dJ7_copyOf_6403c_24 : decode cJ7_copyOf_6403c 24 = .ok (.astore_n 3, 1) := by decide +kernel
theorem dJ7_copyOf_6403c_25 : decode cJ7_copyOf_6403c 25 = .ok (.aload_n 0, 1) := by decide +kernel
theorem dJ7_copyOf_6403c_26 : decode cJ7_copyOf_6403c 26 = .ok (.iconst 0, 1) := by decide +kernel
theorem dJ7_copyOf_6403c_27 : decode cJ7_copyOf_6403c 27 = .ok (.aload_n 3, 1) := by decide +kernel
theorem dJ7_copyOf_6403c_28 : decode cJ7_copyOf_6403c 28 = .ok (.iconst 0, 1) := by decide +kernel
theorem dJ7_copyOf_6403c_29 : decode cJ7_copyOf_6403c 29 = .ok (.aload_n 0, 1) := by decide +kernel
theorem dJ7_copyOf_6403c_30 : decode cJ7_copyOf_6403c 30 = .ok (.arraylength, 1) := by decide +kernel
theorem dJ7_copyOf_6403c_31 : decode cJ7_copyOf_6403c 31 = .ok (.iload_n 1, 1) := by decide +kernel
theorem dJ7_copyOf_6403c_32 : decode cJ7_copyOf_6403c 32 = .ok (.invokestatic 304, 3) := by decide +kernel
theorem dJ7_copyOf_6403c_35 : decode cJ7_copyOf_6403c 35 = .ok (.invokestatic 150, 3) := by decide +kernel
theorem dJ7_copyOf_6403c_38 : decode cJ7_copyOf_6403c 38 = .ok (.aload_n 3, 1) := by decide +kernel
theorem dJ7_copyOf_6403c_39 : decode cJ7_copyOf_6403c 39 = .ok (.areturn, 1) := by decide +kernel
set_option maxRecDepth 20000 in
theorem ggJ15_checkIndex_7cf53_J3_checkIndex_8e157 : GoodIn wsJ15_checkIndex_7cf53 wsJ3_checkIndex_8e157 := goodIn_r _ [4] (by decide +kernel) (by decide +kernel)
set_option maxRecDepth 20000 in
theorem gJ15_checkIndex_7cf53_J3_checkIndex_8e157 : GoodIn wsJ15_checkIndex_7cf53 (va_wsS RJ15 105 yJ3_checkIndex_8e157 wsJ3_checkIndex_8e157) := goodIn_app (goodIn_of _ (by decide +kernel)) ggJ15_checkIndex_7cf53_J3_checkIndex_8e157
theorem dJ15_checkIndex_7cf53_0 : decode cJ15_checkIndex_7cf53 0 = .ok (.iload_n 0, 1) := by decide +kernel
theorem dJ15_checkIndex_7cf53_1 : decode cJ15_checkIndex_7cf53 1 = .ok (.iload_n 1, 1) := by decide +kernel
theorem dJ15_checkIndex_7cf53_2 : decode cJ15_checkIndex_7cf53 2 = .ok (.aconst_null, 1) := by decide +kernel
theorem dJ15_checkIndex_7cf53_3 : decode cJ15_checkIndex_7cf53 3 = .ok (.invokestatic 105, 3) := by decide +kernel
theorem dJ15_checkIndex_7cf53_6 : decode cJ15_checkIndex_7cf53 6 = .ok (.ireturn, 1) := by decide +kernel
set_option maxRecDepth 20000 in
theorem ggJ8_newLength_cabcc_J8_hugeLength_7cf53 : GoodIn wsJ8_newLength_cabcc wsJ8_hugeLength_7cf53 := goodIn_r _ [9, 5] (by decide +kernel) (by decide +kernel)
set_option maxRecDepth 20000 in
theorem gJ8_newLength_cabcc_J8_hugeLength_7cf53 : GoodIn wsJ8_newLength_cabcc (va_wsS RJ8 201 yJ8_hugeLength_7cf53 wsJ8_hugeLength_7cf53) := goodIn_app (goodIn_of _ (by decide +kernel)) ggJ8_newLength_cabcc_J8_hugeLength_7cf53
theorem dJ8_newLength_cabcc_0 : decode cJ8_newLength_cabcc 0 = .ok (.iload_n 0, 1) := by decide +kernel
theorem dJ8_newLength_cabcc_1 : decode cJ8_newLength_cabcc 1 = .ok (.iload_n 1, 1) := by decide +kernel
theorem dJ8_newLength_cabcc_2 : decode cJ8_newLength_cabcc 2 = .ok (.iload_n 2, 1) := by decide +kernel
theorem dJ8_newLength_cabcc_3 : decode cJ8_newLength_cabcc 3 = .ok (.invokestatic 194, 3) := by decide +kernel
theorem dJ8_newLength_cabcc_6 : decode cJ8_newLength_cabcc 6 = .ok (.iadd, 1) := by decide +kernel
theorem dJ8_newLength_cabcc_7 : decode cJ8_newLength_cabcc 7 = .ok (.istore_n 3, 1) := by decide +kernel
theorem dJ8_newLength_cabcc_8 : decode cJ8_newLength_cabcc 8 = .ok (.iconst 0, 1) := by decide +kernel
theorem dJ8_newLength_cabcc_9 : decode cJ8_newLength_cabcc 9 = .ok (.iload_n 3, 1) := by decide +kernel
theorem dJ8_newLength_cabcc_10 : decode cJ8_newLength_cabcc 10 = .ok (.if_icmp .ge 11, 3) := by decide +kernel
theorem dJ8_newLength_cabcc_13 : decode cJ8_newLength_cabcc 13 = .ok (.iload_n 3, 1) := by decide +kernel
theorem dJ8_newLength_cabcc_14 : decode cJ8_newLength_cabcc 14 = .ok (.ldc 200, 2) := by decide +kernel
theorem dJ8_newLength_cabcc_16 : decode cJ8_newLength_cabcc 16 = .ok (.if_icmp .gt 5, 3) := by decide +kernel
theorem dJ8_newLength_cabcc_19 : decode cJ8_newLength_cabcc 19 = .ok (.iload_n 3, 1) := by decide +kernel
theorem dJ8_newLength_cabcc_20 : decode cJ8_newLength_cabcc 20 = .ok (.ireturn, 1) := by decide +kernel
theorem dJ8_newLength_cabcc_21 : decode cJ8_newLength_cabcc 21 = .ok (.iload_n 0, 1) := by decide +kernel
theorem dJ8_newLength_cabcc_22 : decode cJ8_newLength_cabcc 22 = .ok (.iload_n 1, 1) := by decide +kernel
theorem dJ8_newLength_cabcc_23 : decode cJ8_newLength_cabcc 23 = .ok (.invokestatic 201, 3) := by decide +kernel
theorem dJ8_newLength_cabcc_26 : decode cJ8_newLength_cabcc 26 = .ok (.ireturn, 1) := by decide +kernel
theorem dJ8_hugeLength_7cf53_0 : decode cJ8_hugeLength_7cf53 0 = .ok (.iload_n 0, 1) := by decide +kernel
theorem dJ8_hugeLength_7cf53_1 : decode cJ8_hugeLength_7cf53 1 = .ok (.iload_n 1, 1) := by decide +kernel
theorem dJ8_hugeLength_7cf53_2 : decode cJ8_hugeLength_7cf53 2 = .ok (.iadd, 1) := by decide +kernel
theorem dJ8_hugeLength_7cf53_3 : decode cJ8_hugeLength_7cf53 3 = .ok (.istore_n 2, 1) := by decide +kernel
theorem dJ8_hugeLength_7cf53_4 : decode cJ8_hugeLength_7cf53 4 = .ok (.iload_n 2, 1) := by decide +kernel
theorem dJ8_hugeLength_7cf53_5 : decode cJ8_hugeLength_7cf53 5 = .ok (.ifCond .ge 44, 3) := by decide +kernel
theorem dJ8_hugeLength_7cf53_8 : decode cJ8_hugeLength_7cf53 8 = .ok (.new 204, 3) := by decide +kernel
theorem dJ8_hugeLength_7cf53_11 : decode cJ8_hugeLength_7cf53 11 = .ok (.dup, 1) := by decide +kernel
theorem dJ8_hugeLength_7cf53_12 : decode cJ8_hugeLength_7cf53 12 = .ok (.new 89, 3) := by decide +kernel
theorem dJ8_hugeLength_7cf53_15 : decode cJ8_hugeLength_7cf53 15 = .ok (.dup, 1) := by decide +kernel
theorem dJ8_hugeLength_7cf53_16 : decode cJ8_hugeLength_7cf53 16 = .ok (.invokespecial 91, 3) := by decide +kernel
theorem dJ8_hugeLength_7cf53_19 : decode cJ8_hugeLength_7cf53 19 = .ok (.ldc 206, 2) := by decide +kernel
theorem dJ8_hugeLength_7cf53_21 : decode cJ8_hugeLength_7cf53 21 = .ok (.invokevirtual 94, 3) := by decide +kernel
theorem dJ8_hugeLength_7cf53_24 : decode cJ8_hugeLength_7cf53 24 = .ok (.iload_n 0, 1) := by decide +kernel
theorem dJ8_hugeLength_7cf53_25 : decode cJ8_hugeLength_7cf53 25 = .ok (.invokevirtual 98, 3) := by decide +kernel
theorem dJ8_hugeLength_7cf53_28 : decode cJ8_hugeLength_7cf53 28 = .ok (.ldc 208, 2) := by decide +kernel
theorem dJ8_hugeLength_7cf53_30 : decode cJ8_hugeLength_7cf53 30 = .ok (.invokevirtual 94, 3) := by decide +kernel
theorem dJ8_hugeLength_7cf53_33 : decode cJ8_hugeLength_7cf53 33 = .ok (.iload_n 1, 1) := by decide +kernel
theorem dJ8_hugeLength_7cf53_34 : decode cJ8_hugeLength_7cf53 34 = .ok (.invokevirtual 98, 3) := by decide +kernel
theorem dJ8_hugeLength_7cf53_37 : decode cJ8_hugeLength_7cf53 37 = .ok (.ldc 210, 2) := by decide +kernel
theorem dJ8_hugeLength_7cf53_39 : decode cJ8_hugeLength_7cf53 39 = .ok (.invokevirtual 94, 3) := by decide +kernel
theorem dJ8_hugeLength_7cf53_42 : decode cJ8_hugeLength_7cf53 42 = .ok (.invokevirtual 101, 3) := by decide +kernel
theorem dJ8_hugeLength_7cf53_45 : decode cJ8_hugeLength_7cf53 45 = .ok (.invokespecial 212, 3) := by decide +kernel
theorem dJ8_hugeLength_7cf53_48 : decode cJ8_hugeLength_7cf53 48 = .ok (.athrow, 1) := by decide +kernel
theorem dJ8_hugeLength_7cf53_49 : decode cJ8_hugeLength_7cf53 49 = .ok (.iload_n 2, 1) := by decide +kernel
theorem dJ8_hugeLength_7cf53_50 : decode cJ8_hugeLength_7cf53 50 = .ok (.ldc 200, 2) := by decide +kernel
theorem dJ8_hugeLength_7cf53_52 : decode cJ8_hugeLength_7cf53 52 = .ok (.if_icmp .gt 6, 3) := by decide +kernel
theorem dJ8_hugeLength_7cf53_55 : decode cJ8_hugeLength_7cf53 55 = .ok (.ldc 200, 2) := by decide +kernel
theorem dJ8_hugeLength_7cf53_57 : decode cJ8_hugeLength_7cf53 57 = .ok (.ireturn, 1) := by decide +kernel
theorem dJ8_hugeLength_7cf53_58 : decode cJ8_hugeLength_7cf53 58 = .ok (.iload_n 2, 1) := by decide +kernel
theorem dJ8_hugeLength_7cf53_59 : decode cJ8_hugeLength_7cf53 59 = .ok (.ireturn, 1) := by decide +kernel
theorem dJ3_checkIndex_8e157_0 : decode cJ3_checkIndex_8e157 0 = .ok (.iload_n 0, 1) := by decide +kernel
theorem dJ3_checkIndex_8e157_1 : decode cJ3_checkIndex_8e157 1 = .ok (.ifCond .lt 8, 3) := by decide +kernel
theorem dJ3_checkIndex_8e157_4 : decode cJ3_checkIndex_8e157 4 = .ok (.iload_n 0, 1) := by decide +kernel
theorem dJ3_checkIndex_8e157_5 : decode cJ3_checkIndex_8e157 5 = .ok (.iload_n 1, 1) := by decide +kernel
theorem dJ3_checkIndex_8e157_6 : decode cJ3_checkIndex_8e157 6 = .ok (.if_icmp .lt 10, 3) := by decide +kernel
theorem dJ3_checkIndex_8e157_9 : decode cJ3_checkIndex_8e157 9 = .ok (.aload_n 2, 1) := by decide +kernel
theorem dJ3_checkIndex_8e157_10 : decode cJ3_checkIndex_8e157 10 = .ok (.iload_n 0, 1) := by decide +kernel
theorem dJ3_checkIndex_8e157_11 : decode cJ3_checkIndex_8e157 11 = .ok (.iload_n 1, 1) := by decide +kernel
theorem dJ3_checkIndex_8e157_12 : decode cJ3_checkIndex_8e157 12 = .ok (.invokestatic 95, 3) := by decide +kernel
theorem dJ3_checkIndex_8e157_15 : decode cJ3_checkIndex_8e157 15 = .ok (.athrow, 1) := by decide +kernel
theorem dJ3_checkIndex_8e157_16 : decode cJ3_checkIndex_8e157 16 = .ok (.iload_n 0, 1) := by decide +kernel
theorem dJ3_checkIndex_8e157_17 : decode cJ3_checkIndex_8e157 17 = .ok (.ireturn, 1) := by decide +kernel
set_option maxRecDepth 20000 in
theorem ggL_setTrusted_X4_setTrusted : GoodIn wsL_setTrusted wsX4_setTrusted := goodIn_ca (goodIn_ca (goodIn_r _ [6, 7, 8, 9, 10, 11, 5, 12, 13, 14, 15, 16, 17, 18, 19, 20] (by decide +kernel) (by decide +kernel)) (goodIn_sub (fun _ h => List.mem_cons_of_mem _ (List.mem_append_right _ h)) (by decide +kernel))) (goodIn_sub (fun _ h => List.mem_cons_of_mem _ (List.mem_append_left _ (List.mem_append_right _ h))) (by decide +kernel))
set_option maxRecDepth 20000 in
theorem gL_setTrusted_X4_setTrusted : GoodIn wsL_setTrusted (wsV RL 7 RX4 yX4_setTrusted wsX4_setTrusted) := goodIn_app (goodIn_of _ (by decide +kernel)) ggL_setTrusted_X4_setTrusted
theorem dL_setTrusted_0 : decode cL_setTrusted 0 = .ok (.aload_n 3, 1) := by decide +kernel
theorem dL_setTrusted_1 : decode cL_setTrusted 1 = .ok (.iconst 0, 1) := by decide +kernel
theorem dL_setTrusted_2 : decode cL_setTrusted 2 = .ok (.aload_n 0, 1) := by decide +kernel
theorem dL_setTrusted_3 : decode cL_setTrusted 3 = .ok (.iload_n 1, 1) := by decide +kernel
theorem dL_setTrusted_4 : decode cL_setTrusted 4 = .ok (.iload_n 2, 1) := by decide +kernel
theorem dL_setTrusted_5 : decode cL_setTrusted 5 = .ok (.invokevirtual 7, 3) := by decide +kernel
theorem dL_setTrusted_8 : decode cL_setTrusted 8 = .ok (.ifCond .eq 7, 3) := by decide +kernel
theorem dL_setTrusted_11 : decode cL_setTrusted 11 = .ok (.lconst 1, 1) := by decide +kernel
theorem dL_setTrusted_12 : decode cL_setTrusted 12 = .ok (.goto 4, 3) := by decide +kernel
theorem dL_setTrusted_15 : decode cL_setTrusted 15 = .ok (.lconst 0, 1) := by decide +kernel
theorem dL_setTrusted_16 : decode cL_setTrusted 16 = .ok (.lastore, 1) := by decide +kernel
theorem dL_setTrusted_17 : decode cL_setTrusted 17 = .ok (.goto 7, 3) := by decide +kernel
theorem dL_setTrusted_20 : decode cL_setTrusted 20 = .ok (.astore 4, 2) := by decide +kernel
theorem dL_setTrusted_22 : decode cL_setTrusted 22 = .ok (.iconst 1, 1) := by decide +kernel
theorem dL_setTrusted_23 : decode cL_setTrusted 23 = .ok (.ireturn, 1) := by decide +kernel
theorem dL_setTrusted_24 : decode cL_setTrusted 24 = .ok (.iconst 0, 1) := by decide +kernel
theorem dL_setTrusted_25 : decode cL_setTrusted 25 = .ok (.ireturn, 1) := by decide +kernel
set_option maxRecDepth 20000 in
theorem ggL_addStage_X4_addStage : GoodIn wsL_addStage wsX4_addStage := goodIn_ca (goodIn_ca (goodIn_r _ [7, 8, 9, 10, 11, 12, 13, 14, 15, 16, 17, 18, 6, 19, 20, 21, 22, 23, 24, 25, 26, 27, 28, 29, 30, 31, 32, 33, 34, 35, 36, 37, 38, 39, 40, 41, 42, 43, 44, 45, 46, 47, 48, 49, 50, 51, 52, 53, 54, 55, 56, 57, 58, 59, 60, 61, 62, 63, 64, 65, 66, 67, 68, 69, 70, 71, 72, 73, 74, 75, 76, 77, 78, 79, 80, 81, 82, 83, 84, 85, 86, 87, 88, 89, 90, 91, 92, 93, 94, 95, 96, 97, 98, 99, 100, 101, 102, 103, 104, 105, 106, 107, 108] (by decide +kernel) (by decide +kernel)) (goodIn_sub (fun _ h => List.mem_cons_of_mem _ (List.mem_append_left _ (List.mem_append_right _ h))) (by decide +kernel))) (goodIn_sub (fun _ h => List.mem_cons_of_mem _ (List.mem_append_right _ h)) (by decide +kernel))
set_option maxRecDepth 20000 in
theorem gL_addStage_X4_addStage : GoodIn wsL_addStage (wsV RL 15 RX4 yX4_addStage wsX4_addStage) := goodIn_app (goodIn_of _ (by decide +kernel)) ggL_addStage_X4_addStage
theorem dL_addStage_0 : decode cL_addStage 0 = .ok (.aload_n 2, 1) := by decide +kernel
theorem dL_addStage_1 : decode cL_addStage 1 = .ok (.iconst 0, 1) := by decide +kernel
theorem dL_addStage_2 : decode cL_addStage 2 = .ok (.aload_n 0, 1) := by decide +kernel
theorem dL_addStage_3 : decode cL_addStage 3 = .ok (.iload_n 1, 1) := by decide +kernel
theorem dL_addStage_4 : decode cL_addStage 4 = .ok (.invokevirtual 15, 3) := by decide +kernel
theorem dL_addStage_7 : decode cL_addStage 7 = .ok (.i2l, 1) := by decide +kernel
theorem dL_addStage_8 : decode cL_addStage 8 = .ok (.lastore, 1) := by decide +kernel
theorem dL_addStage_9 : decode cL_addStage 9 = .ok (.goto 9, 3) := by decide +kernel
theorem dL_addStage_12 : decode cL_addStage 12 = .ok (.astore_n 3, 1) := by decide +kernel
theorem dL_addStage_13 : decode cL_addStage 13 = .ok (.iconst 1, 1) := by decide +kernel
theorem dL_addStage_14 : decode cL_addStage 14 = .ok (.ireturn, 1) := by decide +kernel
theorem dL_addStage_15 : decode cL_addStage 15 = .ok (.astore_n 3, 1) := by decide +kernel
theorem dL_addStage_16 : decode cL_addStage 16 = .ok (.iconst 2, 1) := by decide +kernel
theorem dL_addStage_17 : decode cL_addStage 17 = .ok (.ireturn, 1) := by decide +kernel
theorem dL_addStage_18 : decode cL_addStage 18 = .ok (.iconst 0, 1) := by decide +kernel
theorem dL_addStage_19 : decode cL_addStage 19 = .ok (.ireturn, 1) := by decide +kernel
set_option maxRecDepth 20000 in
theorem ggL_install_X4_install : GoodIn wsL_install wsX4_install := goodIn_ca (goodIn_ca (goodIn_r _ [7, 8, 9, 10, 11, 12, 13, 14, 15, 6, 16, 17, 18, 19, 20, 21, 22, 23, 24, 25, 26, 27, 28, 29, 30, 31, 32, 33, 34, 35, 36, 37, 38, 39, 40, 41, 42, 43, 44, 45, 46, 47, 48, 49, 50, 51, 52, 53, 54, 55, 56, 57, 58, 59, 60, 61, 62, 63, 64, 65, 66, 67, 68, 69, 70, 71, 72, 73, 74, 75, 76, 77, 78, 79, 80, 81, 82, 83, 84, 85, 86, 87, 88, 89, 90] (by decide +kernel) (by decide +kernel)) (goodIn_sub (fun _ h => List.mem_cons_of_mem _ (List.mem_append_left _ (List.mem_append_right _ h))) (by decide +kernel))) (goodIn_sub (fun _ h => List.mem_cons_of_mem _ (List.mem_append_right _ h)) (by decide +kernel))
set_option maxRecDepth 20000 in
theorem gL_install_X4_install : GoodIn wsL_install (wsV RL 21 RX4 yX4_install wsX4_install) := goodIn_app (goodIn_of _ (by decide +kernel)) ggL_install_X4_install
theorem dL_install_0 : decode cL_install 0 = .ok (.aload 5, 2) := by decide +kernel
theorem dL_install_2 : decode cL_install 2 = .ok (.iconst 0, 1) := by decide +kernel
theorem dL_install_3 : decode cL_install 3 = .ok (.aload_n 0, 1) := by decide +kernel
theorem dL_install_4 : decode cL_install 4 = .ok (.iload_n 1, 1) := by decide +kernel
theorem dL_install_5 : decode cL_install 5 = .ok (.iload_n 2, 1) := by decide +kernel
theorem dL_install_6 : decode cL_install 6 = .ok (.iload_n 3, 1) := by decide +kernel
theorem dL_install_7 : decode cL_install 7 = .ok (.iload 4, 2) := by decide +kernel
theorem dL_install_9 : decode cL_install 9 = .ok (.invokevirtual 21, 3) := by decide +kernel
theorem dL_install_12 : decode cL_install 12 = .ok (.i2l, 1) := by decide +kernel
theorem dL_install_13 : decode cL_install 13 = .ok (.lastore, 1) := by decide +kernel
theorem dL_install_14 : decode cL_install 14 = .ok (.goto 11, 3) := by decide +kernel
theorem dL_install_17 : decode cL_install 17 = .ok (.astore 6, 2) := by decide +kernel
theorem dL_install_19 : decode cL_install 19 = .ok (.iconst 1, 1) := by decide +kernel
theorem dL_install_20 : decode cL_install 20 = .ok (.ireturn, 1) := by decide +kernel
theorem dL_install_21 : decode cL_install 21 = .ok (.astore 6, 2) := by decide +kernel
theorem dL_install_23 : decode cL_install 23 = .ok (.iconst 2, 1) := by decide +kernel
theorem dL_install_24 : decode cL_install 24 = .ok (.ireturn, 1) := by decide +kernel
theorem dL_install_25 : decode cL_install 25 = .ok (.iconst 0, 1) := by decide +kernel
theorem dL_install_26 : decode cL_install 26 = .ok (.ireturn, 1) := by decide +kernel
set_option maxRecDepth 20000 in
theorem ggL_setBad_X4_setBad : GoodIn wsL_setBad wsX4_setBad := goodIn_ca (goodIn_ca (goodIn_r _ [7, 8, 9, 10, 11, 6, 12, 13, 14, 15, 16, 17, 18, 19, 20, 21, 22, 23, 24, 25, 26, 27, 28, 29, 30, 31, 32, 33, 34, 35, 36, 37, 38, 39, 40, 41, 42, 43, 44, 45, 46, 47, 48, 49, 50, 51, 52, 53, 54, 55, 56, 57, 58, 59, 60, 61, 62, 63, 64, 65, 66, 67, 68, 69, 70, 71, 72, 73, 74, 75, 76] (by decide +kernel) (by decide +kernel)) (goodIn_sub (fun _ h => List.mem_cons_of_mem _ (List.mem_append_left _ (List.mem_append_right _ h))) (by decide +kernel))) (goodIn_sub (fun _ h => List.mem_cons_of_mem _ (List.mem_append_right _ h)) (by decide +kernel))
set_option maxRecDepth 20000 in
theorem gL_setBad_X4_setBad : GoodIn wsL_setBad (wsV RL 27 RX4 yX4_setBad wsX4_setBad) := goodIn_app (goodIn_of _ (by decide +kernel)) ggL_setBad_X4_setBad
theorem dL_setBad_0 : decode cL_setBad 0 = .ok (.aload 4, 2) := by decide +kernel
theorem dL_setBad_2 : decode cL_setBad 2 = .ok (.iconst 0, 1) := by decide +kernel
theorem dL_setBad_3 : decode cL_setBad 3 = .ok (.aload_n 0, 1) := by decide +kernel
theorem dL_setBad_4 : decode cL_setBad 4 = .ok (.iload_n 1, 1) := by decide +kernel
theorem dL_setBad_5 : decode cL_setBad 5 = .ok (.iload_n 2, 1) := by decide +kernel
theorem dL_setBad_6 : decode cL_setBad 6 = .ok (.iload_n 3, 1) := by decide +kernel
theorem dL_setBad_7 : decode cL_setBad 7 = .ok (.invokevirtual 27, 3) := by decide +kernel
theorem dL_setBad_10 : decode cL_setBad 10 = .ok (.ifCond .eq 7, 3) := by decide +kernel
theorem dL_setBad_13 : decode cL_setBad 13 = .ok (.lconst 1, 1) := by decide +kernel
theorem dL_setBad_14 : decode cL_setBad 14 = .ok (.goto 4, 3) := by decide +kernel
theorem dL_setBad_17 : decode cL_setBad 17 = .ok (.lconst 0, 1) := by decide +kernel
theorem dL_setBad_18 : decode cL_setBad 18 = .ok (.lastore, 1) := by decide +kernel
theorem dL_setBad_19 : decode cL_setBad 19 = .ok (.goto 11, 3) := by decide +kernel
theorem dL_setBad_22 : decode cL_setBad 22 = .ok (.astore 5, 2) := by decide +kernel
theorem dL_setBad_24 : decode cL_setBad 24 = .ok (.iconst 1, 1) := by decide +kernel
theorem dL_setBad_25 : decode cL_setBad 25 = .ok (.ireturn, 1) := by decide +kernel
theorem dL_setBad_26 : decode cL_setBad 26 = .ok (.astore 5, 2) := by decide +kernel
theorem dL_setBad_28 : decode cL_setBad 28 = .ok (.iconst 2, 1) := by decide +kernel
theorem dL_setBad_29 : decode cL_setBad 29 = .ok (.ireturn, 1) := by decide +kernel
theorem dL_setBad_30 : decode cL_setBad 30 = .ok (.iconst 0, 1) := by decide +kernel
theorem dL_setBad_31 : decode cL_setBad 31 = .ok (.ireturn, 1) := by decide +kernel
set_option maxRecDepth 20000 in
theorem ggL_version_X4_version : GoodIn wsL_version wsX4_version := goodIn_ca (goodIn_ca (goodIn_r _ [7, 8, 9, 10, 11, 6, 12, 13, 14, 15, 16, 17, 18, 19, 20, 21, 22, 23, 24, 25, 26, 27, 28, 29, 30, 31, 32, 33, 34, 35, 36, 37, 38, 39, 40, 41, 42, 43, 44, 45, 46, 47, 48, 49, 50, 51, 52, 53, 54, 55, 56, 57, 58, 59, 60, 61, 62, 63, 64, 65, 66, 67, 68, 69, 70, 71, 72, 73, 74, 75, 76] (by decide +kernel) (by decide +kernel)) (goodIn_sub (fun _ h => List.mem_cons_of_mem _ (List.mem_append_left _ (List.mem_append_right _ h))) (by decide +kernel))) (goodIn_sub (fun _ h => List.mem_cons_of_mem _ (List.mem_append_right _ h)) (by decide +kernel))
set_option maxRecDepth 20000 in
theorem gL_version_X4_version : GoodIn wsL_version (wsV RL 33 RX4 yX4_version wsX4_version) := goodIn_app (goodIn_of _ (by decide +kernel)) ggL_version_X4_version
theorem dL_version_0 : decode cL_version 0 = .ok (.aload_n 3, 1) := by decide +kernel
theorem dL_version_1 : decode cL_version 1 = .ok (.iconst 0, 1) := by decide +kernel
theorem dL_version_2 : decode cL_version 2 = .ok (.aload_n 0, 1) := by decide +kernel
theorem dL_version_3 : decode cL_version 3 = .ok (.iload_n 1, 1) := by decide +kernel
theorem dL_version_4 : decode cL_version 4 = .ok (.iload_n 2, 1) := by decide +kernel
theorem dL_version_5 : decode cL_version 5 = .ok (.invokevirtual 33, 3) := by decide +kernel
theorem dL_version_8 : decode cL_version 8 = .ok (.i2l, 1) := by decide +kernel
theorem dL_version_9 : decode cL_version 9 = .ok (.lastore, 1) := by decide +kernel
theorem dL_version_10 : decode cL_version 10 = .ok (.goto 11, 3) := by decide +kernel
theorem dL_version_13 : decode cL_version 13 = .ok (.astore 4, 2) := by decide +kernel
theorem dL_version_15 : decode cL_version 15 = .ok (.iconst 1, 1) := by decide +kernel
theorem dL_version_16 : decode cL_version 16 = .ok (.ireturn, 1) := by decide +kernel
theorem dL_version_17 : decode cL_version 17 = .ok (.astore 4, 2) := by decide +kernel
theorem dL_version_19 : decode cL_version 19 = .ok (.iconst 2, 1) := by decide +kernel
theorem dL_version_20 : decode cL_version 20 = .ok (.ireturn, 1) := by decide +kernel
theorem dL_version_21 : decode cL_version 21 = .ok (.iconst 0, 1) := by decide +kernel
theorem dL_version_22 : decode cL_version 22 = .ok (.ireturn, 1) := by decide +kernel
set_option maxRecDepth 20000 in
theorem ggL_active_X4_active : GoodIn wsL_active wsX4_active := goodIn_ca (goodIn_r _ [6, 7, 8, 9, 10, 5, 11, 12, 13, 14, 15, 16, 17, 18, 19, 20, 21, 22, 23, 24, 25, 26, 27, 28, 29, 30, 31, 32, 33, 34, 35, 36, 37, 38, 39, 40, 41, 42, 43, 44, 45, 46, 47, 48, 49, 50, 51, 52, 53, 54, 55, 56, 57, 58, 59, 60] (by decide +kernel) (by decide +kernel)) (goodIn_sub (fun _ h => List.mem_cons_of_mem _ (List.mem_append_right _ h)) (by decide +kernel))
set_option maxRecDepth 20000 in
theorem gL_active_X4_active : GoodIn wsL_active (wsV RL 37 RX4 yX4_active wsX4_active) := goodIn_app (goodIn_of _ (by decide +kernel)) ggL_active_X4_active
theorem dL_active_0 : decode cL_active 0 = .ok (.aload_n 2, 1) := by decide +kernel
theorem dL_active_1 : decode cL_active 1 = .ok (.iconst 0, 1) := by decide +kernel
theorem dL_active_2 : decode cL_active 2 = .ok (.aload_n 0, 1) := by decide +kernel
theorem dL_active_3 : decode cL_active 3 = .ok (.iload_n 1, 1) := by decide +kernel
theorem dL_active_4 : decode cL_active 4 = .ok (.invokevirtual 37, 3) := by decide +kernel
theorem dL_active_7 : decode cL_active 7 = .ok (.i2l, 1) := by decide +kernel
theorem dL_active_8 : decode cL_active 8 = .ok (.lastore, 1) := by decide +kernel
theorem dL_active_9 : decode cL_active 9 = .ok (.goto 6, 3) := by decide +kernel
theorem dL_active_12 : decode cL_active 12 = .ok (.astore_n 3, 1) := by decide +kernel
theorem dL_active_13 : decode cL_active 13 = .ok (.iconst 1, 1) := by decide +kernel
theorem dL_active_14 : decode cL_active 14 = .ok (.ireturn, 1) := by decide +kernel
theorem dL_active_15 : decode cL_active 15 = .ok (.iconst 0, 1) := by decide +kernel
theorem dL_active_16 : decode cL_active 16 = .ok (.ireturn, 1) := by decide +kernel
set_option maxRecDepth 20000 in
theorem ggL_reason_X4_reason : GoodIn wsL_reason wsX4_reason := goodIn_ca (goodIn_ca (goodIn_r _ [6, 7, 8, 9, 5, 10, 11, 12, 13, 14, 15, 16, 17, 18, 19, 20, 21, 22, 23, 24, 25, 26, 27, 28, 29, 30, 31, 32, 33, 34, 35, 36, 37, 38, 39, 40, 41, 42, 43, 44, 45, 46, 47, 48, 49, 50, 51, 52, 53, 54, 55, 56, 57, 58, 59, 60, 61, 62, 63, 64, 65, 66, 67, 68, 69, 70, 71, 72, 73, 74, 75, 76, 77] (by decide +kernel) (by decide +kernel)) (goodIn_sub (fun _ h => List.mem_cons_of_mem _ (List.mem_append_right _ h)) (by decide +kernel))) (goodIn_sub (fun _ h => List.mem_cons_of_mem _ (List.mem_append_left _ (List.mem_append_right _ h))) (by decide +kernel))
set_option maxRecDepth 20000 in
theorem gL_reason_X4_reason : GoodIn wsL_reason (wsV RL 40 RX4 yX4_reason wsX4_reason) := goodIn_app (goodIn_of _ (by decide +kernel)) ggL_reason_X4_reason
theorem dL_reason_0 : decode cL_reason 0 = .ok (.aload_n 3, 1) := by decide +kernel
theorem dL_reason_1 : decode cL_reason 1 = .ok (.iconst 0, 1) := by decide +kernel
theorem dL_reason_2 : decode cL_reason 2 = .ok (.aload_n 0, 1) := by decide +kernel
theorem dL_reason_3 : decode cL_reason 3 = .ok (.iload_n 1, 1) := by decide +kernel
theorem dL_reason_4 : decode cL_reason 4 = .ok (.iload_n 2, 1) := by decide +kernel
theorem dL_reason_5 : decode cL_reason 5 = .ok (.invokevirtual 40, 3) := by decide +kernel
theorem dL_reason_8 : decode cL_reason 8 = .ok (.i2l, 1) := by decide +kernel
theorem dL_reason_9 : decode cL_reason 9 = .ok (.lastore, 1) := by decide +kernel
theorem dL_reason_10 : decode cL_reason 10 = .ok (.goto 7, 3) := by decide +kernel
theorem dL_reason_13 : decode cL_reason 13 = .ok (.astore 4, 2) := by decide +kernel
theorem dL_reason_15 : decode cL_reason 15 = .ok (.iconst 1, 1) := by decide +kernel
theorem dL_reason_16 : decode cL_reason 16 = .ok (.ireturn, 1) := by decide +kernel
theorem dL_reason_17 : decode cL_reason 17 = .ok (.iconst 0, 1) := by decide +kernel
theorem dL_reason_18 : decode cL_reason 18 = .ok (.ireturn, 1) := by decide +kernel
set_option maxRecDepth 20000 in
theorem ggL_counter_X4_counter : GoodIn wsL_counter wsX4_counter := goodIn_ca (goodIn_r _ [6, 7, 8, 9, 10, 5, 11, 12, 13, 14, 15, 16, 17, 18, 19, 20, 21, 22, 23, 24, 25, 26, 27, 28, 29, 30, 31, 32, 33, 34, 35, 36, 37, 38, 39, 40, 41, 42, 43, 44, 45, 46, 47, 48, 49, 50, 51, 52, 53, 54, 55, 56, 57, 58, 59, 60] (by decide +kernel) (by decide +kernel)) (goodIn_sub (fun _ h => List.mem_cons_of_mem _ (List.mem_append_right _ h)) (by decide +kernel))
set_option maxRecDepth 20000 in
theorem gL_counter_X4_counter : GoodIn wsL_counter (wsV RL 44 RX4 yX4_counter wsX4_counter) := goodIn_app (goodIn_of _ (by decide +kernel)) ggL_counter_X4_counter
theorem dL_counter_0 : decode cL_counter 0 = .ok (.aload_n 2, 1) := by decide +kernel
theorem dL_counter_1 : decode cL_counter 1 = .ok (.iconst 0, 1) := by decide +kernel
theorem dL_counter_2 : decode cL_counter 2 = .ok (.aload_n 0, 1) := by decide +kernel
theorem dL_counter_3 : decode cL_counter 3 = .ok (.iload_n 1, 1) := by decide +kernel
theorem dL_counter_4 : decode cL_counter 4 = .ok (.invokevirtual 44, 3) := by decide +kernel
theorem dL_counter_7 : decode cL_counter 7 = .ok (.i2l, 1) := by decide +kernel
theorem dL_counter_8 : decode cL_counter 8 = .ok (.lastore, 1) := by decide +kernel
theorem dL_counter_9 : decode cL_counter 9 = .ok (.goto 6, 3) := by decide +kernel
theorem dL_counter_12 : decode cL_counter 12 = .ok (.astore_n 3, 1) := by decide +kernel
theorem dL_counter_13 : decode cL_counter 13 = .ok (.iconst 1, 1) := by decide +kernel
theorem dL_counter_14 : decode cL_counter 14 = .ok (.ireturn, 1) := by decide +kernel
theorem dL_counter_15 : decode cL_counter 15 = .ok (.iconst 0, 1) := by decide +kernel
theorem dL_counter_16 : decode cL_counter 16 = .ok (.ireturn, 1) := by decide +kernel
set_option maxRecDepth 20000 in
theorem ggL_start_X4_start : GoodIn wsL_start wsX4_start := goodIn_ca (goodIn_ca (goodIn_r _ [6, 7, 8, 9, 10, 11, 12, 13, 14, 15, 16, 17, 18, 19, 20, 21, 22, 5, 23, 24, 25, 26, 27, 28, 29, 30, 31, 32, 33, 34, 35, 36, 37, 38, 39, 40, 41, 42, 43, 44, 45, 46, 47, 48, 49, 50, 51, 52, 53, 54, 55, 56, 57, 58, 59, 60, 61, 62, 63, 64, 65, 66, 67, 68, 69, 70, 71, 72, 73, 74, 75, 76, 77, 78, 79, 80, 81, 82, 83, 84, 85, 86, 87, 88, 89, 90, 91, 92, 93, 94, 95, 96, 97, 98, 99, 100, 101, 102, 103, 104, 105, 106, 107, 108, 109, 110, 111, 112, 113, 114, 115, 116, 117, 118, 119, 120, 121, 122, 123, 124, 125, 126, 127, 128, 129] (by decide +kernel) (by decide +kernel)) (goodIn_sub (fun _ h => List.mem_cons_of_mem _ (List.mem_append_right _ h)) (by decide +kernel))) (goodIn_sub (fun _ h => List.mem_cons_of_mem _ (List.mem_append_left _ (List.mem_append_right _ h))) (by decide +kernel))
set_option maxRecDepth 20000 in
theorem gL_start_X4_start : GoodIn wsL_start (wsV RL 47 RX4 yX4_start wsX4_start) := goodIn_app (goodIn_of _ (by decide +kernel)) ggL_start_X4_start
theorem dL_start_0 : decode cL_start 0 = .ok (.aload_n 1, 1) := by decide +kernel
theorem dL_start_1 : decode cL_start 1 = .ok (.iconst 0, 1) := by decide +kernel
theorem dL_start_2 : decode cL_start 2 = .ok (.aload_n 0, 1) := by decide +kernel
theorem dL_start_3 : decode cL_start 3 = .ok (.invokevirtual 47, 3) := by decide +kernel
theorem dL_start_6 : decode cL_start 6 = .ok (.ifCond .eq 7, 3) := by decide +kernel
theorem dL_start_9 : decode cL_start 9 = .ok (.lconst 1, 1) := by decide +kernel
theorem dL_start_10 : decode cL_start 10 = .ok (.goto 4, 3) := by decide +kernel
theorem dL_start_13 : decode cL_start 13 = .ok (.lconst 0, 1) := by decide +kernel
theorem dL_start_14 : decode cL_start 14 = .ok (.lastore, 1) := by decide +kernel
theorem dL_start_15 : decode cL_start 15 = .ok (.goto 6, 3) := by decide +kernel
theorem dL_start_18 : decode cL_start 18 = .ok (.astore_n 2, 1) := by decide +kernel
theorem dL_start_19 : decode cL_start 19 = .ok (.iconst 1, 1) := by decide +kernel
theorem dL_start_20 : decode cL_start 20 = .ok (.ireturn, 1) := by decide +kernel
theorem dL_start_21 : decode cL_start 21 = .ok (.iconst 0, 1) := by decide +kernel
theorem dL_start_22 : decode cL_start 22 = .ok (.ireturn, 1) := by decide +kernel
set_option maxRecDepth 20000 in
theorem ggL_stop_X4_stop : GoodIn wsL_stop wsX4_stop := goodIn_ca (goodIn_r _ [6, 7, 8, 9, 10, 11, 12, 13, 14, 15, 16, 17, 18, 19, 20, 21, 22, 23, 24, 25, 26] (by decide +kernel) (by decide +kernel)) (goodIn_sub (fun _ h => List.mem_cons_of_mem _ (List.mem_append_right _ h)) (by decide +kernel))
set_option maxRecDepth 20000 in
theorem gL_stop_X4_stop : GoodIn wsL_stop (wsV RL 51 RX4 yX4_stop wsX4_stop) := goodIn_app (goodIn_of _ (by decide +kernel)) ggL_stop_X4_stop
theorem dL_stop_0 : decode cL_stop 0 = .ok (.aload_n 1, 1) := by decide +kernel
theorem dL_stop_1 : decode cL_stop 1 = .ok (.iconst 0, 1) := by decide +kernel
theorem dL_stop_2 : decode cL_stop 2 = .ok (.aload_n 0, 1) := by decide +kernel
theorem dL_stop_3 : decode cL_stop 3 = .ok (.invokevirtual 51, 3) := by decide +kernel
theorem dL_stop_6 : decode cL_stop 6 = .ok (.i2l, 1) := by decide +kernel
theorem dL_stop_7 : decode cL_stop 7 = .ok (.lastore, 1) := by decide +kernel
theorem dL_stop_8 : decode cL_stop 8 = .ok (.goto 6, 3) := by decide +kernel
theorem dL_stop_11 : decode cL_stop 11 = .ok (.astore_n 2, 1) := by decide +kernel
theorem dL_stop_12 : decode cL_stop 12 = .ok (.iconst 1, 1) := by decide +kernel
theorem dL_stop_13 : decode cL_stop 13 = .ok (.ireturn, 1) := by decide +kernel
theorem dL_stop_14 : decode cL_stop 14 = .ok (.iconst 0, 1) := by decide +kernel
theorem dL_stop_15 : decode cL_stop 15 = .ok (.ireturn, 1) := by decide +kernel
set_option maxRecDepth 20000 in
theorem ggL_commit_X4_commit : GoodIn wsL_commit wsX4_commit := goodIn_ca (goodIn_ca (goodIn_r _ [6, 7, 8, 9, 10, 11, 12, 13, 14, 15, 16, 17, 18, 19, 20, 21, 22, 23, 24, 25, 26, 27, 28, 29, 30, 31, 32, 33, 34, 35, 36, 37, 38, 39, 40, 41, 42, 43, 44, 45, 46, 47, 48, 49, 50, 51, 52, 53, 54, 55, 56, 57, 58, 59, 60] (by decide +kernel) (by decide +kernel)) (goodIn_sub (fun _ h => List.mem_cons_of_mem _ (List.mem_append_right _ h)) (by decide +kernel))) (goodIn_sub (fun _ h => List.mem_cons_of_mem _ (List.mem_append_left _ (List.mem_append_right _ h))) (by decide +kernel))
set_option maxRecDepth 20000 in
theorem gL_commit_X4_commit : GoodIn wsL_commit (wsV RL 55 RX4 yX4_commit wsX4_commit) := goodIn_app (goodIn_of _ (by decide +kernel)) ggL_commit_X4_commit
theorem dL_commit_0 : decode cL_commit 0 = .ok (.aload_n 1, 1) := by decide +kernel
theorem dL_commit_1 : decode cL_commit 1 = .ok (.iconst 0, 1) := by decide +kernel
theorem dL_commit_2 : decode cL_commit 2 = .ok (.aload_n 0, 1) := by decide +kernel
theorem dL_commit_3 : decode cL_commit 3 = .ok (.invokevirtual 55, 3) := by decide +kernel
theorem dL_commit_6 : decode cL_commit 6 = .ok (.i2l, 1) := by decide +kernel
theorem dL_commit_7 : decode cL_commit 7 = .ok (.lastore, 1) := by decide +kernel
theorem dL_commit_8 : decode cL_commit 8 = .ok (.goto 6, 3) := by decide +kernel
theorem dL_commit_11 : decode cL_commit 11 = .ok (.astore_n 2, 1) := by decide +kernel
theorem dL_commit_12 : decode cL_commit 12 = .ok (.iconst 1, 1) := by decide +kernel
theorem dL_commit_13 : decode cL_commit 13 = .ok (.ireturn, 1) := by decide +kernel
theorem dL_commit_14 : decode cL_commit 14 = .ok (.iconst 0, 1) := by decide +kernel
theorem dL_commit_15 : decode cL_commit 15 = .ok (.ireturn, 1) := by decide +kernel
set_option maxRecDepth 20000 in
theorem ggL_runsFrom_X4_runsFrom : GoodIn wsL_runsFrom wsX4_runsFrom := goodIn_ca (goodIn_ca (goodIn_ca (goodIn_r _ [7, 8, 9, 10, 11, 12, 13, 14, 15, 16, 6, 17, 18, 19, 20, 21, 22, 23, 24, 25, 26, 27, 28, 29, 30, 31, 32, 33, 34, 35, 36, 37, 38, 39, 40, 41, 42, 43, 44, 45, 46, 47, 48, 49, 50, 51] (by decide +kernel) (by decide +kernel)) (goodIn_sub (fun _ h => List.mem_cons_of_mem _ (List.mem_append_left _ (List.mem_append_right _ h))) (by decide +kernel))) (goodIn_sub (fun _ h => List.mem_cons_of_mem _ (List.mem_append_right _ h)) (by decide +kernel))) (goodIn_sub (fun _ h => List.mem_cons_of_mem _ (List.mem_append_left _ (List.mem_append_left _ (List.mem_append_right _ h)))) (by decide +kernel))
set_option maxRecDepth 20000 in
theorem gL_runsFrom_X4_runsFrom : GoodIn wsL_runsFrom (wsV RL 58 RX4 yX4_runsFrom wsX4_runsFrom) := goodIn_app (goodIn_of _ (by decide +kernel)) ggL_runsFrom_X4_runsFrom
theorem dL_runsFrom_0 : decode cL_runsFrom 0 = .ok (.aload_n 2, 1) := by decide +kernel
theorem dL_runsFrom_1 : decode cL_runsFrom 1 = .ok (.iconst 0, 1) := by decide +kernel
theorem dL_runsFrom_2 : decode cL_runsFrom 2 = .ok (.aload_n 0, 1) := by decide +kernel
theorem dL_runsFrom_3 : decode cL_runsFrom 3 = .ok (.iload_n 1, 1) := by decide +kernel
theorem dL_runsFrom_4 : decode cL_runsFrom 4 = .ok (.invokevirtual 58, 3) := by decide +kernel
theorem dL_runsFrom_7 : decode cL_runsFrom 7 = .ok (.i2l, 1) := by decide +kernel
theorem dL_runsFrom_8 : decode cL_runsFrom 8 = .ok (.lastore, 1) := by decide +kernel
theorem dL_runsFrom_9 : decode cL_runsFrom 9 = .ok (.goto 9, 3) := by decide +kernel
theorem dL_runsFrom_12 : decode cL_runsFrom 12 = .ok (.astore_n 3, 1) := by decide +kernel
theorem dL_runsFrom_13 : decode cL_runsFrom 13 = .ok (.iconst 1, 1) := by decide +kernel
theorem dL_runsFrom_14 : decode cL_runsFrom 14 = .ok (.ireturn, 1) := by decide +kernel
theorem dL_runsFrom_15 : decode cL_runsFrom 15 = .ok (.astore_n 3, 1) := by decide +kernel
theorem dL_runsFrom_16 : decode cL_runsFrom 16 = .ok (.iconst 2, 1) := by decide +kernel
theorem dL_runsFrom_17 : decode cL_runsFrom 17 = .ok (.ireturn, 1) := by decide +kernel
theorem dL_runsFrom_18 : decode cL_runsFrom 18 = .ok (.iconst 0, 1) := by decide +kernel
theorem dL_runsFrom_19 : decode cL_runsFrom 19 = .ok (.ireturn, 1) := by decide +kernel
set_option maxRecDepth 20000 in
theorem ggL_register_X4_register : GoodIn wsL_register wsX4_register := goodIn_ca (goodIn_ca (goodIn_r _ [6, 7, 8, 9, 10, 11, 12, 5, 13, 14, 15, 16, 17, 18, 19, 20, 21, 22, 23, 24, 25, 26, 27, 28, 29, 30, 31] (by decide +kernel) (by decide +kernel)) (goodIn_sub (fun _ h => List.mem_cons_of_mem _ (List.mem_append_right _ h)) (by decide +kernel))) (goodIn_sub (fun _ h => List.mem_cons_of_mem _ (List.mem_append_left _ (List.mem_append_right _ h))) (by decide +kernel))
set_option maxRecDepth 20000 in
theorem gL_register_X4_register : GoodIn wsL_register (wsV RL 61 RX4 yX4_register wsX4_register) := goodIn_app (goodIn_of _ (by decide +kernel)) ggL_register_X4_register
theorem dL_register_0 : decode cL_register 0 = .ok (.aload_n 2, 1) := by decide +kernel
theorem dL_register_1 : decode cL_register 1 = .ok (.iconst 0, 1) := by decide +kernel
theorem dL_register_2 : decode cL_register 2 = .ok (.aload_n 0, 1) := by decide +kernel
theorem dL_register_3 : decode cL_register 3 = .ok (.iload_n 1, 1) := by decide +kernel
theorem dL_register_4 : decode cL_register 4 = .ok (.invokevirtual 61, 3) := by decide +kernel
theorem dL_register_7 : decode cL_register 7 = .ok (.i2l, 1) := by decide +kernel
theorem dL_register_8 : decode cL_register 8 = .ok (.lastore, 1) := by decide +kernel
theorem dL_register_9 : decode cL_register 9 = .ok (.goto 6, 3) := by decide +kernel
theorem dL_register_12 : decode cL_register 12 = .ok (.astore_n 3, 1) := by decide +kernel
theorem dL_register_13 : decode cL_register 13 = .ok (.iconst 1, 1) := by decide +kernel
theorem dL_register_14 : decode cL_register 14 = .ok (.ireturn, 1) := by decide +kernel
theorem dL_register_15 : decode cL_register 15 = .ok (.iconst 0, 1) := by decide +kernel
theorem dL_register_16 : decode cL_register 16 = .ok (.ireturn, 1) := by decide +kernel
set_option maxRecDepth 20000 in
theorem ggL_registerByLog_X4_registerByLog : GoodIn wsL_registerByLog wsX4_registerByLog := goodIn_ca (goodIn_ca (goodIn_r _ [6, 7, 8, 9, 10, 11, 12, 13, 5, 14, 15, 16, 17, 18, 19, 20, 21, 22, 23, 24, 25, 26, 27, 28, 29, 30, 31, 32, 33, 34, 35] (by decide +kernel) (by decide +kernel)) (goodIn_sub (fun _ h => List.mem_cons_of_mem _ (List.mem_append_right _ h)) (by decide +kernel))) (goodIn_sub (fun _ h => List.mem_cons_of_mem _ (List.mem_append_left _ (List.mem_append_right _ h))) (by decide +kernel))
set_option maxRecDepth 20000 in
theorem gL_registerByLog_X4_registerByLog : GoodIn wsL_registerByLog (wsV RL 64 RX4 yX4_registerByLog wsX4_registerByLog) := goodIn_app (goodIn_of _ (by decide +kernel)) ggL_registerByLog_X4_registerByLog
theorem dL_registerByLog_0 : decode cL_registerByLog 0 = .ok (.aload_n 2, 1) := by decide +kernel
theorem dL_registerByLog_1 : decode cL_registerByLog 1 = .ok (.iconst 0, 1) := by decide +kernel
theorem dL_registerByLog_2 : decode cL_registerByLog 2 = .ok (.aload_n 0, 1) := by decide +kernel
theorem dL_registerByLog_3 : decode cL_registerByLog 3 = .ok (.iload_n 1, 1) := by decide +kernel
theorem dL_registerByLog_4 : decode cL_registerByLog 4 = .ok (.invokevirtual 64, 3) := by decide +kernel
theorem dL_registerByLog_7 : decode cL_registerByLog 7 = .ok (.i2l, 1) := by decide +kernel
theorem dL_registerByLog_8 : decode cL_registerByLog 8 = .ok (.lastore, 1) := by decide +kernel
theorem dL_registerByLog_9 : decode cL_registerByLog 9 = .ok (.goto 6, 3) := by decide +kernel
theorem dL_registerByLog_12 : decode cL_registerByLog 12 = .ok (.astore_n 3, 1) := by decide +kernel
theorem dL_registerByLog_13 : decode cL_registerByLog 13 = .ok (.iconst 1, 1) := by decide +kernel
theorem dL_registerByLog_14 : decode cL_registerByLog 14 = .ok (.ireturn, 1) := by decide +kernel
theorem dL_registerByLog_15 : decode cL_registerByLog 15 = .ok (.iconst 0, 1) := by decide +kernel
theorem dL_registerByLog_16 : decode cL_registerByLog 16 = .ok (.ireturn, 1) := by decide +kernel
set_option maxRecDepth 20000 in
theorem ggL_forecast_X4_forecast : GoodIn wsL_forecast wsX4_forecast := goodIn_ca (goodIn_ca (goodIn_ca (goodIn_r _ [7, 8, 9, 10, 11, 12, 13, 14, 15, 16, 6, 17, 18, 19, 20, 21, 22, 23, 24, 25, 26, 27, 28, 29, 30, 31, 32, 33, 34, 35, 36, 37, 38, 39, 40, 41, 42, 43, 44, 45, 46, 47, 48, 49, 50, 51, 52, 53, 54, 55, 56, 57, 58, 59, 60, 61, 62, 63, 64, 65, 66, 67, 68, 69, 70, 71, 72, 73, 74, 75, 76, 77, 78, 79, 80, 81, 82, 83, 84, 85, 86, 87, 88, 89, 90, 91, 92, 93, 94, 95, 96, 97, 98, 99, 100, 101, 102, 103, 104, 105, 106, 107, 108, 109, 110, 111, 112, 113, 114, 115, 116, 117, 118, 119, 120, 121, 122, 123, 124, 125, 126, 127, 128, 129, 130, 131] (by decide +kernel) (by decide +kernel)) (goodIn_sub (fun _ h => List.mem_cons_of_mem _ (List.mem_append_left _ (List.mem_append_right _ h))) (by decide +kernel))) (goodIn_sub (fun _ h => List.mem_cons_of_mem _ (List.mem_append_right _ h)) (by decide +kernel))) (goodIn_sub (fun _ h => List.mem_cons_of_mem _ (List.mem_append_left _ (List.mem_append_left _ (List.mem_append_right _ h)))) (by decide +kernel))
set_option maxRecDepth 20000 in
theorem gL_forecast_X4_forecast : GoodIn wsL_forecast (wsV RL 67 RX4 yX4_forecast wsX4_forecast) := goodIn_app (goodIn_of _ (by decide +kernel)) ggL_forecast_X4_forecast
theorem dL_forecast_0 : decode cL_forecast 0 = .ok (.aload_n 2, 1) := by decide +kernel
theorem dL_forecast_1 : decode cL_forecast 1 = .ok (.iconst 0, 1) := by decide +kernel
theorem dL_forecast_2 : decode cL_forecast 2 = .ok (.aload_n 0, 1) := by decide +kernel
theorem dL_forecast_3 : decode cL_forecast 3 = .ok (.iload_n 1, 1) := by decide +kernel
theorem dL_forecast_4 : decode cL_forecast 4 = .ok (.invokevirtual 67, 3) := by decide +kernel
theorem dL_forecast_7 : decode cL_forecast 7 = .ok (.i2l, 1) := by decide +kernel
theorem dL_forecast_8 : decode cL_forecast 8 = .ok (.lastore, 1) := by decide +kernel
theorem dL_forecast_9 : decode cL_forecast 9 = .ok (.goto 9, 3) := by decide +kernel
theorem dL_forecast_12 : decode cL_forecast 12 = .ok (.astore_n 3, 1) := by decide +kernel
theorem dL_forecast_13 : decode cL_forecast 13 = .ok (.iconst 1, 1) := by decide +kernel
theorem dL_forecast_14 : decode cL_forecast 14 = .ok (.ireturn, 1) := by decide +kernel
theorem dL_forecast_15 : decode cL_forecast 15 = .ok (.astore_n 3, 1) := by decide +kernel
theorem dL_forecast_16 : decode cL_forecast 16 = .ok (.iconst 2, 1) := by decide +kernel
theorem dL_forecast_17 : decode cL_forecast 17 = .ok (.ireturn, 1) := by decide +kernel
theorem dL_forecast_18 : decode cL_forecast 18 = .ok (.iconst 0, 1) := by decide +kernel
theorem dL_forecast_19 : decode cL_forecast 19 = .ok (.ireturn, 1) := by decide +kernel
set_option maxRecDepth 20000 in
theorem ggL_entry_X4_entry : GoodIn wsL_entry wsX4_entry := goodIn_ca (goodIn_ca (goodIn_r _ [6, 7, 8, 9, 10, 11, 12, 13, 14, 15, 16, 17, 18, 19, 20, 21, 22, 23, 24, 25, 26] (by decide +kernel) (by decide +kernel)) (goodIn_sub (fun _ h => List.mem_cons_of_mem _ (List.mem_append_right _ h)) (by decide +kernel))) (goodIn_sub (fun _ h => List.mem_cons_of_mem _ (List.mem_append_left _ (List.mem_append_right _ h))) (by decide +kernel))
set_option maxRecDepth 20000 in
theorem gL_entry_X4_entry : GoodIn wsL_entry (wsV RL 70 RX4 yX4_entry wsX4_entry) := goodIn_app (goodIn_of _ (by decide +kernel)) ggL_entry_X4_entry
theorem dL_entry_0 : decode cL_entry 0 = .ok (.aload_n 2, 1) := by decide +kernel
theorem dL_entry_1 : decode cL_entry 1 = .ok (.iconst 0, 1) := by decide +kernel
theorem dL_entry_2 : decode cL_entry 2 = .ok (.aload_n 0, 1) := by decide +kernel
theorem dL_entry_3 : decode cL_entry 3 = .ok (.iload_n 1, 1) := by decide +kernel
theorem dL_entry_4 : decode cL_entry 4 = .ok (.invokevirtual 70, 3) := by decide +kernel
theorem dL_entry_7 : decode cL_entry 7 = .ok (.i2l, 1) := by decide +kernel
theorem dL_entry_8 : decode cL_entry 8 = .ok (.lastore, 1) := by decide +kernel
theorem dL_entry_9 : decode cL_entry 9 = .ok (.goto 6, 3) := by decide +kernel
theorem dL_entry_12 : decode cL_entry 12 = .ok (.astore_n 3, 1) := by decide +kernel
theorem dL_entry_13 : decode cL_entry 13 = .ok (.iconst 1, 1) := by decide +kernel
theorem dL_entry_14 : decode cL_entry 14 = .ok (.ireturn, 1) := by decide +kernel
theorem dL_entry_15 : decode cL_entry 15 = .ok (.iconst 0, 1) := by decide +kernel
theorem dL_entry_16 : decode cL_entry 16 = .ok (.ireturn, 1) := by decide +kernel
set_option maxRecDepth 20000 in
theorem ggL_seal_X4_seal : GoodIn wsL_seal wsX4_seal := goodIn_ca (goodIn_ca (goodIn_ca (goodIn_r _ [7, 8, 9, 10, 11, 12, 13, 14, 15, 16, 17, 18, 19, 20, 6, 21, 22, 23, 24, 25, 26, 27, 28, 29, 30, 31, 32, 33, 34, 35, 36, 37, 38, 39, 40, 41, 42, 43, 44, 45, 46, 47, 48, 49, 50, 51, 52, 53, 54, 55, 56, 57, 58, 59, 60, 61, 62, 63, 64, 65, 66, 67, 68, 69, 70, 71, 72, 73, 74, 75, 76, 77, 78, 79, 80, 81, 82, 83, 84, 85, 86, 87, 88, 89, 90, 91, 92, 93, 94, 95, 96, 97, 98, 99, 100, 101, 102, 103, 104, 105, 106, 107, 108, 109, 110, 111, 112, 113, 114, 115, 116, 117, 118, 119, 120, 121, 122, 123, 124, 125] (by decide +kernel) (by decide +kernel)) (goodIn_sub (fun _ h => List.mem_cons_of_mem _ (List.mem_append_left _ (List.mem_append_right _ h))) (by decide +kernel))) (goodIn_sub (fun _ h => List.mem_cons_of_mem _ (List.mem_append_right _ h)) (by decide +kernel))) (goodIn_sub (fun _ h => List.mem_cons_of_mem _ (List.mem_append_left _ (List.mem_append_left _ (List.mem_append_right _ h)))) (by decide +kernel))
set_option maxRecDepth 20000 in
theorem gL_seal_X4_seal : GoodIn wsL_seal (wsV RL 73 RX4 yX4_seal wsX4_seal) := goodIn_app (goodIn_of _ (by decide +kernel)) ggL_seal_X4_seal
theorem dL_seal_0 : decode cL_seal 0 = .ok (.aload_n 3, 1) := by decide +kernel
theorem dL_seal_1 : decode cL_seal 1 = .ok (.iconst 0, 1) := by decide +kernel
theorem dL_seal_2 : decode cL_seal 2 = .ok (.aload_n 0, 1) := by decide +kernel
theorem dL_seal_3 : decode cL_seal 3 = .ok (.iload_n 1, 1) := by decide +kernel
theorem dL_seal_4 : decode cL_seal 4 = .ok (.iload_n 2, 1) := by decide +kernel
theorem dL_seal_5 : decode cL_seal 5 = .ok (.invokevirtual 73, 3) := by decide +kernel
theorem dL_seal_8 : decode cL_seal 8 = .ok (.i2l, 1) := by decide +kernel
theorem dL_seal_9 : decode cL_seal 9 = .ok (.lastore, 1) := by decide +kernel
theorem dL_seal_10 : decode cL_seal 10 = .ok (.goto 11, 3) := by decide +kernel
theorem dL_seal_13 : decode cL_seal 13 = .ok (.astore 4, 2) := by decide +kernel
theorem dL_seal_15 : decode cL_seal 15 = .ok (.iconst 1, 1) := by decide +kernel
theorem dL_seal_16 : decode cL_seal 16 = .ok (.ireturn, 1) := by decide +kernel
theorem dL_seal_17 : decode cL_seal 17 = .ok (.astore 4, 2) := by decide +kernel
theorem dL_seal_19 : decode cL_seal 19 = .ok (.iconst 2, 1) := by decide +kernel
theorem dL_seal_20 : decode cL_seal 20 = .ok (.ireturn, 1) := by decide +kernel
theorem dL_seal_21 : decode cL_seal 21 = .ok (.iconst 0, 1) := by decide +kernel
theorem dL_seal_22 : decode cL_seal 22 = .ok (.ireturn, 1) := by decide +kernel
set_option maxRecDepth 20000 in
theorem ggL_sealAhead_X4_sealAhead : GoodIn wsL_sealAhead wsX4_sealAhead := goodIn_ca (goodIn_ca (goodIn_ca (goodIn_r _ [7, 8, 9, 10, 11, 12, 13, 14, 6, 15, 16, 17, 18, 19, 20, 21, 22, 23, 24, 25, 26, 27, 28, 29, 30, 31, 32, 33, 34, 35, 36, 37, 38, 39, 40, 41, 42, 43, 44, 45, 46, 47, 48, 49, 50, 51, 52, 53, 54, 55, 56, 57, 58, 59, 60, 61, 62, 63, 64, 65, 66, 67, 68, 69, 70, 71, 72, 73, 74, 75, 76, 77, 78, 79, 80, 81, 82, 83, 84, 85, 86, 87, 88, 89, 90, 91, 92, 93, 94, 95, 96, 97, 98, 99, 100, 101, 102, 103, 104, 105, 106, 107, 108, 109, 110, 111, 112, 113, 114, 115, 116, 117, 118, 119, 120, 121, 122, 123, 124, 125, 126, 127, 128, 129, 130, 131, 132, 133, 134, 135, 136, 137, 138, 139, 140, 141, 142, 143, 144, 145, 146, 147, 148, 149, 150, 151, 152, 153, 154, 155, 156, 157, 158, 159, 160, 161, 162] (by decide +kernel) (by decide +kernel)) (goodIn_sub (fun _ h => List.mem_cons_of_mem _ (List.mem_append_left _ (List.mem_append_right _ h))) (by decide +kernel))) (goodIn_sub (fun _ h => List.mem_cons_of_mem _ (List.mem_append_right _ h)) (by decide +kernel))) (goodIn_sub (fun _ h => List.mem_cons_of_mem _ (List.mem_append_left _ (List.mem_append_left _ (List.mem_append_right _ h)))) (by decide +kernel))
set_option maxRecDepth 20000 in
theorem gL_sealAhead_X4_sealAhead : GoodIn wsL_sealAhead (wsV RL 76 RX4 yX4_sealAhead wsX4_sealAhead) := goodIn_app (goodIn_of _ (by decide +kernel)) ggL_sealAhead_X4_sealAhead
theorem dL_sealAhead_0 : decode cL_sealAhead 0 = .ok (.aload_n 2, 1) := by decide +kernel
theorem dL_sealAhead_1 : decode cL_sealAhead 1 = .ok (.iconst 0, 1) := by decide +kernel
theorem dL_sealAhead_2 : decode cL_sealAhead 2 = .ok (.aload_n 0, 1) := by decide +kernel
theorem dL_sealAhead_3 : decode cL_sealAhead 3 = .ok (.iload_n 1, 1) := by decide +kernel
theorem dL_sealAhead_4 : decode cL_sealAhead 4 = .ok (.invokevirtual 76, 3) := by decide +kernel
theorem dL_sealAhead_7 : decode cL_sealAhead 7 = .ok (.i2l, 1) := by decide +kernel
theorem dL_sealAhead_8 : decode cL_sealAhead 8 = .ok (.lastore, 1) := by decide +kernel
theorem dL_sealAhead_9 : decode cL_sealAhead 9 = .ok (.goto 9, 3) := by decide +kernel
theorem dL_sealAhead_12 : decode cL_sealAhead 12 = .ok (.astore_n 3, 1) := by decide +kernel
theorem dL_sealAhead_13 : decode cL_sealAhead 13 = .ok (.iconst 1, 1) := by decide +kernel
theorem dL_sealAhead_14 : decode cL_sealAhead 14 = .ok (.ireturn, 1) := by decide +kernel
theorem dL_sealAhead_15 : decode cL_sealAhead 15 = .ok (.astore_n 3, 1) := by decide +kernel
theorem dL_sealAhead_16 : decode cL_sealAhead 16 = .ok (.iconst 2, 1) := by decide +kernel
theorem dL_sealAhead_17 : decode cL_sealAhead 17 = .ok (.ireturn, 1) := by decide +kernel
theorem dL_sealAhead_18 : decode cL_sealAhead 18 = .ok (.iconst 0, 1) := by decide +kernel
theorem dL_sealAhead_19 : decode cL_sealAhead 19 = .ok (.ireturn, 1) := by decide +kernel
set_option maxRecDepth 20000 in
theorem ggL_opens_X4_opens : GoodIn wsL_opens wsX4_opens := goodIn_ca (goodIn_ca (goodIn_r _ [6, 7, 8, 9, 5, 10, 11, 12, 13, 14, 15, 16, 17, 18, 19, 20, 21, 22, 23, 24, 25, 26, 27, 28, 29, 30, 31, 32, 33, 34, 35, 36, 37, 38, 39, 40, 41, 42, 43, 44, 45, 46, 47, 48, 49, 50, 51, 52, 53, 54, 55, 56, 57, 58, 59, 60, 61, 62, 63, 64, 65, 66, 67, 68, 69, 70, 71, 72, 73, 74, 75, 76, 77, 78, 79, 80, 81, 82, 83] (by decide +kernel) (by decide +kernel)) (goodIn_sub (fun _ h => List.mem_cons_of_mem _ (List.mem_append_right _ h)) (by decide +kernel))) (goodIn_sub (fun _ h => List.mem_cons_of_mem _ (List.mem_append_left _ (List.mem_append_right _ h))) (by decide +kernel))
set_option maxRecDepth 20000 in
theorem gL_opens_X4_opens : GoodIn wsL_opens (wsV RL 79 RX4 yX4_opens wsX4_opens) := goodIn_app (goodIn_of _ (by decide +kernel)) ggL_opens_X4_opens
theorem dL_opens_0 : decode cL_opens 0 = .ok (.aload_n 2, 1) := by decide +kernel
theorem dL_opens_1 : decode cL_opens 1 = .ok (.iconst 0, 1) := by decide +kernel
theorem dL_opens_2 : decode cL_opens 2 = .ok (.aload_n 0, 1) := by decide +kernel
theorem dL_opens_3 : decode cL_opens 3 = .ok (.iload_n 1, 1) := by decide +kernel
theorem dL_opens_4 : decode cL_opens 4 = .ok (.invokevirtual 79, 3) := by decide +kernel
theorem dL_opens_7 : decode cL_opens 7 = .ok (.ifCond .eq 7, 3) := by decide +kernel
theorem dL_opens_10 : decode cL_opens 10 = .ok (.lconst 1, 1) := by decide +kernel
theorem dL_opens_11 : decode cL_opens 11 = .ok (.goto 4, 3) := by decide +kernel
theorem dL_opens_14 : decode cL_opens 14 = .ok (.lconst 0, 1) := by decide +kernel
theorem dL_opens_15 : decode cL_opens 15 = .ok (.lastore, 1) := by decide +kernel
theorem dL_opens_16 : decode cL_opens 16 = .ok (.goto 6, 3) := by decide +kernel
theorem dL_opens_19 : decode cL_opens 19 = .ok (.astore_n 3, 1) := by decide +kernel
theorem dL_opens_20 : decode cL_opens 20 = .ok (.iconst 1, 1) := by decide +kernel
theorem dL_opens_21 : decode cL_opens 21 = .ok (.ireturn, 1) := by decide +kernel
theorem dL_opens_22 : decode cL_opens 22 = .ok (.iconst 0, 1) := by decide +kernel
theorem dL_opens_23 : decode cL_opens 23 = .ok (.ireturn, 1) := by decide +kernel
set_option maxRecDepth 20000 in
theorem ggL_isLost_X4_isLost : GoodIn wsL_isLost wsX4_isLost := goodIn_ca (goodIn_ca (goodIn_r _ [6, 7, 8, 9, 10, 11, 5, 12, 13, 14, 15, 16, 17, 18, 19, 20, 21, 22, 23, 24, 25, 26, 27, 28, 29, 30, 31, 32, 33, 34, 35, 36, 37, 38, 39, 40, 41, 42, 43, 44, 45, 46, 47, 48, 49, 50, 51, 52, 53, 54, 55, 56, 57, 58, 59, 60, 61, 62, 63, 64, 65, 66, 67, 68, 69, 70, 71, 72, 73, 74, 75, 76, 77, 78, 79, 80, 81, 82, 83, 84, 85, 86, 87, 88, 89, 90, 91, 92, 93, 94, 95, 96, 97, 98, 99, 100, 101, 102, 103, 104, 105, 106, 107, 108, 109, 110, 111, 112, 113, 114, 115, 116, 117, 118, 119, 120, 121, 122, 123, 124, 125, 126, 127, 128, 129, 130, 131, 132, 133, 134, 135, 136, 137, 138, 139, 140, 141, 142, 143, 144, 145, 146, 147, 148, 149, 150] (by decide +kernel) (by decide +kernel)) (goodIn_sub (fun _ h => List.mem_cons_of_mem _ (List.mem_append_right _ h)) (by decide +kernel))) (goodIn_sub (fun _ h => List.mem_cons_of_mem _ (List.mem_append_left _ (List.mem_append_right _ h))) (by decide +kernel))
set_option maxRecDepth 20000 in
theorem gL_isLost_X4_isLost : GoodIn wsL_isLost (wsV RL 83 RX4 yX4_isLost wsX4_isLost) := goodIn_app (goodIn_of _ (by decide +kernel)) ggL_isLost_X4_isLost
theorem dL_isLost_0 : decode cL_isLost 0 = .ok (.aload_n 2, 1) := by decide +kernel
theorem dL_isLost_1 : decode cL_isLost 1 = .ok (.iconst 0, 1) := by decide +kernel
theorem dL_isLost_2 : decode cL_isLost 2 = .ok (.aload_n 0, 1) := by decide +kernel
theorem dL_isLost_3 : decode cL_isLost 3 = .ok (.iload_n 1, 1) := by decide +kernel
theorem dL_isLost_4 : decode cL_isLost 4 = .ok (.invokevirtual 83, 3) := by decide +kernel
theorem dL_isLost_7 : decode cL_isLost 7 = .ok (.ifCond .eq 7, 3) := by decide +kernel
theorem dL_isLost_10 : decode cL_isLost 10 = .ok (.lconst 1, 1) := by decide +kernel
theorem dL_isLost_11 : decode cL_isLost 11 = .ok (.goto 4, 3) := by decide +kernel
theorem dL_isLost_14 : decode cL_isLost 14 = .ok (.lconst 0, 1) := by decide +kernel
theorem dL_isLost_15 : decode cL_isLost 15 = .ok (.lastore, 1) := by decide +kernel
theorem dL_isLost_16 : decode cL_isLost 16 = .ok (.goto 6, 3) := by decide +kernel
theorem dL_isLost_19 : decode cL_isLost 19 = .ok (.astore_n 3, 1) := by decide +kernel
theorem dL_isLost_20 : decode cL_isLost 20 = .ok (.iconst 1, 1) := by decide +kernel
theorem dL_isLost_21 : decode cL_isLost 21 = .ok (.ireturn, 1) := by decide +kernel
theorem dL_isLost_22 : decode cL_isLost 22 = .ok (.iconst 0, 1) := by decide +kernel
theorem dL_isLost_23 : decode cL_isLost 23 = .ok (.ireturn, 1) := by decide +kernel
set_option maxRecDepth 20000 in
theorem ggL_nextOpen_X4_nextOpen : GoodIn wsL_nextOpen wsX4_nextOpen := goodIn_ca (goodIn_ca (goodIn_r _ [6, 7, 8, 9, 10, 11, 12, 13, 14, 15, 16, 17, 18, 19, 20, 21, 22, 23, 24, 25, 26, 27, 28, 29, 30, 31, 32, 33, 34, 35, 36, 37, 38, 39, 40, 5, 41, 42, 43, 44, 45, 46, 47, 48, 49, 50, 51, 52, 53, 54, 55, 56, 57, 58, 59, 60, 61, 62, 63, 64, 65, 66, 67, 68, 69, 70, 71, 72, 73, 74, 75, 76, 77, 78, 79, 80] (by decide +kernel) (by decide +kernel)) (goodIn_sub (fun _ h => List.mem_cons_of_mem _ (List.mem_append_right _ h)) (by decide +kernel))) (goodIn_sub (fun _ h => List.mem_cons_of_mem _ (List.mem_append_left _ (List.mem_append_right _ h))) (by decide +kernel))
set_option maxRecDepth 20000 in
theorem gL_nextOpen_X4_nextOpen : GoodIn wsL_nextOpen (wsV RL 86 RX4 yX4_nextOpen wsX4_nextOpen) := goodIn_app (goodIn_of _ (by decide +kernel)) ggL_nextOpen_X4_nextOpen
theorem dL_nextOpen_0 : decode cL_nextOpen 0 = .ok (.aload_n 2, 1) := by decide +kernel
theorem dL_nextOpen_1 : decode cL_nextOpen 1 = .ok (.iconst 0, 1) := by decide +kernel
theorem dL_nextOpen_2 : decode cL_nextOpen 2 = .ok (.aload_n 0, 1) := by decide +kernel
theorem dL_nextOpen_3 : decode cL_nextOpen 3 = .ok (.iload_n 1, 1) := by decide +kernel
theorem dL_nextOpen_4 : decode cL_nextOpen 4 = .ok (.invokevirtual 86, 3) := by decide +kernel
theorem dL_nextOpen_7 : decode cL_nextOpen 7 = .ok (.i2l, 1) := by decide +kernel
theorem dL_nextOpen_8 : decode cL_nextOpen 8 = .ok (.lastore, 1) := by decide +kernel
theorem dL_nextOpen_9 : decode cL_nextOpen 9 = .ok (.goto 6, 3) := by decide +kernel
theorem dL_nextOpen_12 : decode cL_nextOpen 12 = .ok (.astore_n 3, 1) := by decide +kernel
theorem dL_nextOpen_13 : decode cL_nextOpen 13 = .ok (.iconst 1, 1) := by decide +kernel
theorem dL_nextOpen_14 : decode cL_nextOpen 14 = .ok (.ireturn, 1) := by decide +kernel
theorem dL_nextOpen_15 : decode cL_nextOpen 15 = .ok (.iconst 0, 1) := by decide +kernel
theorem dL_nextOpen_16 : decode cL_nextOpen 16 = .ok (.ireturn, 1) := by decide +kernel
set_option maxRecDepth 20000 in
theorem ggL_setAgreed_X4_setAgreed : GoodIn wsL_setAgreed wsX4_setAgreed := goodIn_ca (goodIn_ca (goodIn_r _ [6, 7, 8, 9, 10, 11, 5, 12, 13, 14, 15, 16, 17, 18, 19, 20, 21, 22, 23, 24] (by decide +kernel) (by decide +kernel)) (goodIn_sub (fun _ h => List.mem_cons_of_mem _ (List.mem_append_right _ h)) (by decide +kernel))) (goodIn_sub (fun _ h => List.mem_cons_of_mem _ (List.mem_append_left _ (List.mem_append_right _ h))) (by decide +kernel))
set_option maxRecDepth 20000 in
theorem gL_setAgreed_X4_setAgreed : GoodIn wsL_setAgreed (wsV RL 89 RX4 yX4_setAgreed wsX4_setAgreed) := goodIn_app (goodIn_of _ (by decide +kernel)) ggL_setAgreed_X4_setAgreed
theorem dL_setAgreed_0 : decode cL_setAgreed 0 = .ok (.aload_n 3, 1) := by decide +kernel
theorem dL_setAgreed_1 : decode cL_setAgreed 1 = .ok (.iconst 0, 1) := by decide +kernel
theorem dL_setAgreed_2 : decode cL_setAgreed 2 = .ok (.aload_n 0, 1) := by decide +kernel
theorem dL_setAgreed_3 : decode cL_setAgreed 3 = .ok (.iload_n 1, 1) := by decide +kernel
theorem dL_setAgreed_4 : decode cL_setAgreed 4 = .ok (.iload_n 2, 1) := by decide +kernel
theorem dL_setAgreed_5 : decode cL_setAgreed 5 = .ok (.invokevirtual 89, 3) := by decide +kernel
theorem dL_setAgreed_8 : decode cL_setAgreed 8 = .ok (.i2l, 1) := by decide +kernel
theorem dL_setAgreed_9 : decode cL_setAgreed 9 = .ok (.lastore, 1) := by decide +kernel
theorem dL_setAgreed_10 : decode cL_setAgreed 10 = .ok (.goto 7, 3) := by decide +kernel
theorem dL_setAgreed_13 : decode cL_setAgreed 13 = .ok (.astore 4, 2) := by decide +kernel
theorem dL_setAgreed_15 : decode cL_setAgreed 15 = .ok (.iconst 1, 1) := by decide +kernel
theorem dL_setAgreed_16 : decode cL_setAgreed 16 = .ok (.ireturn, 1) := by decide +kernel
theorem dL_setAgreed_17 : decode cL_setAgreed 17 = .ok (.iconst 0, 1) := by decide +kernel
theorem dL_setAgreed_18 : decode cL_setAgreed 18 = .ok (.ireturn, 1) := by decide +kernel
set_option maxRecDepth 20000 in
theorem ggL_recover_X4_recover : GoodIn wsL_recover wsX4_recover := goodIn_ca (goodIn_ca (goodIn_ca (goodIn_ca (goodIn_r _ [8, 9, 10, 11, 12, 13, 14, 15, 16, 17, 18, 19, 7, 20, 21, 22, 23, 24, 25, 26, 27, 28, 29, 30, 31, 32, 33, 34, 35, 36, 37, 38, 39, 40, 41, 42, 43, 44, 45, 46, 47, 48, 49, 50, 51, 52, 53, 54, 55, 56, 57, 58, 59, 60, 61, 62, 63, 64, 65, 66, 67, 68, 69, 70, 71, 72, 73, 74, 75, 76, 77, 78, 79, 80, 81, 82, 83, 84, 85, 86, 87, 88, 89, 90, 91, 92, 93, 94, 95, 96, 97, 98, 99, 100, 101, 102, 103, 104, 105, 106, 107] (by decide +kernel) (by decide +kernel)) (goodIn_sub (fun _ h => List.mem_cons_of_mem _ (List.mem_append_left _ (List.mem_append_left _ (List.mem_append_right _ h)))) (by decide +kernel))) (goodIn_sub (fun _ h => List.mem_cons_of_mem _ (List.mem_append_left _ (List.mem_append_right _ h))) (by decide +kernel))) (goodIn_sub (fun _ h => List.mem_cons_of_mem _ (List.mem_append_right _ h)) (by decide +kernel))) (goodIn_sub (fun _ h => List.mem_cons_of_mem _ (List.mem_append_left _ (List.mem_append_left _ (List.mem_append_left _ (List.mem_append_right _ h))))) (by decide +kernel))
set_option maxRecDepth 20000 in
theorem gL_recover_X4_recover : GoodIn wsL_recover (wsV RL 93 RX4 yX4_recover wsX4_recover) := goodIn_app (goodIn_of _ (by decide +kernel)) ggL_recover_X4_recover
theorem dL_recover_0 : decode cL_recover 0 = .ok (.aload_n 2, 1) := by decide +kernel
theorem dL_recover_1 : decode cL_recover 1 = .ok (.iconst 0, 1) := by decide +kernel
theorem dL_recover_2 : decode cL_recover 2 = .ok (.aload_n 0, 1) := by decide +kernel
theorem dL_recover_3 : decode cL_recover 3 = .ok (.iload_n 1, 1) := by decide +kernel
theorem dL_recover_4 : decode cL_recover 4 = .ok (.invokevirtual 93, 3) := by decide +kernel
theorem dL_recover_7 : decode cL_recover 7 = .ok (.i2l, 1) := by decide +kernel
theorem dL_recover_8 : decode cL_recover 8 = .ok (.lastore, 1) := by decide +kernel
theorem dL_recover_9 : decode cL_recover 9 = .ok (.goto 12, 3) := by decide +kernel
theorem dL_recover_12 : decode cL_recover 12 = .ok (.astore_n 3, 1) := by decide +kernel
theorem dL_recover_13 : decode cL_recover 13 = .ok (.iconst 1, 1) := by decide +kernel
theorem dL_recover_14 : decode cL_recover 14 = .ok (.ireturn, 1) := by decide +kernel
theorem dL_recover_15 : decode cL_recover 15 = .ok (.astore_n 3, 1) := by decide +kernel
theorem dL_recover_16 : decode cL_recover 16 = .ok (.iconst 2, 1) := by decide +kernel
theorem dL_recover_17 : decode cL_recover 17 = .ok (.ireturn, 1) := by decide +kernel
theorem dL_recover_18 : decode cL_recover 18 = .ok (.astore_n 3, 1) := by decide +kernel
theorem dL_recover_19 : decode cL_recover 19 = .ok (.iconst 3, 1) := by decide +kernel
theorem dL_recover_20 : decode cL_recover 20 = .ok (.ireturn, 1) := by decide +kernel
theorem dL_recover_21 : decode cL_recover 21 = .ok (.iconst 0, 1) := by decide +kernel
theorem dL_recover_22 : decode cL_recover 22 = .ok (.ireturn, 1) := by decide +kernel
set_option maxRecDepth 20000 in
theorem ggL_openShare_X4_openShare : GoodIn wsL_openShare wsX4_openShare := goodIn_ca (goodIn_ca (goodIn_r _ [6, 7, 8, 9, 10, 11, 12, 13, 14, 15, 16, 17, 18, 19, 20, 21, 22, 23, 24, 25, 26, 27, 28, 29, 30, 31, 32, 33, 34, 35, 36, 37, 38, 39, 40, 5, 41, 42, 43, 44, 45, 46, 47, 48, 49, 50, 51, 52, 53, 54, 55, 56, 57, 58, 59, 60, 61, 62, 63, 64, 65, 66, 67, 68, 69, 70, 71, 72, 73, 74, 75, 76, 77, 78, 79, 80] (by decide +kernel) (by decide +kernel)) (goodIn_sub (fun _ h => List.mem_cons_of_mem _ (List.mem_append_right _ h)) (by decide +kernel))) (goodIn_sub (fun _ h => List.mem_cons_of_mem _ (List.mem_append_left _ (List.mem_append_right _ h))) (by decide +kernel))
set_option maxRecDepth 20000 in
theorem gL_openShare_X4_openShare : GoodIn wsL_openShare (wsV RL 98 RX4 yX4_openShare wsX4_openShare) := goodIn_app (goodIn_of _ (by decide +kernel)) ggL_openShare_X4_openShare
theorem dL_openShare_0 : decode cL_openShare 0 = .ok (.aload_n 1, 1) := by decide +kernel
theorem dL_openShare_1 : decode cL_openShare 1 = .ok (.iconst 0, 1) := by decide +kernel
theorem dL_openShare_2 : decode cL_openShare 2 = .ok (.aload_n 0, 1) := by decide +kernel
theorem dL_openShare_3 : decode cL_openShare 3 = .ok (.invokevirtual 98, 3) := by decide +kernel
theorem dL_openShare_6 : decode cL_openShare 6 = .ok (.f2d, 1) := by decide +kernel
theorem dL_openShare_7 : decode cL_openShare 7 = .ok (.dastore, 1) := by decide +kernel
theorem dL_openShare_8 : decode cL_openShare 8 = .ok (.goto 6, 3) := by decide +kernel
theorem dL_openShare_11 : decode cL_openShare 11 = .ok (.astore_n 2, 1) := by decide +kernel
theorem dL_openShare_12 : decode cL_openShare 12 = .ok (.iconst 1, 1) := by decide +kernel
theorem dL_openShare_13 : decode cL_openShare 13 = .ok (.ireturn, 1) := by decide +kernel
theorem dL_openShare_14 : decode cL_openShare 14 = .ok (.iconst 0, 1) := by decide +kernel
theorem dL_openShare_15 : decode cL_openShare 15 = .ok (.ireturn, 1) := by decide +kernel
set_option maxRecDepth 20000 in
theorem ggL_meanVersion_X4_meanVersion : GoodIn wsL_meanVersion wsX4_meanVersion := goodIn_ca (goodIn_ca (goodIn_r _ [6, 7, 8, 9, 10, 11, 12, 13, 5, 14, 15, 16, 17, 18, 19, 20, 21, 22, 23, 24, 25, 26, 27, 28, 29, 30, 31] (by decide +kernel) (by decide +kernel)) (goodIn_sub (fun _ h => List.mem_cons_of_mem _ (List.mem_append_right _ h)) (by decide +kernel))) (goodIn_sub (fun _ h => List.mem_cons_of_mem _ (List.mem_append_left _ (List.mem_append_right _ h))) (by decide +kernel))
set_option maxRecDepth 20000 in
theorem gL_meanVersion_X4_meanVersion : GoodIn wsL_meanVersion (wsV RL 104 RX4 yX4_meanVersion wsX4_meanVersion) := goodIn_app (goodIn_of _ (by decide +kernel)) ggL_meanVersion_X4_meanVersion
theorem dL_meanVersion_0 : decode cL_meanVersion 0 = .ok (.aload_n 1, 1) := by decide +kernel
theorem dL_meanVersion_1 : decode cL_meanVersion 1 = .ok (.iconst 0, 1) := by decide +kernel
theorem dL_meanVersion_2 : decode cL_meanVersion 2 = .ok (.aload_n 0, 1) := by decide +kernel
theorem dL_meanVersion_3 : decode cL_meanVersion 3 = .ok (.invokevirtual 104, 3) := by decide +kernel
theorem dL_meanVersion_6 : decode cL_meanVersion 6 = .ok (.dastore, 1) := by decide +kernel
theorem dL_meanVersion_7 : decode cL_meanVersion 7 = .ok (.goto 6, 3) := by decide +kernel
theorem dL_meanVersion_10 : decode cL_meanVersion 10 = .ok (.astore_n 2, 1) := by decide +kernel
theorem dL_meanVersion_11 : decode cL_meanVersion 11 = .ok (.iconst 1, 1) := by decide +kernel
theorem dL_meanVersion_12 : decode cL_meanVersion 12 = .ok (.ireturn, 1) := by decide +kernel
theorem dL_meanVersion_13 : decode cL_meanVersion 13 = .ok (.iconst 0, 1) := by decide +kernel
theorem dL_meanVersion_14 : decode cL_meanVersion 14 = .ok (.ireturn, 1) := by decide +kernel
