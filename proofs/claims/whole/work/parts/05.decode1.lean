theorem dX0_init_0 : decode cX0_init 0 = .ok (.aload_n 0, 1) := by decide +kernel
theorem dX0_init_1 : decode cX0_init 1 = .ok (.invokespecial 1, 3) := by decide +kernel
theorem dX0_init_4 : decode cX0_init 4 = .ok (.aload_n 0, 1) := by decide +kernel
theorem dX0_init_5 : decode cX0_init 5 = .ok (.iload_n 1, 1) := by decide +kernel
theorem dX0_init_6 : decode cX0_init 6 = .ok (.putfield 7, 3) := by decide +kernel
theorem dX0_init_9 : decode cX0_init 9 = .ok (.aload_n 0, 1) := by decide +kernel
theorem dX0_init_10 : decode cX0_init 10 = .ok (.iload_n 2, 1) := by decide +kernel
theorem dX0_init_11 : decode cX0_init 11 = .ok (.putfield 13, 3) := by decide +kernel
theorem dX0_init_14 : decode cX0_init 14 = .ok (.aload_n 0, 1) := by decide +kernel
theorem dX0_init_15 : decode cX0_init 15 = .ok (.iload_n 3, 1) := by decide +kernel
theorem dX0_init_16 : decode cX0_init 16 = .ok (.putfield 16, 3) := by decide +kernel
theorem dX0_init_19 : decode cX0_init 19 = .ok (.aload_n 0, 1) := by decide +kernel
theorem dX0_init_20 : decode cX0_init 20 = .ok (.iconst 0, 1) := by decide +kernel
theorem dX0_init_21 : decode cX0_init 21 = .ok (.putfield 19, 3) := by decide +kernel
theorem dX0_init_24 : decode cX0_init 24 = .ok (.return_, 1) := by decide +kernel
theorem dX1_init_0 : decode cX1_init 0 = .ok (.aload_n 0, 1) := by decide +kernel
theorem dX1_init_1 : decode cX1_init 1 = .ok (.invokespecial 3, 3) := by decide +kernel
theorem dX1_init_4 : decode cX1_init 4 = .ok (.aload_n 0, 1) := by decide +kernel
theorem dX1_init_5 : decode cX1_init 5 = .ok (.iconst 3, 1) := by decide +kernel
theorem dX1_init_6 : decode cX1_init 6 = .ok (.newarray .int, 2) := by decide +kernel
theorem dX1_init_8 : decode cX1_init 8 = .ok (.putfield 9, 3) := by decide +kernel
theorem dX1_init_11 : decode cX1_init 11 = .ok (.aload_n 0, 1) := by decide +kernel
theorem dX1_init_12 : decode cX1_init 12 = .ok (.bipush 12, 2) := by decide +kernel
theorem dX1_init_14 : decode cX1_init 14 = .ok (.newarray .int, 2) := by decide +kernel
theorem dX1_init_16 : decode cX1_init 16 = .ok (.putfield 15, 3) := by decide +kernel
theorem dX1_init_19 : decode cX1_init 19 = .ok (.aload_n 0, 1) := by decide +kernel
theorem dX1_init_20 : decode cX1_init 20 = .ok (.iconst 0, 1) := by decide +kernel
theorem dX1_init_21 : decode cX1_init 21 = .ok (.putfield 18, 3) := by decide +kernel
theorem dX1_init_24 : decode cX1_init 24 = .ok (.aload_n 0, 1) := by decide +kernel
theorem dX1_init_25 : decode cX1_init 25 = .ok (.bipush 6, 2) := by decide +kernel
theorem dX1_init_27 : decode cX1_init 27 = .ok (.newarray .int, 2) := by decide +kernel
theorem dX1_init_29 : decode cX1_init 29 = .ok (.putfield 22, 3) := by decide +kernel
theorem dX1_init_32 : decode cX1_init 32 = .ok (.aload_n 0, 1) := by decide +kernel
theorem dX1_init_33 : decode cX1_init 33 = .ok (.bipush 6, 2) := by decide +kernel
theorem dX1_init_35 : decode cX1_init 35 = .ok (.newarray .int, 2) := by decide +kernel
theorem dX1_init_37 : decode cX1_init 37 = .ok (.putfield 25, 3) := by decide +kernel
theorem dX1_init_40 : decode cX1_init 40 = .ok (.aload_n 0, 1) := by decide +kernel
theorem dX1_init_41 : decode cX1_init 41 = .ok (.iconst 0, 1) := by decide +kernel
theorem dX1_init_42 : decode cX1_init 42 = .ok (.putfield 28, 3) := by decide +kernel
theorem dX1_init_45 : decode cX1_init 45 = .ok (.aload_n 0, 1) := by decide +kernel
theorem dX1_init_46 : decode cX1_init 46 = .ok (.iconst 0, 1) := by decide +kernel
theorem dX1_init_47 : decode cX1_init 47 = .ok (.putfield 31, 3) := by decide +kernel
theorem dX1_init_50 : decode cX1_init 50 = .ok (.return_, 1) := by decide +kernel
set_option maxRecDepth 20000 in
theorem ggX1_clear_J7_fill_53178 : GoodIn wsX1_clear wsJ7_fill_53178 := goodIn_r _ [8] (by decide +kernel) (by decide +kernel)
set_option maxRecDepth 20000 in
theorem gX1_clear_J7_fill_53178 : GoodIn wsX1_clear (va_wsS RX1 34 yJ7_fill_53178 wsJ7_fill_53178) := goodIn_app (goodIn_of _ (by decide +kernel)) ggX1_clear_J7_fill_53178
theorem dX1_clear_0 : decode cX1_clear 0 = .ok (.aload_n 0, 1) := by decide +kernel
theorem dX1_clear_1 : decode cX1_clear 1 = .ok (.getfield 9, 3) := by decide +kernel
theorem dX1_clear_4 : decode cX1_clear 4 = .ok (.iconst 0, 1) := by decide +kernel
theorem dX1_clear_5 : decode cX1_clear 5 = .ok (.invokestatic 34, 3) := by decide +kernel
theorem dX1_clear_8 : decode cX1_clear 8 = .ok (.aload_n 0, 1) := by decide +kernel
theorem dX1_clear_9 : decode cX1_clear 9 = .ok (.iconst 0, 1) := by decide +kernel
theorem dX1_clear_10 : decode cX1_clear 10 = .ok (.putfield 18, 3) := by decide +kernel
theorem dX1_clear_13 : decode cX1_clear 13 = .ok (.aload_n 0, 1) := by decide +kernel
theorem dX1_clear_14 : decode cX1_clear 14 = .ok (.iconst 0, 1) := by decide +kernel
theorem dX1_clear_15 : decode cX1_clear 15 = .ok (.putfield 28, 3) := by decide +kernel
theorem dX1_clear_18 : decode cX1_clear 18 = .ok (.aload_n 0, 1) := by decide +kernel
theorem dX1_clear_19 : decode cX1_clear 19 = .ok (.iconst 0, 1) := by decide +kernel
theorem dX1_clear_20 : decode cX1_clear 20 = .ok (.putfield 31, 3) := by decide +kernel
theorem dX1_clear_23 : decode cX1_clear 23 = .ok (.return_, 1) := by decide +kernel
set_option maxRecDepth 20000 in
theorem ggX1_addMeasure_X4_fold : GoodIn wsX1_addMeasure wsX4_fold := goodIn_r _ [6] (by decide +kernel) (by decide +kernel)
set_option maxRecDepth 20000 in
theorem gX1_addMeasure_X4_fold_n40 : GoodIn wsX1_addMeasure (wsX4_fold) := ggX1_addMeasure_X4_fold
theorem dX1_addMeasure_0 : decode cX1_addMeasure 0 = .ok (.aload_n 0, 1) := by decide +kernel
theorem dX1_addMeasure_1 : decode cX1_addMeasure 1 = .ok (.getfield 9, 3) := by decide +kernel
theorem dX1_addMeasure_4 : decode cX1_addMeasure 4 = .ok (.iload_n 1, 1) := by decide +kernel
theorem dX1_addMeasure_5 : decode cX1_addMeasure 5 = .ok (.aload_n 0, 1) := by decide +kernel
theorem dX1_addMeasure_6 : decode cX1_addMeasure 6 = .ok (.getfield 9, 3) := by decide +kernel
theorem dX1_addMeasure_9 : decode cX1_addMeasure 9 = .ok (.iload_n 1, 1) := by decide +kernel
theorem dX1_addMeasure_10 : decode cX1_addMeasure 10 = .ok (.iaload, 1) := by decide +kernel
theorem dX1_addMeasure_11 : decode cX1_addMeasure 11 = .ok (.iload_n 2, 1) := by decide +kernel
theorem dX1_addMeasure_12 : decode cX1_addMeasure 12 = .ok (.invokestatic 40, 3) := by decide +kernel
theorem dX1_addMeasure_15 : decode cX1_addMeasure 15 = .ok (.iastore, 1) := by decide +kernel
theorem dX1_addMeasure_16 : decode cX1_addMeasure 16 = .ok (.aload_n 0, 1) := by decide +kernel
theorem dX1_addMeasure_17 : decode cX1_addMeasure 17 = .ok (.getfield 18, 3) := by decide +kernel
theorem dX1_addMeasure_20 : decode cX1_addMeasure 20 = .ok (.aload_n 0, 1) := by decide +kernel
theorem dX1_addMeasure_21 : decode cX1_addMeasure 21 = .ok (.getfield 15, 3) := by decide +kernel
theorem dX1_addMeasure_24 : decode cX1_addMeasure 24 = .ok (.arraylength, 1) := by decide +kernel
theorem dX1_addMeasure_25 : decode cX1_addMeasure 25 = .ok (.if_icmp .ge 29, 3) := by decide +kernel
theorem dX1_addMeasure_28 : decode cX1_addMeasure 28 = .ok (.aload_n 0, 1) := by decide +kernel
theorem dX1_addMeasure_29 : decode cX1_addMeasure 29 = .ok (.getfield 15, 3) := by decide +kernel
theorem dX1_addMeasure_32 : decode cX1_addMeasure 32 = .ok (.aload_n 0, 1) := by decide +kernel
theorem dX1_addMeasure_33 : decode cX1_addMeasure 33 = .ok (.getfield 18, 3) := by decide +kernel
theorem dX1_addMeasure_36 : decode cX1_addMeasure 36 = .ok (.sipush 1000, 3) := by decide +kernel
theorem dX1_addMeasure_39 : decode cX1_addMeasure 39 = .ok (.iload_n 1, 1) := by decide +kernel
theorem dX1_addMeasure_40 : decode cX1_addMeasure 40 = .ok (.imul, 1) := by decide +kernel
theorem dX1_addMeasure_41 : decode cX1_addMeasure 41 = .ok (.iload_n 2, 1) := by decide +kernel
theorem dX1_addMeasure_42 : decode cX1_addMeasure 42 = .ok (.iadd, 1) := by decide +kernel
theorem dX1_addMeasure_43 : decode cX1_addMeasure 43 = .ok (.iastore, 1) := by decide +kernel
theorem dX1_addMeasure_44 : decode cX1_addMeasure 44 = .ok (.aload_n 0, 1) := by decide +kernel
theorem dX1_addMeasure_45 : decode cX1_addMeasure 45 = .ok (.dup, 1) := by decide +kernel
theorem dX1_addMeasure_46 : decode cX1_addMeasure 46 = .ok (.getfield 18, 3) := by decide +kernel
theorem dX1_addMeasure_49 : decode cX1_addMeasure 49 = .ok (.iconst 1, 1) := by decide +kernel
theorem dX1_addMeasure_50 : decode cX1_addMeasure 50 = .ok (.iadd, 1) := by decide +kernel
theorem dX1_addMeasure_51 : decode cX1_addMeasure 51 = .ok (.putfield 18, 3) := by decide +kernel
theorem dX1_addMeasure_54 : decode cX1_addMeasure 54 = .ok (.return_, 1) := by decide +kernel
theorem dX1_addRun_0 : decode cX1_addRun 0 = .ok (.aload_n 0, 1) := by decide +kernel
theorem dX1_addRun_1 : decode cX1_addRun 1 = .ok (.getfield 28, 3) := by decide +kernel
theorem dX1_addRun_4 : decode cX1_addRun 4 = .ok (.aload_n 0, 1) := by decide +kernel
theorem dX1_addRun_5 : decode cX1_addRun 5 = .ok (.getfield 22, 3) := by decide +kernel
theorem dX1_addRun_8 : decode cX1_addRun 8 = .ok (.arraylength, 1) := by decide +kernel
theorem dX1_addRun_9 : decode cX1_addRun 9 = .ok (.if_icmp .ge 33, 3) := by decide +kernel
theorem dX1_addRun_12 : decode cX1_addRun 12 = .ok (.aload_n 0, 1) := by decide +kernel
theorem dX1_addRun_13 : decode cX1_addRun 13 = .ok (.getfield 22, 3) := by decide +kernel
theorem dX1_addRun_16 : decode cX1_addRun 16 = .ok (.aload_n 0, 1) := by decide +kernel
theorem dX1_addRun_17 : decode cX1_addRun 17 = .ok (.getfield 28, 3) := by decide +kernel
theorem dX1_addRun_20 : decode cX1_addRun 20 = .ok (.iload_n 1, 1) := by decide +kernel
theorem dX1_addRun_21 : decode cX1_addRun 21 = .ok (.iastore, 1) := by decide +kernel
theorem dX1_addRun_22 : decode cX1_addRun 22 = .ok (.aload_n 0, 1) := by decide +kernel
theorem dX1_addRun_23 : decode cX1_addRun 23 = .ok (.getfield 25, 3) := by decide +kernel
theorem dX1_addRun_26 : decode cX1_addRun 26 = .ok (.aload_n 0, 1) := by decide +kernel
theorem dX1_addRun_27 : decode cX1_addRun 27 = .ok (.getfield 28, 3) := by decide +kernel
theorem dX1_addRun_30 : decode cX1_addRun 30 = .ok (.iload_n 2, 1) := by decide +kernel
theorem dX1_addRun_31 : decode cX1_addRun 31 = .ok (.iastore, 1) := by decide +kernel
theorem dX1_addRun_32 : decode cX1_addRun 32 = .ok (.aload_n 0, 1) := by decide +kernel
theorem dX1_addRun_33 : decode cX1_addRun 33 = .ok (.dup, 1) := by decide +kernel
theorem dX1_addRun_34 : decode cX1_addRun 34 = .ok (.getfield 28, 3) := by decide +kernel
theorem dX1_addRun_37 : decode cX1_addRun 37 = .ok (.iconst 1, 1) := by decide +kernel
theorem dX1_addRun_38 : decode cX1_addRun 38 = .ok (.iadd, 1) := by decide +kernel
theorem dX1_addRun_39 : decode cX1_addRun 39 = .ok (.putfield 28, 3) := by decide +kernel
theorem dX1_addRun_42 : decode cX1_addRun 42 = .ok (.iload_n 3, 1) := by decide +kernel
theorem dX1_addRun_43 : decode cX1_addRun 43 = .ok (.ifCond .eq 13, 3) := by decide +kernel
theorem dX1_addRun_46 : decode cX1_addRun 46 = .ok (.aload_n 0, 1) := by decide +kernel
theorem dX1_addRun_47 : decode cX1_addRun 47 = .ok (.dup, 1) := by decide +kernel
theorem dX1_addRun_48 : decode cX1_addRun 48 = .ok (.getfield 31, 3) := by decide +kernel
theorem dX1_addRun_51 : decode cX1_addRun 51 = .ok (.iconst 1, 1) := by decide +kernel
theorem dX1_addRun_52 : decode cX1_addRun 52 = .ok (.iadd, 1) := by decide +kernel
theorem dX1_addRun_53 : decode cX1_addRun 53 = .ok (.putfield 31, 3) := by decide +kernel
theorem dX1_addRun_56 : decode cX1_addRun 56 = .ok (.return_, 1) := by decide +kernel
theorem dX2_init_0 : decode cX2_init 0 = .ok (.aload_n 0, 1) := by decide +kernel
theorem dX2_init_1 : decode cX2_init 1 = .ok (.invokespecial 3, 3) := by decide +kernel
theorem dX2_init_4 : decode cX2_init 4 = .ok (.aload_n 0, 1) := by decide +kernel
theorem dX2_init_5 : decode cX2_init 5 = .ok (.iload_n 1, 1) := by decide +kernel
theorem dX2_init_6 : decode cX2_init 6 = .ok (.putfield 9, 3) := by decide +kernel
theorem dX2_init_9 : decode cX2_init 9 = .ok (.aload_n 0, 1) := by decide +kernel
theorem dX2_init_10 : decode cX2_init 10 = .ok (.iload_n 2, 1) := by decide +kernel
theorem dX2_init_11 : decode cX2_init 11 = .ok (.putfield 15, 3) := by decide +kernel
theorem dX2_init_14 : decode cX2_init 14 = .ok (.aload_n 0, 1) := by decide +kernel
theorem dX2_init_15 : decode cX2_init 15 = .ok (.iconst 3, 1) := by decide +kernel
theorem dX2_init_16 : decode cX2_init 16 = .ok (.newarray .int, 2) := by decide +kernel
theorem dX2_init_18 : decode cX2_init 18 = .ok (.putfield 18, 3) := by decide +kernel
theorem dX2_init_21 : decode cX2_init 21 = .ok (.return_, 1) := by decide +kernel
theorem dX2_isSealedTo_0 : decode cX2_isSealedTo 0 = .ok (.aload_n 0, 1) := by decide +kernel
theorem dX2_isSealedTo_1 : decode cX2_isSealedTo 1 = .ok (.getfield 9, 3) := by decide +kernel
theorem dX2_isSealedTo_4 : decode cX2_isSealedTo 4 = .ok (.iload_n 1, 1) := by decide +kernel
theorem dX2_isSealedTo_5 : decode cX2_isSealedTo 5 = .ok (.ishr, 1) := by decide +kernel
theorem dX2_isSealedTo_6 : decode cX2_isSealedTo 6 = .ok (.iconst 1, 1) := by decide +kernel
theorem dX2_isSealedTo_7 : decode cX2_isSealedTo 7 = .ok (.iand, 1) := by decide +kernel
theorem dX2_isSealedTo_8 : decode cX2_isSealedTo 8 = .ok (.iconst 1, 1) := by decide +kernel
theorem dX2_isSealedTo_9 : decode cX2_isSealedTo 9 = .ok (.if_icmp .ne 7, 3) := by decide +kernel
theorem dX2_isSealedTo_12 : decode cX2_isSealedTo 12 = .ok (.iconst 1, 1) := by decide +kernel
theorem dX2_isSealedTo_13 : decode cX2_isSealedTo 13 = .ok (.goto 4, 3) := by decide +kernel
theorem dX2_isSealedTo_16 : decode cX2_isSealedTo 16 = .ok (.iconst 0, 1) := by decide +kernel
theorem dX2_isSealedTo_17 : decode cX2_isSealedTo 17 = .ok (.ireturn, 1) := by decide +kernel
set_option maxRecDepth 20000 in
theorem ggX2_fits_X2_countOther : GoodIn wsX2_fits wsX2_countOther := goodIn_ca (goodIn_r _ [5, 6, 7, 8, 9, 4, 10, 11, 12, 13, 14] (by decide +kernel) (by decide +kernel)) (goodIn_sub (fun _ h => List.mem_cons_of_mem _ (List.mem_append_right _ h)) (by decide +kernel))
set_option maxRecDepth 20000 in
theorem gX2_fits_X2_countOther : GoodIn wsX2_fits (wsV RX2 22 RX2 yX2_countOther wsX2_countOther) := goodIn_app (goodIn_of _ (by decide +kernel)) ggX2_fits_X2_countOther
theorem dX2_fits_0 : decode cX2_fits 0 = .ok (.aload_n 0, 1) := by decide +kernel
theorem dX2_fits_1 : decode cX2_fits 1 = .ok (.aload_n 1, 1) := by decide +kernel
theorem dX2_fits_2 : decode cX2_fits 2 = .ok (.invokevirtual 22, 3) := by decide +kernel
theorem dX2_fits_5 : decode cX2_fits 5 = .ok (.ifCond .ne 7, 3) := by decide +kernel
theorem dX2_fits_8 : decode cX2_fits 8 = .ok (.iconst 1, 1) := by decide +kernel
theorem dX2_fits_9 : decode cX2_fits 9 = .ok (.goto 4, 3) := by decide +kernel
theorem dX2_fits_12 : decode cX2_fits 12 = .ok (.iconst 0, 1) := by decide +kernel
theorem dX2_fits_13 : decode cX2_fits 13 = .ok (.ireturn, 1) := by decide +kernel
set_option maxRecDepth 20000 in
theorem ggX2_bindTo_X2_countOther : GoodIn wsX2_bindTo wsX2_countOther := goodIn_ca (goodIn_r _ [10, 1, 11, 12, 13, 9, 14, 15, 16, 17, 18] (by decide +kernel) (by decide +kernel)) (goodIn_sub (fun _ h => List.mem_cons_of_mem _ (List.mem_append_right _ h)) (by decide +kernel))
set_option maxRecDepth 20000 in
theorem gX2_bindTo_X2_countOther : GoodIn wsX2_bindTo (wsV RX2 22 RX2 yX2_countOther wsX2_countOther) := goodIn_app (goodIn_of _ (by decide +kernel)) ggX2_bindTo_X2_countOther
theorem dX2_bindTo_0 : decode cX2_bindTo 0 = .ok (.aload_n 0, 1) := by decide +kernel
theorem dX2_bindTo_1 : decode cX2_bindTo 1 = .ok (.aload_n 1, 1) := by decide +kernel
theorem dX2_bindTo_2 : decode cX2_bindTo 2 = .ok (.invokevirtual 22, 3) := by decide +kernel
theorem dX2_bindTo_5 : decode cX2_bindTo 5 = .ok (.istore_n 2, 1) := by decide +kernel
theorem dX2_bindTo_6 : decode cX2_bindTo 6 = .ok (.aload_n 1, 1) := by decide +kernel
theorem dX2_bindTo_7 : decode cX2_bindTo 7 = .ok (.iconst 0, 1) := by decide +kernel
theorem dX2_bindTo_8 : decode cX2_bindTo 8 = .ok (.aload_n 0, 1) := by decide +kernel
theorem dX2_bindTo_9 : decode cX2_bindTo 9 = .ok (.getfield 18, 3) := by decide +kernel
theorem dX2_bindTo_12 : decode cX2_bindTo 12 = .ok (.iconst 0, 1) := by decide +kernel
theorem dX2_bindTo_13 : decode cX2_bindTo 13 = .ok (.iconst 3, 1) := by decide +kernel
theorem dX2_bindTo_14 : decode cX2_bindTo 14 = .ok (.invokestatic 26, 3) := by decide +kernel
theorem dX2_bindTo_17 : decode cX2_bindTo 17 = .ok (.iload_n 2, 1) := by decide +kernel
theorem dX2_bindTo_18 : decode cX2_bindTo 18 = .ok (.ireturn, 1) := by decide +kernel
set_option maxRecDepth 20000 in
theorem ggX2_countOther_X2_isSealedTo : GoodIn wsX2_countOther wsX2_isSealedTo := goodIn_r _ [6, 7, 8, 9, 10] (by decide +kernel) (by decide +kernel)
set_option maxRecDepth 20000 in
theorem gX2_countOther_X2_isSealedTo : GoodIn wsX2_countOther (wsV RX2 32 RX2 yX2_isSealedTo wsX2_isSealedTo) := goodIn_app (goodIn_of _ (by decide +kernel)) ggX2_countOther_X2_isSealedTo
theorem dX2_countOther_0 : decode cX2_countOther 0 = .ok (.iconst 0, 1) := by decide +kernel
theorem dX2_countOther_1 : decode cX2_countOther 1 = .ok (.istore_n 2, 1) := by decide +kernel
theorem dX2_countOther_2 : decode cX2_countOther 2 = .ok (.iconst 0, 1) := by decide +kernel
theorem dX2_countOther_3 : decode cX2_countOther 3 = .ok (.istore_n 3, 1) := by decide +kernel
theorem dX2_countOther_4 : decode cX2_countOther 4 = .ok (.iload_n 3, 1) := by decide +kernel
theorem dX2_countOther_5 : decode cX2_countOther 5 = .ok (.iconst 3, 1) := by decide +kernel
theorem dX2_countOther_6 : decode cX2_countOther 6 = .ok (.if_icmp .ge 32, 3) := by decide +kernel
theorem dX2_countOther_9 : decode cX2_countOther 9 = .ok (.aload_n 0, 1) := by decide +kernel
theorem dX2_countOther_10 : decode cX2_countOther 10 = .ok (.iload_n 3, 1) := by decide +kernel
theorem dX2_countOther_11 : decode cX2_countOther 11 = .ok (.invokevirtual 32, 3) := by decide +kernel
theorem dX2_countOther_14 : decode cX2_countOther 14 = .ok (.ifCond .eq 18, 3) := by decide +kernel
theorem dX2_countOther_17 : decode cX2_countOther 17 = .ok (.aload_n 0, 1) := by decide +kernel
theorem dX2_countOther_18 : decode cX2_countOther 18 = .ok (.getfield 18, 3) := by decide +kernel
theorem dX2_countOther_21 : decode cX2_countOther 21 = .ok (.iload_n 3, 1) := by decide +kernel
theorem dX2_countOther_22 : decode cX2_countOther 22 = .ok (.iaload, 1) := by decide +kernel
theorem dX2_countOther_23 : decode cX2_countOther 23 = .ok (.aload_n 1, 1) := by decide +kernel
theorem dX2_countOther_24 : decode cX2_countOther 24 = .ok (.iload_n 3, 1) := by decide +kernel
theorem dX2_countOther_25 : decode cX2_countOther 25 = .ok (.iaload, 1) := by decide +kernel
theorem dX2_countOther_26 : decode cX2_countOther 26 = .ok (.if_icmp .eq 6, 3) := by decide +kernel
theorem dX2_countOther_29 : decode cX2_countOther 29 = .ok (.iinc 2 1, 3) := by decide +kernel
theorem dX2_countOther_32 : decode cX2_countOther 32 = .ok (.iinc 3 1, 3) := by decide +kernel
theorem dX2_countOther_35 : decode cX2_countOther 35 = .ok (.goto (-31), 3) := by decide +kernel
theorem dX2_countOther_38 : decode cX2_countOther 38 = .ok (.iload_n 2, 1) := by decide +kernel
theorem dX2_countOther_39 : decode cX2_countOther 39 = .ok (.ireturn, 1) := by decide +kernel
theorem dX3_init_0 : decode cX3_init 0 = .ok (.aload_n 0, 1) := by decide +kernel
theorem dX3_init_1 : decode cX3_init 1 = .ok (.invokespecial 3, 3) := by decide +kernel
theorem dX3_init_4 : decode cX3_init 4 = .ok (.aload_n 0, 1) := by decide +kernel
theorem dX3_init_5 : decode cX3_init 5 = .ok (.iload_n 1, 1) := by decide +kernel
theorem dX3_init_6 : decode cX3_init 6 = .ok (.putfield 9, 3) := by decide +kernel
theorem dX3_init_9 : decode cX3_init 9 = .ok (.aload_n 0, 1) := by decide +kernel
theorem dX3_init_10 : decode cX3_init 10 = .ok (.iconst 2, 1) := by decide +kernel
theorem dX3_init_11 : decode cX3_init 11 = .ok (.anewarray 15, 3) := by decide +kernel
theorem dX3_init_14 : decode cX3_init 14 = .ok (.putfield 17, 3) := by decide +kernel
theorem dX3_init_17 : decode cX3_init 17 = .ok (.aload_n 0, 1) := by decide +kernel
theorem dX3_init_18 : decode cX3_init 18 = .ok (.iconst 0, 1) := by decide +kernel
theorem dX3_init_19 : decode cX3_init 19 = .ok (.putfield 21, 3) := by decide +kernel
theorem dX3_init_22 : decode cX3_init 22 = .ok (.aload_n 0, 1) := by decide +kernel
theorem dX3_init_23 : decode cX3_init 23 = .ok (.iconst 0, 1) := by decide +kernel
theorem dX3_init_24 : decode cX3_init 24 = .ok (.putfield 24, 3) := by decide +kernel
theorem dX3_init_27 : decode cX3_init 27 = .ok (.return_, 1) := by decide +kernel
theorem dX3_spare_0 : decode cX3_spare 0 = .ok (.aload_n 0, 1) := by decide +kernel
theorem dX3_spare_1 : decode cX3_spare 1 = .ok (.getfield 21, 3) := by decide +kernel
theorem dX3_spare_4 : decode cX3_spare 4 = .ok (.ifCond .ne 7, 3) := by decide +kernel
theorem dX3_spare_7 : decode cX3_spare 7 = .ok (.iconst 1, 1) := by decide +kernel
theorem dX3_spare_8 : decode cX3_spare 8 = .ok (.goto 4, 3) := by decide +kernel
theorem dX3_spare_11 : decode cX3_spare 11 = .ok (.iconst 0, 1) := by decide +kernel
theorem dX3_spare_12 : decode cX3_spare 12 = .ok (.ireturn, 1) := by decide +kernel
set_option maxRecDepth 20000 in
theorem ggX3_put_X3_spare : GoodIn wsX3_put wsX3_spare := goodIn_r _ [7, 2, 8, 9, 10, 11] (by decide +kernel) (by decide +kernel)
set_option maxRecDepth 20000 in
theorem gX3_put_X3_spare : GoodIn wsX3_put (wsV RX3 27 RX3 yX3_spare wsX3_spare) := goodIn_app (goodIn_of _ (by decide +kernel)) ggX3_put_X3_spare
theorem dX3_put_0 : decode cX3_put 0 = .ok (.aload_n 0, 1) := by decide +kernel
theorem dX3_put_1 : decode cX3_put 1 = .ok (.getfield 17, 3) := by decide +kernel
theorem dX3_put_4 : decode cX3_put 4 = .ok (.aload_n 0, 1) := by decide +kernel
theorem dX3_put_5 : decode cX3_put 5 = .ok (.getfield 21, 3) := by decide +kernel
theorem dX3_put_8 : decode cX3_put 8 = .ok (.aaload, 1) := by decide +kernel
theorem dX3_put_9 : decode cX3_put 9 = .ok (.ifnull 11, 3) := by decide +kernel
theorem dX3_put_12 : decode cX3_put 12 = .ok (.aload_n 0, 1) := by decide +kernel
theorem dX3_put_13 : decode cX3_put 13 = .ok (.aload_n 0, 1) := by decide +kernel
theorem dX3_put_14 : decode cX3_put 14 = .ok (.invokevirtual 27, 3) := by decide +kernel
theorem dX3_put_17 : decode cX3_put 17 = .ok (.putfield 21, 3) := by decide +kernel
theorem dX3_put_20 : decode cX3_put 20 = .ok (.aload_n 0, 1) := by decide +kernel
theorem dX3_put_21 : decode cX3_put 21 = .ok (.getfield 17, 3) := by decide +kernel
theorem dX3_put_24 : decode cX3_put 24 = .ok (.aload_n 0, 1) := by decide +kernel
theorem dX3_put_25 : decode cX3_put 25 = .ok (.getfield 21, 3) := by decide +kernel
theorem dX3_put_28 : decode cX3_put 28 = .ok (.aload_n 1, 1) := by decide +kernel
theorem dX3_put_29 : decode cX3_put 29 = .ok (.aastore, 1) := by decide +kernel
theorem dX3_put_30 : decode cX3_put 30 = .ok (.aload_n 0, 1) := by decide +kernel
theorem dX3_put_31 : decode cX3_put 31 = .ok (.getfield 21, 3) := by decide +kernel
theorem dX3_put_34 : decode cX3_put 34 = .ok (.ireturn, 1) := by decide +kernel
set_option maxRecDepth 20000 in
theorem ggX4_init_Jx4a65c_init_da8c8 : GoodIn wsX4_init wsJx4a65c_init_da8c8 := goodIn_r _ [21, 22, 23, 24, 25, 26, 27, 28, 29, 30, 31, 32, 33, 2, 3, 54, 55, 56] (by decide +kernel) (by decide +kernel)
set_option maxRecDepth 20000 in
theorem gX4_init_Jx4a65c_init_da8c8 : GoodIn wsX4_init (wsJx4a65c_init_da8c8) := ggX4_init_Jx4a65c_init_da8c8
set_option maxRecDepth 20000 in
theorem ggX4_init_X1_init : GoodIn wsX4_init wsX1_init := goodIn_r _ [36, 37, 2, 3, 38, 39, 40, 41, 42, 43, 44, 45, 57, 58, 59, 60, 61, 62, 63] (by decide +kernel) (by decide +kernel)
set_option maxRecDepth 20000 in
theorem gX4_init_X1_init : GoodIn wsX4_init (wsX1_init) := ggX4_init_X1_init
theorem dX4_init_0 : decode cX4_init 0 = .ok (.aload_n 0, 1) := by decide +kernel
theorem dX4_init_1 : decode cX4_init 1 = .ok (.invokespecial 1, 3) := by decide +kernel
theorem dX4_init_4 : decode cX4_init 4 = .ok (.aload_n 0, 1) := by decide +kernel
theorem dX4_init_5 : decode cX4_init 5 = .ok (.bipush 10, 2) := by decide +kernel
theorem dX4_init_7 : decode cX4_init 7 = .ok (.newarray .boolean, 2) := by decide +kernel
theorem dX4_init_9 : decode cX4_init 9 = .ok (.putfield 9, 3) := by decide +kernel
theorem dX4_init_12 : decode cX4_init 12 = .ok (.aload_n 0, 1) := by decide +kernel
theorem dX4_init_13 : decode cX4_init 13 = .ok (.new 13, 3) := by decide +kernel
theorem dX4_init_16 : decode cX4_init 16 = .ok (.dup, 1) := by decide +kernel
theorem dX4_init_17 : decode cX4_init 17 = .ok (.invokespecial 15, 3) := by decide +kernel
theorem dX4_init_20 : decode cX4_init 20 = .ok (.putfield 16, 3) := by decide +kernel
theorem dX4_init_23 : decode cX4_init 23 = .ok (.aload_n 0, 1) := by decide +kernel
theorem dX4_init_24 : decode cX4_init 24 = .ok (.new 13, 3) := by decide +kernel
theorem dX4_init_27 : decode cX4_init 27 = .ok (.dup, 1) := by decide +kernel
theorem dX4_init_28 : decode cX4_init 28 = .ok (.invokespecial 15, 3) := by decide +kernel
theorem dX4_init_31 : decode cX4_init 31 = .ok (.putfield 20, 3) := by decide +kernel
theorem dX4_init_34 : decode cX4_init 34 = .ok (.aload_n 0, 1) := by decide +kernel
theorem dX4_init_35 : decode cX4_init 35 = .ok (.iconst 5, 1) := by decide +kernel
theorem dX4_init_36 : decode cX4_init 36 = .ok (.newarray .boolean, 2) := by decide +kernel
theorem dX4_init_38 : decode cX4_init 38 = .ok (.putfield 23, 3) := by decide +kernel
theorem dX4_init_41 : decode cX4_init 41 = .ok (.aload_n 0, 1) := by decide +kernel
theorem dX4_init_42 : decode cX4_init 42 = .ok (.new 26, 3) := by decide +kernel
theorem dX4_init_45 : decode cX4_init 45 = .ok (.dup, 1) := by decide +kernel
theorem dX4_init_46 : decode cX4_init 46 = .ok (.invokespecial 28, 3) := by decide +kernel
theorem dX4_init_49 : decode cX4_init 49 = .ok (.putfield 29, 3) := by decide +kernel
theorem dX4_init_52 : decode cX4_init 52 = .ok (.aload_n 0, 1) := by decide +kernel
theorem dX4_init_53 : decode cX4_init 53 = .ok (.new 26, 3) := by decide +kernel
theorem dX4_init_56 : decode cX4_init 56 = .ok (.dup, 1) := by decide +kernel
theorem dX4_init_57 : decode cX4_init 57 = .ok (.invokespecial 28, 3) := by decide +kernel
theorem dX4_init_60 : decode cX4_init 60 = .ok (.putfield 33, 3) := by decide +kernel
theorem dX4_init_63 : decode cX4_init 63 = .ok (.aload_n 0, 1) := by decide +kernel
theorem dX4_init_64 : decode cX4_init 64 = .ok (.bipush 111, 2) := by decide +kernel
theorem dX4_init_66 : decode cX4_init 66 = .ok (.putfield 36, 3) := by decide +kernel
theorem dX4_init_69 : decode cX4_init 69 = .ok (.aload_n 0, 1) := by decide +kernel
theorem dX4_init_70 : decode cX4_init 70 = .ok (.iconst 0, 1) := by decide +kernel
theorem dX4_init_71 : decode cX4_init 71 = .ok (.putfield 40, 3) := by decide +kernel
theorem dX4_init_74 : decode cX4_init 74 = .ok (.return_, 1) := by decide +kernel
set_option maxRecDepth 20000 in
theorem ggX4_setTrusted_X4_isWithin : GoodIn wsX4_setTrusted wsX4_isWithin := goodIn_r _ [7] (by decide +kernel) (by decide +kernel)
set_option maxRecDepth 20000 in
theorem gX4_setTrusted_X4_isWithin : GoodIn wsX4_setTrusted (va_wsS RX4 44 yX4_isWithin wsX4_isWithin) := goodIn_app (goodIn_of _ (by decide +kernel)) ggX4_setTrusted_X4_isWithin
theorem dX4_setTrusted_0 : decode cX4_setTrusted 0 = .ok (.iload_n 1, 1) := by decide +kernel
theorem dX4_setTrusted_1 : decode cX4_setTrusted 1 = .ok (.iconst 1, 1) := by decide +kernel
theorem dX4_setTrusted_2 : decode cX4_setTrusted 2 = .ok (.bipush 9, 2) := by decide +kernel
theorem dX4_setTrusted_4 : decode cX4_setTrusted 4 = .ok (.invokestatic 44, 3) := by decide +kernel
theorem dX4_setTrusted_7 : decode cX4_setTrusted 7 = .ok (.ifCond .ne 13, 3) := by decide +kernel
theorem dX4_setTrusted_10 : decode cX4_setTrusted 10 = .ok (.new 48, 3) := by decide +kernel
theorem dX4_setTrusted_13 : decode cX4_setTrusted 13 = .ok (.dup, 1) := by decide +kernel
theorem dX4_setTrusted_14 : decode cX4_setTrusted 14 = .ok (.ldc 50, 2) := by decide +kernel
theorem dX4_setTrusted_16 : decode cX4_setTrusted 16 = .ok (.invokespecial 52, 3) := by decide +kernel
theorem dX4_setTrusted_19 : decode cX4_setTrusted 19 = .ok (.athrow, 1) := by decide +kernel
theorem dX4_setTrusted_20 : decode cX4_setTrusted 20 = .ok (.aload_n 0, 1) := by decide +kernel
theorem dX4_setTrusted_21 : decode cX4_setTrusted 21 = .ok (.getfield 9, 3) := by decide +kernel
theorem dX4_setTrusted_24 : decode cX4_setTrusted 24 = .ok (.iload_n 1, 1) := by decide +kernel
theorem dX4_setTrusted_25 : decode cX4_setTrusted 25 = .ok (.baload, 1) := by decide +kernel
theorem dX4_setTrusted_26 : decode cX4_setTrusted 26 = .ok (.istore_n 3, 1) := by decide +kernel
theorem dX4_setTrusted_27 : decode cX4_setTrusted 27 = .ok (.aload_n 0, 1) := by decide +kernel
theorem dX4_setTrusted_28 : decode cX4_setTrusted 28 = .ok (.getfield 9, 3) := by decide +kernel
theorem dX4_setTrusted_31 : decode cX4_setTrusted 31 = .ok (.iload_n 1, 1) := by decide +kernel
theorem dX4_setTrusted_32 : decode cX4_setTrusted 32 = .ok (.iload_n 2, 1) := by decide +kernel
theorem dX4_setTrusted_33 : decode cX4_setTrusted 33 = .ok (.bastore, 1) := by decide +kernel
theorem dX4_setTrusted_34 : decode cX4_setTrusted 34 = .ok (.iload_n 3, 1) := by decide +kernel
theorem dX4_setTrusted_35 : decode cX4_setTrusted 35 = .ok (.ireturn, 1) := by decide +kernel
set_option maxRecDepth 20000 in
theorem ggX4_addStage_X4_isRegister : GoodIn wsX4_addStage wsX4_isRegister := goodIn_r _ [13, 14, 15, 12, 16] (by decide +kernel) (by decide +kernel)
set_option maxRecDepth 20000 in
theorem gX4_addStage_X4_isRegister : GoodIn wsX4_addStage (va_wsS RX4 55 yX4_isRegister wsX4_isRegister) := goodIn_app (goodIn_of _ (by decide +kernel)) ggX4_addStage_X4_isRegister
set_option maxRecDepth 20000 in
theorem ggX4_addStage_Jx4a65c_size_8abf5 : GoodIn wsX4_addStage wsJx4a65c_size_8abf5 := goodIn_r _ [21, 22, 100, 101, 102] (by decide +kernel) (by decide +kernel)
set_option maxRecDepth 20000 in
theorem gX4_addStage_Jx4a65c_size_8abf5 : GoodIn wsX4_addStage (wsV RX4 61 RJx4a65c yJx4a65c_size_8abf5 wsJx4a65c_size_8abf5) := goodIn_app (goodIn_of _ (by decide +kernel)) ggX4_addStage_Jx4a65c_size_8abf5
set_option maxRecDepth 20000 in
theorem ggX4_addStage_X3_init : GoodIn wsX4_addStage wsX3_init := goodIn_r _ [25, 26, 27, 28, 29, 30, 31, 32, 33, 96, 97, 98, 99] (by decide +kernel) (by decide +kernel)
set_option maxRecDepth 20000 in
theorem gX4_addStage_X3_init : GoodIn wsX4_addStage (wsX3_init) := ggX4_addStage_X3_init
set_option maxRecDepth 20000 in
theorem ggX4_addStage_Jx4a65c_add_9ea2d : GoodIn wsX4_addStage wsJx4a65c_add_9ea2d := goodIn_r _ [37, 38, 39, 40, 22, 41, 42, 43, 20, 44, 45, 46, 47, 48, 49, 50, 51, 52, 53, 54, 55, 56, 57, 58, 59, 60, 61, 62, 63, 64, 65, 66, 67, 68, 69, 70, 71, 72, 73, 74, 75, 76, 77, 78, 79, 80, 81, 82, 83, 84, 85, 86, 87, 100, 101, 102] (by decide +kernel) (by decide +kernel)
set_option maxRecDepth 20000 in
theorem gX4_addStage_Jx4a65c_add_9ea2d : GoodIn wsX4_addStage (wsV RX4 75 RJx4a65c yJx4a65c_add_9ea2d wsJx4a65c_add_9ea2d) := goodIn_app (goodIn_of _ (by decide +kernel)) ggX4_addStage_Jx4a65c_add_9ea2d
theorem dX4_addStage_0 : decode cX4_addStage 0 = .ok (.iload_n 1, 1) := by decide +kernel
theorem dX4_addStage_1 : decode cX4_addStage 1 = .ok (.invokestatic 55, 3) := by decide +kernel
theorem dX4_addStage_4 : decode cX4_addStage 4 = .ok (.ifCond .ne 13, 3) := by decide +kernel
theorem dX4_addStage_7 : decode cX4_addStage 7 = .ok (.new 48, 3) := by decide +kernel
theorem dX4_addStage_10 : decode cX4_addStage 10 = .ok (.dup, 1) := by decide +kernel
theorem dX4_addStage_11 : decode cX4_addStage 11 = .ok (.ldc 59, 2) := by decide +kernel
theorem dX4_addStage_13 : decode cX4_addStage 13 = .ok (.invokespecial 52, 3) := by decide +kernel
theorem dX4_addStage_16 : decode cX4_addStage 16 = .ok (.athrow, 1) := by decide +kernel
theorem dX4_addStage_17 : decode cX4_addStage 17 = .ok (.aload_n 0, 1) := by decide +kernel
theorem dX4_addStage_18 : decode cX4_addStage 18 = .ok (.getfield 16, 3) := by decide +kernel
theorem dX4_addStage_21 : decode cX4_addStage 21 = .ok (.invokevirtual 61, 3) := by decide +kernel
theorem dX4_addStage_24 : decode cX4_addStage 24 = .ok (.bipush 6, 2) := by decide +kernel
theorem dX4_addStage_26 : decode cX4_addStage 26 = .ok (.if_icmp .ge 12, 3) := by decide +kernel
theorem dX4_addStage_29 : decode cX4_addStage 29 = .ok (.aload_n 0, 1) := by decide +kernel
theorem dX4_addStage_30 : decode cX4_addStage 30 = .ok (.getfield 36, 3) := by decide +kernel
theorem dX4_addStage_33 : decode cX4_addStage 33 = .ok (.bipush 111, 2) := by decide +kernel
theorem dX4_addStage_35 : decode cX4_addStage 35 = .ok (.if_icmp .eq 13, 3) := by decide +kernel
theorem dX4_addStage_38 : decode cX4_addStage 38 = .ok (.new 65, 3) := by decide +kernel
theorem dX4_addStage_41 : decode cX4_addStage 41 = .ok (.dup, 1) := by decide +kernel
theorem dX4_addStage_42 : decode cX4_addStage 42 = .ok (.ldc 67, 2) := by decide +kernel
theorem dX4_addStage_44 : decode cX4_addStage 44 = .ok (.invokespecial 69, 3) := by decide +kernel
theorem dX4_addStage_47 : decode cX4_addStage 47 = .ok (.athrow, 1) := by decide +kernel
theorem dX4_addStage_48 : decode cX4_addStage 48 = .ok (.aload_n 0, 1) := by decide +kernel
theorem dX4_addStage_49 : decode cX4_addStage 49 = .ok (.getfield 16, 3) := by decide +kernel
theorem dX4_addStage_52 : decode cX4_addStage 52 = .ok (.new 70, 3) := by decide +kernel
theorem dX4_addStage_55 : decode cX4_addStage 55 = .ok (.dup, 1) := by decide +kernel
theorem dX4_addStage_56 : decode cX4_addStage 56 = .ok (.iload_n 1, 1) := by decide +kernel
theorem dX4_addStage_57 : decode cX4_addStage 57 = .ok (.invokespecial 72, 3) := by decide +kernel
theorem dX4_addStage_60 : decode cX4_addStage 60 = .ok (.invokevirtual 75, 3) := by decide +kernel
theorem dX4_addStage_63 : decode cX4_addStage 63 = .ok (.pop, 1) := by decide +kernel
theorem dX4_addStage_64 : decode cX4_addStage 64 = .ok (.aload_n 0, 1) := by decide +kernel
theorem dX4_addStage_65 : decode cX4_addStage 65 = .ok (.getfield 16, 3) := by decide +kernel
theorem dX4_addStage_68 : decode cX4_addStage 68 = .ok (.invokevirtual 61, 3) := by decide +kernel
theorem dX4_addStage_71 : decode cX4_addStage 71 = .ok (.iconst 1, 1) := by decide +kernel
theorem dX4_addStage_72 : decode cX4_addStage 72 = .ok (.isub, 1) := by decide +kernel
theorem dX4_addStage_73 : decode cX4_addStage 73 = .ok (.ireturn, 1) := by decide +kernel
set_option maxRecDepth 20000 in
theorem ggX4_install_X4_stageAt : GoodIn wsX4_install wsX4_stageAt := goodIn_ca (goodIn_r _ [10, 11, 12, 13, 14, 15, 16, 17, 9, 18, 19, 20, 21, 22, 23, 24, 25, 26, 27, 28, 29, 30, 31, 32, 33, 34, 35, 36, 37, 38, 39, 40, 41, 42, 43, 44, 70, 71, 72, 73, 74, 75, 76, 77, 78, 79, 80] (by decide +kernel) (by decide +kernel)) (goodIn_sub (fun _ h => List.mem_cons_of_mem _ (List.mem_append_right _ h)) (by decide +kernel))
set_option maxRecDepth 20000 in
theorem gX4_install_X4_stageAt : GoodIn wsX4_install (wsV RX4 79 RX4 yX4_stageAt wsX4_stageAt) := goodIn_app (goodIn_of _ (by decide +kernel)) ggX4_install_X4_stageAt
set_option maxRecDepth 20000 in
theorem ggX4_install_X4_isWithin : GoodIn wsX4_install wsX4_isWithin := goodIn_r _ [27] (by decide +kernel) (by decide +kernel)
set_option maxRecDepth 20000 in
theorem gX4_install_X4_isWithin : GoodIn wsX4_install (va_wsS RX4 44 yX4_isWithin wsX4_isWithin) := goodIn_app (goodIn_of _ (by decide +kernel)) ggX4_install_X4_isWithin
set_option maxRecDepth 20000 in
theorem ggX4_install_X0_init : GoodIn wsX4_install wsX0_init := goodIn_r _ [47, 48, 49, 50, 51, 52, 53, 54, 66, 67, 68, 69] (by decide +kernel) (by decide +kernel)
set_option maxRecDepth 20000 in
theorem gX4_install_X0_init : GoodIn wsX4_install (wsX0_init) := ggX4_install_X0_init
set_option maxRecDepth 20000 in
theorem ggX4_install_X3_put : GoodIn wsX4_install wsX3_put := goodIn_r _ [59, 60, 61, 62, 63, 64, 58, 65, 81, 82, 83, 84] (by decide +kernel) (by decide +kernel)
set_option maxRecDepth 20000 in
theorem gX4_install_X3_put : GoodIn wsX4_install (wsV RX4 90 RX3 yX3_put wsX3_put) := goodIn_app (goodIn_of _ (by decide +kernel)) ggX4_install_X3_put
theorem dX4_install_0 : decode cX4_install 0 = .ok (.aload_n 0, 1) := by decide +kernel
theorem dX4_install_1 : decode cX4_install 1 = .ok (.iload_n 1, 1) := by decide +kernel
theorem dX4_install_2 : decode cX4_install 2 = .ok (.invokevirtual 79, 3) := by decide +kernel
theorem dX4_install_5 : decode cX4_install 5 = .ok (.astore 5, 2) := by decide +kernel
theorem dX4_install_7 : decode cX4_install 7 = .ok (.iload_n 2, 1) := by decide +kernel
theorem dX4_install_8 : decode cX4_install 8 = .ok (.iconst 1, 1) := by decide +kernel
theorem dX4_install_9 : decode cX4_install 9 = .ok (.bipush 9, 2) := by decide +kernel
theorem dX4_install_11 : decode cX4_install 11 = .ok (.invokestatic 44, 3) := by decide +kernel
theorem dX4_install_14 : decode cX4_install 14 = .ok (.ifCond .eq 25, 3) := by decide +kernel
theorem dX4_install_17 : decode cX4_install 17 = .ok (.iload_n 3, 1) := by decide +kernel
theorem dX4_install_18 : decode cX4_install 18 = .ok (.iconst 1, 1) := by decide +kernel
theorem dX4_install_19 : decode cX4_install 19 = .ok (.bipush 99, 2) := by decide +kernel
theorem dX4_install_21 : decode cX4_install 21 = .ok (.invokestatic 44, 3) := by decide +kernel
theorem dX4_install_24 : decode cX4_install 24 = .ok (.ifCond .eq 15, 3) := by decide +kernel
theorem dX4_install_27 : decode cX4_install 27 = .ok (.iload 4, 2) := by decide +kernel
theorem dX4_install_29 : decode cX4_install 29 = .ok (.iconst 0, 1) := by decide +kernel
theorem dX4_install_30 : decode cX4_install 30 = .ok (.sipush 999, 3) := by decide +kernel
theorem dX4_install_33 : decode cX4_install 33 = .ok (.invokestatic 44, 3) := by decide +kernel
theorem dX4_install_36 : decode cX4_install 36 = .ok (.ifCond .ne 13, 3) := by decide +kernel
theorem dX4_install_39 : decode cX4_install 39 = .ok (.new 48, 3) := by decide +kernel
theorem dX4_install_42 : decode cX4_install 42 = .ok (.dup, 1) := by decide +kernel
theorem dX4_install_43 : decode cX4_install 43 = .ok (.ldc 83, 2) := by decide +kernel
theorem dX4_install_45 : decode cX4_install 45 = .ok (.invokespecial 52, 3) := by decide +kernel
theorem dX4_install_48 : decode cX4_install 48 = .ok (.athrow, 1) := by decide +kernel
theorem dX4_install_49 : decode cX4_install 49 = .ok (.aload 5, 2) := by decide +kernel
theorem dX4_install_51 : decode cX4_install 51 = .ok (.new 85, 3) := by decide +kernel
theorem dX4_install_54 : decode cX4_install 54 = .ok (.dup, 1) := by decide +kernel
theorem dX4_install_55 : decode cX4_install 55 = .ok (.iload_n 2, 1) := by decide +kernel
theorem dX4_install_56 : decode cX4_install 56 = .ok (.iload_n 3, 1) := by decide +kernel
theorem dX4_install_57 : decode cX4_install 57 = .ok (.iload 4, 2) := by decide +kernel
theorem dX4_install_59 : decode cX4_install 59 = .ok (.invokespecial 87, 3) := by decide +kernel
theorem dX4_install_62 : decode cX4_install 62 = .ok (.invokevirtual 90, 3) := by decide +kernel
theorem dX4_install_65 : decode cX4_install 65 = .ok (.ireturn, 1) := by decide +kernel
set_option maxRecDepth 20000 in
theorem ggX4_setBad_X4_imageAt : GoodIn wsX4_setBad wsX4_imageAt := goodIn_ca (goodIn_ca (goodIn_r _ [6, 7, 8, 9, 10, 11, 12, 5, 13, 14, 15, 16, 17, 18, 19, 20, 21, 22, 23, 24, 25, 26, 27, 28, 29, 30, 31, 32, 33, 34, 35, 36, 37, 38, 39, 40, 41, 42, 43, 44, 45, 46, 47, 48, 49, 50, 51, 56, 57, 58, 59, 60, 61, 62, 63, 64, 65, 66, 67, 68, 69, 70] (by decide +kernel) (by decide +kernel)) (goodIn_sub (fun _ h => List.mem_cons_of_mem _ (List.mem_append_left _ (List.mem_append_right _ h))) (by decide +kernel))) (goodIn_sub (fun _ h => List.mem_cons_of_mem _ (List.mem_append_right _ h)) (by decide +kernel))
set_option maxRecDepth 20000 in
theorem gX4_setBad_X4_imageAt : GoodIn wsX4_setBad (wsV RX4 94 RX4 yX4_imageAt wsX4_imageAt) := goodIn_app (goodIn_of _ (by decide +kernel)) ggX4_setBad_X4_imageAt
theorem dX4_setBad_0 : decode cX4_setBad 0 = .ok (.aload_n 0, 1) := by decide +kernel
theorem dX4_setBad_1 : decode cX4_setBad 1 = .ok (.iload_n 1, 1) := by decide +kernel
theorem dX4_setBad_2 : decode cX4_setBad 2 = .ok (.iload_n 2, 1) := by decide +kernel
theorem dX4_setBad_3 : decode cX4_setBad 3 = .ok (.invokevirtual 94, 3) := by decide +kernel
theorem dX4_setBad_6 : decode cX4_setBad 6 = .ok (.astore 4, 2) := by decide +kernel
theorem dX4_setBad_8 : decode cX4_setBad 8 = .ok (.aload 4, 2) := by decide +kernel
theorem dX4_setBad_10 : decode cX4_setBad 10 = .ok (.getfield 98, 3) := by decide +kernel
theorem dX4_setBad_13 : decode cX4_setBad 13 = .ok (.istore 5, 2) := by decide +kernel
theorem dX4_setBad_15 : decode cX4_setBad 15 = .ok (.aload 4, 2) := by decide +kernel
theorem dX4_setBad_17 : decode cX4_setBad 17 = .ok (.iload_n 3, 1) := by decide +kernel
theorem dX4_setBad_18 : decode cX4_setBad 18 = .ok (.putfield 98, 3) := by decide +kernel
theorem dX4_setBad_21 : decode cX4_setBad 21 = .ok (.iload 5, 2) := by decide +kernel
theorem dX4_setBad_23 : decode cX4_setBad 23 = .ok (.ireturn, 1) := by decide +kernel
set_option maxRecDepth 20000 in
theorem ggX4_version_X4_imageAt : GoodIn wsX4_version wsX4_imageAt := goodIn_ca (goodIn_ca (goodIn_r _ [6, 7, 8, 9, 10, 11, 12, 5, 13, 14, 15, 16, 17, 18, 19, 20, 21, 22, 23, 24, 25, 26, 27, 28, 29, 30, 31, 32, 33, 34, 35, 36, 37, 38, 39, 40, 41, 42, 43, 44, 45, 46, 47, 48, 49, 50, 51, 56, 57, 58, 59, 60, 61, 62, 63, 64, 65, 66, 67, 68, 69, 70] (by decide +kernel) (by decide +kernel)) (goodIn_sub (fun _ h => List.mem_cons_of_mem _ (List.mem_append_left _ (List.mem_append_right _ h))) (by decide +kernel))) (goodIn_sub (fun _ h => List.mem_cons_of_mem _ (List.mem_append_right _ h)) (by decide +kernel))
set_option maxRecDepth 20000 in
theorem gX4_version_X4_imageAt : GoodIn wsX4_version (wsV RX4 94 RX4 yX4_imageAt wsX4_imageAt) := goodIn_app (goodIn_of _ (by decide +kernel)) ggX4_version_X4_imageAt
theorem dX4_version_0 : decode cX4_version 0 = .ok (.aload_n 0, 1) := by decide +kernel
theorem dX4_version_1 : decode cX4_version 1 = .ok (.iload_n 1, 1) := by decide +kernel
theorem dX4_version_2 : decode cX4_version 2 = .ok (.iload_n 2, 1) := by decide +kernel
theorem dX4_version_3 : decode cX4_version 3 = .ok (.invokevirtual 94, 3) := by decide +kernel
theorem dX4_version_6 : decode cX4_version 6 = .ok (.getfield 102, 3) := by decide +kernel
theorem dX4_version_9 : decode cX4_version 9 = .ok (.ireturn, 1) := by decide +kernel
set_option maxRecDepth 20000 in
theorem ggX4_active_X4_stageAt : GoodIn wsX4_active wsX4_stageAt := goodIn_ca (goodIn_r _ [6, 7, 8, 9, 10, 11, 12, 13, 5, 14, 15, 16, 17, 18, 19, 20, 21, 22, 23, 24, 25, 26, 27, 28, 29, 30, 31, 32, 33, 34, 35, 36, 37, 38, 39, 40, 45, 46, 47, 48, 49, 50, 51, 52, 53, 54, 55] (by decide +kernel) (by decide +kernel)) (goodIn_sub (fun _ h => List.mem_cons_of_mem _ (List.mem_append_right _ h)) (by decide +kernel))
set_option maxRecDepth 20000 in
theorem gX4_active_X4_stageAt : GoodIn wsX4_active (wsV RX4 79 RX4 yX4_stageAt wsX4_stageAt) := goodIn_app (goodIn_of _ (by decide +kernel)) ggX4_active_X4_stageAt
theorem dX4_active_0 : decode cX4_active 0 = .ok (.aload_n 0, 1) := by decide +kernel
theorem dX4_active_1 : decode cX4_active 1 = .ok (.iload_n 1, 1) := by decide +kernel
theorem dX4_active_2 : decode cX4_active 2 = .ok (.invokevirtual 79, 3) := by decide +kernel
theorem dX4_active_5 : decode cX4_active 5 = .ok (.getfield 105, 3) := by decide +kernel
theorem dX4_active_8 : decode cX4_active 8 = .ok (.ireturn, 1) := by decide +kernel
set_option maxRecDepth 20000 in
theorem ggX4_reason_X4_stageWithSlot : GoodIn wsX4_reason wsX4_stageWithSlot := goodIn_ca (goodIn_r _ [5, 6, 7, 8, 9, 10, 4, 11, 12, 13, 14, 15, 16, 17, 18, 19, 20, 21, 22, 23, 24, 25, 26, 27, 28, 29, 30, 31, 32, 33, 34, 35, 36, 37, 38, 39, 40, 41, 42, 43, 54, 55, 56, 57, 58, 59, 60, 61, 62, 63, 64] (by decide +kernel) (by decide +kernel)) (goodIn_sub (fun _ h => List.mem_cons_of_mem _ (List.mem_append_left _ (List.mem_append_right _ h))) (by decide +kernel))
set_option maxRecDepth 20000 in
theorem gX4_reason_X4_stageWithSlot : GoodIn wsX4_reason (wsV RX4 108 RX4 yX4_stageWithSlot wsX4_stageWithSlot) := goodIn_app (goodIn_of _ (by decide +kernel)) ggX4_reason_X4_stageWithSlot
set_option maxRecDepth 20000 in
theorem ggX4_reason_X4_judge : GoodIn wsX4_reason wsX4_judge := goodIn_ca (goodIn_r _ [47, 48, 49, 50, 51, 52, 53, 65, 66, 67, 68, 54, 55, 56, 57, 58, 59, 60, 61, 69, 70, 71, 72] (by decide +kernel) (by decide +kernel)) (goodIn_sub (fun _ h => List.mem_cons_of_mem _ (List.mem_append_right _ h)) (by decide +kernel))
set_option maxRecDepth 20000 in
theorem gX4_reason_X4_judge : GoodIn wsX4_reason (wsV RX4 112 RX4 yX4_judge wsX4_judge) := goodIn_app (goodIn_of _ (by decide +kernel)) ggX4_reason_X4_judge
theorem dX4_reason_0 : decode cX4_reason 0 = .ok (.aload_n 0, 1) := by decide +kernel
theorem dX4_reason_1 : decode cX4_reason 1 = .ok (.aload_n 0, 1) := by decide +kernel
theorem dX4_reason_2 : decode cX4_reason 2 = .ok (.iload_n 1, 1) := by decide +kernel
theorem dX4_reason_3 : decode cX4_reason 3 = .ok (.iload_n 2, 1) := by decide +kernel
theorem dX4_reason_4 : decode cX4_reason 4 = .ok (.invokevirtual 108, 3) := by decide +kernel
theorem dX4_reason_7 : decode cX4_reason 7 = .ok (.iload_n 2, 1) := by decide +kernel
theorem dX4_reason_8 : decode cX4_reason 8 = .ok (.invokevirtual 112, 3) := by decide +kernel
theorem dX4_reason_11 : decode cX4_reason 11 = .ok (.ireturn, 1) := by decide +kernel
set_option maxRecDepth 20000 in
theorem ggX4_counter_X4_stageAt : GoodIn wsX4_counter wsX4_stageAt := goodIn_ca (goodIn_r _ [6, 7, 8, 9, 10, 11, 12, 13, 5, 14, 15, 16, 17, 18, 19, 20, 21, 22, 23, 24, 25, 26, 27, 28, 29, 30, 31, 32, 33, 34, 35, 36, 37, 38, 39, 40, 45, 46, 47, 48, 49, 50, 51, 52, 53, 54, 55] (by decide +kernel) (by decide +kernel)) (goodIn_sub (fun _ h => List.mem_cons_of_mem _ (List.mem_append_right _ h)) (by decide +kernel))
set_option maxRecDepth 20000 in
theorem gX4_counter_X4_stageAt : GoodIn wsX4_counter (wsV RX4 79 RX4 yX4_stageAt wsX4_stageAt) := goodIn_app (goodIn_of _ (by decide +kernel)) ggX4_counter_X4_stageAt
theorem dX4_counter_0 : decode cX4_counter 0 = .ok (.aload_n 0, 1) := by decide +kernel
theorem dX4_counter_1 : decode cX4_counter 1 = .ok (.iload_n 1, 1) := by decide +kernel
theorem dX4_counter_2 : decode cX4_counter 2 = .ok (.invokevirtual 79, 3) := by decide +kernel
theorem dX4_counter_5 : decode cX4_counter 5 = .ok (.getfield 116, 3) := by decide +kernel
theorem dX4_counter_8 : decode cX4_counter 8 = .ok (.ireturn, 1) := by decide +kernel
set_option maxRecDepth 20000 in
theorem ggX4_start_Jx4a65c_isEmpty_aae02 : GoodIn wsX4_start wsJx4a65c_isEmpty_aae02 := goodIn_r _ [12, 13, 114, 115, 116] (by decide +kernel) (by decide +kernel)
set_option maxRecDepth 20000 in
theorem gX4_start_Jx4a65c_isEmpty_aae02 : GoodIn wsX4_start (wsV RX4 119 RJx4a65c yJx4a65c_isEmpty_aae02 wsJx4a65c_isEmpty_aae02) := goodIn_app (goodIn_of _ (by decide +kernel)) ggX4_start_Jx4a65c_isEmpty_aae02
set_option maxRecDepth 20000 in
theorem ggX4_start_X4_startInto : GoodIn wsX4_start wsX4_startInto := goodIn_ca (goodIn_r _ [18, 4, 19, 20, 21, 22, 23, 24, 25, 26, 27, 28, 29, 30, 31, 32, 33, 34, 35, 11, 36, 13, 37, 38, 39, 40, 41, 42, 43, 44, 45, 46, 47, 48, 49, 50, 51, 52, 53, 54, 55, 56, 17, 57, 58, 59, 60, 61, 62, 63, 64, 65, 66, 67, 68, 69, 70, 71, 72, 73, 74, 75, 76, 77, 78, 79, 80, 81, 82, 83, 84, 85, 86, 87, 88, 89, 90, 91, 92, 93, 99, 100, 101, 102, 103, 104, 105, 106, 107, 108, 109, 110, 111, 112, 113, 114, 115, 116, 117, 118, 119, 120, 121, 122, 123, 124] (by decide +kernel) (by decide +kernel)) (goodIn_sub (fun _ h => List.mem_cons_of_mem _ (List.mem_append_right _ h)) (by decide +kernel))
set_option maxRecDepth 20000 in
theorem gX4_start_X4_startInto : GoodIn wsX4_start (wsV RX4 125 RX4 yX4_startInto wsX4_startInto) := goodIn_app (goodIn_of _ (by decide +kernel)) ggX4_start_X4_startInto
set_option maxRecDepth 20000 in
theorem ggX4_start_X4_allRan : GoodIn wsX4_start wsX4_allRan := goodIn_r _ [97, 98, 4, 33, 34, 35, 11, 36, 13, 107, 108, 109, 110, 111, 112, 113, 99, 100, 101, 102, 103, 104, 105, 106, 114, 115, 116] (by decide +kernel) (by decide +kernel)
set_option maxRecDepth 20000 in
theorem gX4_start_X4_allRan : GoodIn wsX4_start (wsV RX4 130 RX4 yX4_allRan wsX4_allRan) := goodIn_app (goodIn_of _ (by decide +kernel)) ggX4_start_X4_allRan
theorem dX4_start_0 : decode cX4_start 0 = .ok (.aload_n 0, 1) := by decide +kernel
theorem dX4_start_1 : decode cX4_start 1 = .ok (.getfield 36, 3) := by decide +kernel
theorem dX4_start_4 : decode cX4_start 4 = .ok (.bipush 111, 2) := by decide +kernel
theorem dX4_start_6 : decode cX4_start 6 = .ok (.if_icmp .ne 13, 3) := by decide +kernel
theorem dX4_start_9 : decode cX4_start 9 = .ok (.aload_n 0, 1) := by decide +kernel
theorem dX4_start_10 : decode cX4_start 10 = .ok (.getfield 16, 3) := by decide +kernel
theorem dX4_start_13 : decode cX4_start 13 = .ok (.invokevirtual 119, 3) := by decide +kernel
theorem dX4_start_16 : decode cX4_start 16 = .ok (.ifCond .eq 13, 3) := by decide +kernel
theorem dX4_start_19 : decode cX4_start 19 = .ok (.new 65, 3) := by decide +kernel
theorem dX4_start_22 : decode cX4_start 22 = .ok (.dup, 1) := by decide +kernel
theorem dX4_start_23 : decode cX4_start 23 = .ok (.ldc 123, 2) := by decide +kernel
theorem dX4_start_25 : decode cX4_start 25 = .ok (.invokespecial 69, 3) := by decide +kernel
theorem dX4_start_28 : decode cX4_start 28 = .ok (.athrow, 1) := by decide +kernel
theorem dX4_start_29 : decode cX4_start 29 = .ok (.aload_n 0, 1) := by decide +kernel
theorem dX4_start_30 : decode cX4_start 30 = .ok (.aload_n 0, 1) := by decide +kernel
theorem dX4_start_31 : decode cX4_start 31 = .ok (.getfield 29, 3) := by decide +kernel
theorem dX4_start_34 : decode cX4_start 34 = .ok (.invokevirtual 125, 3) := by decide +kernel
theorem dX4_start_37 : decode cX4_start 37 = .ok (.aload_n 0, 1) := by decide +kernel
theorem dX4_start_38 : decode cX4_start 38 = .ok (.dup, 1) := by decide +kernel
theorem dX4_start_39 : decode cX4_start 39 = .ok (.getfield 40, 3) := by decide +kernel
theorem dX4_start_42 : decode cX4_start 42 = .ok (.aload_n 0, 1) := by decide +kernel
theorem dX4_start_43 : decode cX4_start 43 = .ok (.getfield 29, 3) := by decide +kernel
theorem dX4_start_46 : decode cX4_start 46 = .ok (.getfield 129, 3) := by decide +kernel
theorem dX4_start_49 : decode cX4_start 49 = .ok (.iadd, 1) := by decide +kernel
theorem dX4_start_50 : decode cX4_start 50 = .ok (.putfield 40, 3) := by decide +kernel
theorem dX4_start_53 : decode cX4_start 53 = .ok (.aload_n 0, 1) := by decide +kernel
theorem dX4_start_54 : decode cX4_start 54 = .ok (.aload_n 0, 1) := by decide +kernel
theorem dX4_start_55 : decode cX4_start 55 = .ok (.aload_n 0, 1) := by decide +kernel
theorem dX4_start_56 : decode cX4_start 56 = .ok (.getfield 29, 3) := by decide +kernel
theorem dX4_start_59 : decode cX4_start 59 = .ok (.invokevirtual 130, 3) := by decide +kernel
theorem dX4_start_62 : decode cX4_start 62 = .ok (.ifCond .eq 8, 3) := by decide +kernel
theorem dX4_start_65 : decode cX4_start 65 = .ok (.bipush 114, 2) := by decide +kernel
theorem dX4_start_67 : decode cX4_start 67 = .ok (.goto 5, 3) := by decide +kernel
theorem dX4_start_70 : decode cX4_start 70 = .ok (.bipush 104, 2) := by decide +kernel
theorem dX4_start_72 : decode cX4_start 72 = .ok (.putfield 36, 3) := by decide +kernel
theorem dX4_start_75 : decode cX4_start 75 = .ok (.aload_n 0, 1) := by decide +kernel
theorem dX4_start_76 : decode cX4_start 76 = .ok (.getfield 36, 3) := by decide +kernel
theorem dX4_start_79 : decode cX4_start 79 = .ok (.bipush 114, 2) := by decide +kernel
theorem dX4_start_81 : decode cX4_start 81 = .ok (.if_icmp .ne 7, 3) := by decide +kernel
theorem dX4_start_84 : decode cX4_start 84 = .ok (.iconst 1, 1) := by decide +kernel
theorem dX4_start_85 : decode cX4_start 85 = .ok (.goto 4, 3) := by decide +kernel
theorem dX4_start_88 : decode cX4_start 88 = .ok (.iconst 0, 1) := by decide +kernel
theorem dX4_start_89 : decode cX4_start 89 = .ok (.ireturn, 1) := by decide +kernel
theorem dX4_stop_0 : decode cX4_stop 0 = .ok (.aload_n 0, 1) := by decide +kernel
theorem dX4_stop_1 : decode cX4_stop 1 = .ok (.getfield 36, 3) := by decide +kernel
theorem dX4_stop_4 : decode cX4_stop 4 = .ok (.bipush 111, 2) := by decide +kernel
theorem dX4_stop_6 : decode cX4_stop 6 = .ok (.if_icmp .ne 13, 3) := by decide +kernel
theorem dX4_stop_9 : decode cX4_stop 9 = .ok (.new 65, 3) := by decide +kernel
theorem dX4_stop_12 : decode cX4_stop 12 = .ok (.dup, 1) := by decide +kernel
theorem dX4_stop_13 : decode cX4_stop 13 = .ok (.ldc 134, 2) := by decide +kernel
theorem dX4_stop_15 : decode cX4_stop 15 = .ok (.invokespecial 69, 3) := by decide +kernel
theorem dX4_stop_18 : decode cX4_stop 18 = .ok (.athrow, 1) := by decide +kernel
theorem dX4_stop_19 : decode cX4_stop 19 = .ok (.aload_n 0, 1) := by decide +kernel
theorem dX4_stop_20 : decode cX4_stop 20 = .ok (.bipush 111, 2) := by decide +kernel
theorem dX4_stop_22 : decode cX4_stop 22 = .ok (.putfield 36, 3) := by decide +kernel
theorem dX4_stop_25 : decode cX4_stop 25 = .ok (.aload_n 0, 1) := by decide +kernel
theorem dX4_stop_26 : decode cX4_stop 26 = .ok (.getfield 29, 3) := by decide +kernel
theorem dX4_stop_29 : decode cX4_stop 29 = .ok (.getfield 136, 3) := by decide +kernel
theorem dX4_stop_32 : decode cX4_stop 32 = .ok (.ireturn, 1) := by decide +kernel
set_option maxRecDepth 20000 in
theorem ggX4_commit_Jx4a65c_size_8abf5 : GoodIn wsX4_commit wsJx4a65c_size_8abf5 := goodIn_r _ [14, 15, 52, 53, 54] (by decide +kernel) (by decide +kernel)
set_option maxRecDepth 20000 in
theorem gX4_commit_Jx4a65c_size_8abf5 : GoodIn wsX4_commit (wsV RX4 61 RJx4a65c yJx4a65c_size_8abf5 wsJx4a65c_size_8abf5) := goodIn_app (goodIn_of _ (by decide +kernel)) ggX4_commit_Jx4a65c_size_8abf5
set_option maxRecDepth 20000 in
theorem ggX4_commit_Jx4a65c_get_915e3 : GoodIn wsX4_commit wsJx4a65c_get_915e3 := goodIn_r _ [19, 15, 20, 21, 22, 23, 24, 25, 26, 27, 28, 29, 30, 13, 31, 32, 52, 53, 54] (by decide +kernel) (by decide +kernel)
set_option maxRecDepth 20000 in
theorem gX4_commit_Jx4a65c_get_915e3 : GoodIn wsX4_commit (wsV RX4 141 RJx4a65c yJx4a65c_get_915e3 wsJx4a65c_get_915e3) := goodIn_app (goodIn_of _ (by decide +kernel)) ggX4_commit_Jx4a65c_get_915e3
theorem dX4_commit_0 : decode cX4_commit 0 = .ok (.aload_n 0, 1) := by decide +kernel
theorem dX4_commit_1 : decode cX4_commit 1 = .ok (.getfield 36, 3) := by decide +kernel
theorem dX4_commit_4 : decode cX4_commit 4 = .ok (.bipush 114, 2) := by decide +kernel
theorem dX4_commit_6 : decode cX4_commit 6 = .ok (.if_icmp .eq 13, 3) := by decide +kernel
theorem dX4_commit_9 : decode cX4_commit 9 = .ok (.new 65, 3) := by decide +kernel
theorem dX4_commit_12 : decode cX4_commit 12 = .ok (.dup, 1) := by decide +kernel
theorem dX4_commit_13 : decode cX4_commit 13 = .ok (.ldc 139, 2) := by decide +kernel
theorem dX4_commit_15 : decode cX4_commit 15 = .ok (.invokespecial 69, 3) := by decide +kernel
theorem dX4_commit_18 : decode cX4_commit 18 = .ok (.athrow, 1) := by decide +kernel
theorem dX4_commit_19 : decode cX4_commit 19 = .ok (.iconst 0, 1) := by decide +kernel
theorem dX4_commit_20 : decode cX4_commit 20 = .ok (.istore_n 1, 1) := by decide +kernel
theorem dX4_commit_21 : decode cX4_commit 21 = .ok (.iconst 0, 1) := by decide +kernel
theorem dX4_commit_22 : decode cX4_commit 22 = .ok (.istore_n 2, 1) := by decide +kernel
theorem dX4_commit_23 : decode cX4_commit 23 = .ok (.iload_n 2, 1) := by decide +kernel
theorem dX4_commit_24 : decode cX4_commit 24 = .ok (.aload_n 0, 1) := by decide +kernel
theorem dX4_commit_25 : decode cX4_commit 25 = .ok (.getfield 29, 3) := by decide +kernel
theorem dX4_commit_28 : decode cX4_commit 28 = .ok (.getfield 136, 3) := by decide +kernel
theorem dX4_commit_31 : decode cX4_commit 31 = .ok (.if_icmp .ge 64, 3) := by decide +kernel
theorem dX4_commit_34 : decode cX4_commit 34 = .ok (.iload_n 2, 1) := by decide +kernel
theorem dX4_commit_35 : decode cX4_commit 35 = .ok (.aload_n 0, 1) := by decide +kernel
theorem dX4_commit_36 : decode cX4_commit 36 = .ok (.getfield 16, 3) := by decide +kernel
theorem dX4_commit_39 : decode cX4_commit 39 = .ok (.invokevirtual 61, 3) := by decide +kernel
theorem dX4_commit_42 : decode cX4_commit 42 = .ok (.if_icmp .ge 53, 3) := by decide +kernel
theorem dX4_commit_45 : decode cX4_commit 45 = .ok (.aload_n 0, 1) := by decide +kernel
theorem dX4_commit_46 : decode cX4_commit 46 = .ok (.getfield 16, 3) := by decide +kernel
theorem dX4_commit_49 : decode cX4_commit 49 = .ok (.iload_n 2, 1) := by decide +kernel
theorem dX4_commit_50 : decode cX4_commit 50 = .ok (.invokevirtual 141, 3) := by decide +kernel
theorem dX4_commit_53 : decode cX4_commit 53 = .ok (.checkcast 70, 3) := by decide +kernel
theorem dX4_commit_56 : decode cX4_commit 56 = .ok (.astore_n 3, 1) := by decide +kernel
theorem dX4_commit_57 : decode cX4_commit 57 = .ok (.aload_n 0, 1) := by decide +kernel
theorem dX4_commit_58 : decode cX4_commit 58 = .ok (.getfield 29, 3) := by decide +kernel
theorem dX4_commit_61 : decode cX4_commit 61 = .ok (.getfield 145, 3) := by decide +kernel
theorem dX4_commit_64 : decode cX4_commit 64 = .ok (.iload_n 2, 1) := by decide +kernel
theorem dX4_commit_65 : decode cX4_commit 65 = .ok (.iaload, 1) := by decide +kernel
theorem dX4_commit_66 : decode cX4_commit 66 = .ok (.aload_n 3, 1) := by decide +kernel
theorem dX4_commit_67 : decode cX4_commit 67 = .ok (.getfield 116, 3) := by decide +kernel
theorem dX4_commit_70 : decode cX4_commit 70 = .ok (.if_icmp .le 19, 3) := by decide +kernel
theorem dX4_commit_73 : decode cX4_commit 73 = .ok (.aload_n 3, 1) := by decide +kernel
theorem dX4_commit_74 : decode cX4_commit 74 = .ok (.aload_n 0, 1) := by decide +kernel
theorem dX4_commit_75 : decode cX4_commit 75 = .ok (.getfield 29, 3) := by decide +kernel
theorem dX4_commit_78 : decode cX4_commit 78 = .ok (.getfield 145, 3) := by decide +kernel
theorem dX4_commit_81 : decode cX4_commit 81 = .ok (.iload_n 2, 1) := by decide +kernel
theorem dX4_commit_82 : decode cX4_commit 82 = .ok (.iaload, 1) := by decide +kernel
theorem dX4_commit_83 : decode cX4_commit 83 = .ok (.putfield 116, 3) := by decide +kernel
theorem dX4_commit_86 : decode cX4_commit 86 = .ok (.iinc 1 1, 3) := by decide +kernel
theorem dX4_commit_89 : decode cX4_commit 89 = .ok (.iinc 2 1, 3) := by decide +kernel
theorem dX4_commit_92 : decode cX4_commit 92 = .ok (.goto (-69), 3) := by decide +kernel
theorem dX4_commit_95 : decode cX4_commit 95 = .ok (.iload_n 1, 1) := by decide +kernel
theorem dX4_commit_96 : decode cX4_commit 96 = .ok (.ireturn, 1) := by decide +kernel
theorem dX4_state_0 : decode cX4_state 0 = .ok (.aload_n 0, 1) := by decide +kernel
theorem dX4_state_1 : decode cX4_state 1 = .ok (.getfield 36, 3) := by decide +kernel
theorem dX4_state_4 : decode cX4_state 4 = .ok (.ireturn, 1) := by decide +kernel
set_option maxRecDepth 20000 in
theorem ggX4_runsFrom_X4_isStage : GoodIn wsX4_runsFrom wsX4_isStage := goodIn_r _ [11, 12, 13, 14, 15, 16, 17, 18, 19, 20, 10, 21, 28, 29, 30, 31, 32, 33, 34, 35, 43, 44, 45] (by decide +kernel) (by decide +kernel)
set_option maxRecDepth 20000 in
theorem gX4_runsFrom_X4_isStage : GoodIn wsX4_runsFrom (wsV RX4 149 RX4 yX4_isStage wsX4_isStage) := goodIn_app (goodIn_of _ (by decide +kernel)) ggX4_runsFrom_X4_isStage
set_option maxRecDepth 20000 in
theorem ggX4_runsFrom_X4_countRunning : GoodIn wsX4_runsFrom wsX4_countRunning := goodIn_r _ [25, 26, 5, 27, 28, 29, 30, 31, 32, 33, 34, 35, 36, 37, 38, 39, 40, 41, 42] (by decide +kernel) (by decide +kernel)
set_option maxRecDepth 20000 in
theorem gX4_runsFrom_X4_countRunning : GoodIn wsX4_runsFrom (wsV RX4 157 RX4 yX4_countRunning wsX4_countRunning) := goodIn_app (goodIn_of _ (by decide +kernel)) ggX4_runsFrom_X4_countRunning
theorem dX4_runsFrom_0 : decode cX4_runsFrom 0 = .ok (.aload_n 0, 1) := by decide +kernel
theorem dX4_runsFrom_1 : decode cX4_runsFrom 1 = .ok (.iload_n 1, 1) := by decide +kernel
theorem dX4_runsFrom_2 : decode cX4_runsFrom 2 = .ok (.invokevirtual 149, 3) := by decide +kernel
theorem dX4_runsFrom_5 : decode cX4_runsFrom 5 = .ok (.ifCond .ne 13, 3) := by decide +kernel
theorem dX4_runsFrom_8 : decode cX4_runsFrom 8 = .ok (.new 152, 3) := by decide +kernel
theorem dX4_runsFrom_11 : decode cX4_runsFrom 11 = .ok (.dup, 1) := by decide +kernel
theorem dX4_runsFrom_12 : decode cX4_runsFrom 12 = .ok (.ldc 154, 2) := by decide +kernel
theorem dX4_runsFrom_14 : decode cX4_runsFrom 14 = .ok (.invokespecial 156, 3) := by decide +kernel
theorem dX4_runsFrom_17 : decode cX4_runsFrom 17 = .ok (.athrow, 1) := by decide +kernel
theorem dX4_runsFrom_18 : decode cX4_runsFrom 18 = .ok (.iload_n 1, 1) := by decide +kernel
theorem dX4_runsFrom_19 : decode cX4_runsFrom 19 = .ok (.aload_n 0, 1) := by decide +kernel
theorem dX4_runsFrom_20 : decode cX4_runsFrom 20 = .ok (.invokevirtual 157, 3) := by decide +kernel
theorem dX4_runsFrom_23 : decode cX4_runsFrom 23 = .ok (.if_icmp .lt 13, 3) := by decide +kernel
theorem dX4_runsFrom_26 : decode cX4_runsFrom 26 = .ok (.new 160, 3) := by decide +kernel
theorem dX4_runsFrom_29 : decode cX4_runsFrom 29 = .ok (.dup, 1) := by decide +kernel
theorem dX4_runsFrom_30 : decode cX4_runsFrom 30 = .ok (.ldc 162, 2) := by decide +kernel
theorem dX4_runsFrom_32 : decode cX4_runsFrom 32 = .ok (.invokespecial 164, 3) := by decide +kernel
theorem dX4_runsFrom_35 : decode cX4_runsFrom 35 = .ok (.athrow, 1) := by decide +kernel
theorem dX4_runsFrom_36 : decode cX4_runsFrom 36 = .ok (.aload_n 0, 1) := by decide +kernel
theorem dX4_runsFrom_37 : decode cX4_runsFrom 37 = .ok (.getfield 29, 3) := by decide +kernel
theorem dX4_runsFrom_40 : decode cX4_runsFrom 40 = .ok (.getfield 165, 3) := by decide +kernel
theorem dX4_runsFrom_43 : decode cX4_runsFrom 43 = .ok (.iload_n 1, 1) := by decide +kernel
theorem dX4_runsFrom_44 : decode cX4_runsFrom 44 = .ok (.iaload, 1) := by decide +kernel
theorem dX4_runsFrom_45 : decode cX4_runsFrom 45 = .ok (.ireturn, 1) := by decide +kernel
theorem dX4_fallbacks_0 : decode cX4_fallbacks 0 = .ok (.aload_n 0, 1) := by decide +kernel
theorem dX4_fallbacks_1 : decode cX4_fallbacks 1 = .ok (.getfield 40, 3) := by decide +kernel
theorem dX4_fallbacks_4 : decode cX4_fallbacks 4 = .ok (.ireturn, 1) := by decide +kernel
set_option maxRecDepth 20000 in
theorem ggX4_register_X4_isRegister : GoodIn wsX4_register wsX4_isRegister := goodIn_r _ [8, 9, 10, 7, 11] (by decide +kernel) (by decide +kernel)
set_option maxRecDepth 20000 in
theorem gX4_register_X4_isRegister : GoodIn wsX4_register (va_wsS RX4 55 yX4_isRegister wsX4_isRegister) := goodIn_app (goodIn_of _ (by decide +kernel)) ggX4_register_X4_isRegister
theorem dX4_register_0 : decode cX4_register 0 = .ok (.iload_n 1, 1) := by decide +kernel
theorem dX4_register_1 : decode cX4_register 1 = .ok (.invokestatic 55, 3) := by decide +kernel
theorem dX4_register_4 : decode cX4_register 4 = .ok (.ifCond .ne 13, 3) := by decide +kernel
theorem dX4_register_7 : decode cX4_register 7 = .ok (.new 152, 3) := by decide +kernel
theorem dX4_register_10 : decode cX4_register 10 = .ok (.dup, 1) := by decide +kernel
theorem dX4_register_11 : decode cX4_register 11 = .ok (.ldc 59, 2) := by decide +kernel
theorem dX4_register_13 : decode cX4_register 13 = .ok (.invokespecial 156, 3) := by decide +kernel
theorem dX4_register_16 : decode cX4_register 16 = .ok (.athrow, 1) := by decide +kernel
theorem dX4_register_17 : decode cX4_register 17 = .ok (.aload_n 0, 1) := by decide +kernel
theorem dX4_register_18 : decode cX4_register 18 = .ok (.getfield 29, 3) := by decide +kernel
theorem dX4_register_21 : decode cX4_register 21 = .ok (.getfield 168, 3) := by decide +kernel
theorem dX4_register_24 : decode cX4_register 24 = .ok (.iload_n 1, 1) := by decide +kernel
theorem dX4_register_25 : decode cX4_register 25 = .ok (.iaload, 1) := by decide +kernel
theorem dX4_register_26 : decode cX4_register 26 = .ok (.ireturn, 1) := by decide +kernel
set_option maxRecDepth 20000 in
theorem ggX4_registerByLog_X4_isRegister : GoodIn wsX4_registerByLog wsX4_isRegister := goodIn_r _ [9, 10, 11, 8, 12] (by decide +kernel) (by decide +kernel)
set_option maxRecDepth 20000 in
theorem gX4_registerByLog_X4_isRegister : GoodIn wsX4_registerByLog (va_wsS RX4 55 yX4_isRegister wsX4_isRegister) := goodIn_app (goodIn_of _ (by decide +kernel)) ggX4_registerByLog_X4_isRegister
set_option maxRecDepth 20000 in
theorem ggX4_registerByLog_X4_fold : GoodIn wsX4_registerByLog wsX4_fold := goodIn_r _ [15] (by decide +kernel) (by decide +kernel)
set_option maxRecDepth 20000 in
theorem gX4_registerByLog_X4_fold : GoodIn wsX4_registerByLog (va_wsS RX4 177 yX4_fold wsX4_fold) := goodIn_app (goodIn_of _ (by decide +kernel)) ggX4_registerByLog_X4_fold
theorem dX4_registerByLog_0 : decode cX4_registerByLog 0 = .ok (.iload_n 1, 1) := by decide +kernel
theorem dX4_registerByLog_1 : decode cX4_registerByLog 1 = .ok (.invokestatic 55, 3) := by decide +kernel
theorem dX4_registerByLog_4 : decode cX4_registerByLog 4 = .ok (.ifCond .ne 13, 3) := by decide +kernel
theorem dX4_registerByLog_7 : decode cX4_registerByLog 7 = .ok (.new 152, 3) := by decide +kernel
theorem dX4_registerByLog_10 : decode cX4_registerByLog 10 = .ok (.dup, 1) := by decide +kernel
theorem dX4_registerByLog_11 : decode cX4_registerByLog 11 = .ok (.ldc 59, 2) := by decide +kernel
theorem dX4_registerByLog_13 : decode cX4_registerByLog 13 = .ok (.invokespecial 156, 3) := by decide +kernel
theorem dX4_registerByLog_16 : decode cX4_registerByLog 16 = .ok (.athrow, 1) := by decide +kernel
theorem dX4_registerByLog_17 : decode cX4_registerByLog 17 = .ok (.iconst 0, 1) := by decide +kernel
theorem dX4_registerByLog_18 : decode cX4_registerByLog 18 = .ok (.istore_n 2, 1) := by decide +kernel
theorem dX4_registerByLog_19 : decode cX4_registerByLog 19 = .ok (.iconst 0, 1) := by decide +kernel
theorem dX4_registerByLog_20 : decode cX4_registerByLog 20 = .ok (.istore_n 3, 1) := by decide +kernel
theorem dX4_registerByLog_21 : decode cX4_registerByLog 21 = .ok (.iload_n 3, 1) := by decide +kernel
theorem dX4_registerByLog_22 : decode cX4_registerByLog 22 = .ok (.aload_n 0, 1) := by decide +kernel
theorem dX4_registerByLog_23 : decode cX4_registerByLog 23 = .ok (.getfield 29, 3) := by decide +kernel
theorem dX4_registerByLog_26 : decode cX4_registerByLog 26 = .ok (.getfield 171, 3) := by decide +kernel
theorem dX4_registerByLog_29 : decode cX4_registerByLog 29 = .ok (.if_icmp .ge 41, 3) := by decide +kernel
theorem dX4_registerByLog_32 : decode cX4_registerByLog 32 = .ok (.aload_n 0, 1) := by decide +kernel
theorem dX4_registerByLog_33 : decode cX4_registerByLog 33 = .ok (.getfield 29, 3) := by decide +kernel
theorem dX4_registerByLog_36 : decode cX4_registerByLog 36 = .ok (.getfield 174, 3) := by decide +kernel
theorem dX4_registerByLog_39 : decode cX4_registerByLog 39 = .ok (.iload_n 3, 1) := by decide +kernel
theorem dX4_registerByLog_40 : decode cX4_registerByLog 40 = .ok (.iaload, 1) := by decide +kernel
theorem dX4_registerByLog_41 : decode cX4_registerByLog 41 = .ok (.istore 4, 2) := by decide +kernel
theorem dX4_registerByLog_43 : decode cX4_registerByLog 43 = .ok (.iload 4, 2) := by decide +kernel
theorem dX4_registerByLog_45 : decode cX4_registerByLog 45 = .ok (.sipush 1000, 3) := by decide +kernel
theorem dX4_registerByLog_48 : decode cX4_registerByLog 48 = .ok (.idiv, 1) := by decide +kernel
theorem dX4_registerByLog_49 : decode cX4_registerByLog 49 = .ok (.iload_n 1, 1) := by decide +kernel
theorem dX4_registerByLog_50 : decode cX4_registerByLog 50 = .ok (.if_icmp .ne 14, 3) := by decide +kernel
theorem dX4_registerByLog_53 : decode cX4_registerByLog 53 = .ok (.iload_n 2, 1) := by decide +kernel
theorem dX4_registerByLog_54 : decode cX4_registerByLog 54 = .ok (.iload 4, 2) := by decide +kernel
theorem dX4_registerByLog_56 : decode cX4_registerByLog 56 = .ok (.sipush 1000, 3) := by decide +kernel
theorem dX4_registerByLog_59 : decode cX4_registerByLog 59 = .ok (.irem, 1) := by decide +kernel
theorem dX4_registerByLog_60 : decode cX4_registerByLog 60 = .ok (.invokestatic 177, 3) := by decide +kernel
theorem dX4_registerByLog_63 : decode cX4_registerByLog 63 = .ok (.istore_n 2, 1) := by decide +kernel
theorem dX4_registerByLog_64 : decode cX4_registerByLog 64 = .ok (.iinc 3 1, 3) := by decide +kernel
theorem dX4_registerByLog_67 : decode cX4_registerByLog 67 = .ok (.goto (-46), 3) := by decide +kernel
theorem dX4_registerByLog_70 : decode cX4_registerByLog 70 = .ok (.iload_n 2, 1) := by decide +kernel
theorem dX4_registerByLog_71 : decode cX4_registerByLog 71 = .ok (.ireturn, 1) := by decide +kernel
set_option maxRecDepth 20000 in
theorem ggX4_forecast_X4_isRegister : GoodIn wsX4_forecast wsX4_isRegister := goodIn_r _ [11, 12, 13, 10, 14] (by decide +kernel) (by decide +kernel)
set_option maxRecDepth 20000 in
theorem gX4_forecast_X4_isRegister : GoodIn wsX4_forecast (va_wsS RX4 55 yX4_isRegister wsX4_isRegister) := goodIn_app (goodIn_of _ (by decide +kernel)) ggX4_forecast_X4_isRegister
set_option maxRecDepth 20000 in
theorem ggX4_forecast_Jx4a65c_isEmpty_aae02 : GoodIn wsX4_forecast wsJx4a65c_isEmpty_aae02 := goodIn_r _ [19, 20, 115, 116, 117] (by decide +kernel) (by decide +kernel)
set_option maxRecDepth 20000 in
theorem gX4_forecast_Jx4a65c_isEmpty_aae02 : GoodIn wsX4_forecast (wsV RX4 119 RJx4a65c yJx4a65c_isEmpty_aae02 wsJx4a65c_isEmpty_aae02) := goodIn_app (goodIn_of _ (by decide +kernel)) ggX4_forecast_Jx4a65c_isEmpty_aae02
set_option maxRecDepth 20000 in
theorem ggX4_forecast_X4_startInto : GoodIn wsX4_forecast wsX4_startInto := goodIn_ca (goodIn_r _ [24, 5, 25, 26, 27, 28, 29, 30, 31, 32, 33, 34, 35, 36, 37, 38, 39, 40, 41, 18, 42, 20, 43, 44, 45, 46, 47, 48, 49, 50, 51, 52, 53, 54, 55, 56, 57, 58, 59, 60, 61, 62, 10, 63, 64, 65, 66, 67, 68, 69, 70, 71, 72, 73, 74, 75, 76, 77, 78, 79, 80, 81, 82, 83, 84, 85, 86, 87, 88, 89, 90, 91, 92, 93, 94, 95, 96, 97, 98, 99, 100, 101, 102, 103, 104, 105, 106, 107, 108, 109, 110, 111, 112, 113, 114, 115, 116, 117, 118, 119, 120, 121, 122, 123, 124, 125] (by decide +kernel) (by decide +kernel)) (goodIn_sub (fun _ h => List.mem_cons_of_mem _ (List.mem_append_right _ h)) (by decide +kernel))
set_option maxRecDepth 20000 in
theorem gX4_forecast_X4_startInto : GoodIn wsX4_forecast (wsV RX4 125 RX4 yX4_startInto wsX4_startInto) := goodIn_app (goodIn_of _ (by decide +kernel)) ggX4_forecast_X4_startInto
theorem dX4_forecast_0 : decode cX4_forecast 0 = .ok (.iload_n 1, 1) := by decide +kernel
theorem dX4_forecast_1 : decode cX4_forecast 1 = .ok (.invokestatic 55, 3) := by decide +kernel
theorem dX4_forecast_4 : decode cX4_forecast 4 = .ok (.ifCond .ne 13, 3) := by decide +kernel
theorem dX4_forecast_7 : decode cX4_forecast 7 = .ok (.new 152, 3) := by decide +kernel
theorem dX4_forecast_10 : decode cX4_forecast 10 = .ok (.dup, 1) := by decide +kernel
theorem dX4_forecast_11 : decode cX4_forecast 11 = .ok (.ldc 59, 2) := by decide +kernel
theorem dX4_forecast_13 : decode cX4_forecast 13 = .ok (.invokespecial 156, 3) := by decide +kernel
theorem dX4_forecast_16 : decode cX4_forecast 16 = .ok (.athrow, 1) := by decide +kernel
theorem dX4_forecast_17 : decode cX4_forecast 17 = .ok (.aload_n 0, 1) := by decide +kernel
theorem dX4_forecast_18 : decode cX4_forecast 18 = .ok (.getfield 16, 3) := by decide +kernel
theorem dX4_forecast_21 : decode cX4_forecast 21 = .ok (.invokevirtual 119, 3) := by decide +kernel
theorem dX4_forecast_24 : decode cX4_forecast 24 = .ok (.ifCond .eq 13, 3) := by decide +kernel
theorem dX4_forecast_27 : decode cX4_forecast 27 = .ok (.new 65, 3) := by decide +kernel
theorem dX4_forecast_30 : decode cX4_forecast 30 = .ok (.dup, 1) := by decide +kernel
theorem dX4_forecast_31 : decode cX4_forecast 31 = .ok (.ldc 181, 2) := by decide +kernel
theorem dX4_forecast_33 : decode cX4_forecast 33 = .ok (.invokespecial 69, 3) := by decide +kernel
theorem dX4_forecast_36 : decode cX4_forecast 36 = .ok (.athrow, 1) := by decide +kernel
theorem dX4_forecast_37 : decode cX4_forecast 37 = .ok (.aload_n 0, 1) := by decide +kernel
theorem dX4_forecast_38 : decode cX4_forecast 38 = .ok (.aload_n 0, 1) := by decide +kernel
theorem dX4_forecast_39 : decode cX4_forecast 39 = .ok (.getfield 33, 3) := by decide +kernel
theorem dX4_forecast_42 : decode cX4_forecast 42 = .ok (.invokevirtual 125, 3) := by decide +kernel
theorem dX4_forecast_45 : decode cX4_forecast 45 = .ok (.aload_n 0, 1) := by decide +kernel
theorem dX4_forecast_46 : decode cX4_forecast 46 = .ok (.getfield 33, 3) := by decide +kernel
theorem dX4_forecast_49 : decode cX4_forecast 49 = .ok (.getfield 168, 3) := by decide +kernel
theorem dX4_forecast_52 : decode cX4_forecast 52 = .ok (.iload_n 1, 1) := by decide +kernel
theorem dX4_forecast_53 : decode cX4_forecast 53 = .ok (.iaload, 1) := by decide +kernel
theorem dX4_forecast_54 : decode cX4_forecast 54 = .ok (.ireturn, 1) := by decide +kernel
theorem dX4_entries_0 : decode cX4_entries 0 = .ok (.aload_n 0, 1) := by decide +kernel
theorem dX4_entries_1 : decode cX4_entries 1 = .ok (.getfield 29, 3) := by decide +kernel
theorem dX4_entries_4 : decode cX4_entries 4 = .ok (.getfield 171, 3) := by decide +kernel
theorem dX4_entries_7 : decode cX4_entries 7 = .ok (.ireturn, 1) := by decide +kernel
theorem dX4_entry_0 : decode cX4_entry 0 = .ok (.iload_n 1, 1) := by decide +kernel
theorem dX4_entry_1 : decode cX4_entry 1 = .ok (.ifCond .lt 14, 3) := by decide +kernel
theorem dX4_entry_4 : decode cX4_entry 4 = .ok (.iload_n 1, 1) := by decide +kernel
theorem dX4_entry_5 : decode cX4_entry 5 = .ok (.aload_n 0, 1) := by decide +kernel
theorem dX4_entry_6 : decode cX4_entry 6 = .ok (.getfield 29, 3) := by decide +kernel
theorem dX4_entry_9 : decode cX4_entry 9 = .ok (.getfield 171, 3) := by decide +kernel
theorem dX4_entry_12 : decode cX4_entry 12 = .ok (.if_icmp .lt 13, 3) := by decide +kernel
theorem dX4_entry_15 : decode cX4_entry 15 = .ok (.new 152, 3) := by decide +kernel
theorem dX4_entry_18 : decode cX4_entry 18 = .ok (.dup, 1) := by decide +kernel
theorem dX4_entry_19 : decode cX4_entry 19 = .ok (.ldc 183, 2) := by decide +kernel
theorem dX4_entry_21 : decode cX4_entry 21 = .ok (.invokespecial 156, 3) := by decide +kernel
theorem dX4_entry_24 : decode cX4_entry 24 = .ok (.athrow, 1) := by decide +kernel
theorem dX4_entry_25 : decode cX4_entry 25 = .ok (.aload_n 0, 1) := by decide +kernel
theorem dX4_entry_26 : decode cX4_entry 26 = .ok (.getfield 29, 3) := by decide +kernel
theorem dX4_entry_29 : decode cX4_entry 29 = .ok (.getfield 174, 3) := by decide +kernel
theorem dX4_entry_32 : decode cX4_entry 32 = .ok (.iload_n 1, 1) := by decide +kernel
theorem dX4_entry_33 : decode cX4_entry 33 = .ok (.iaload, 1) := by decide +kernel
theorem dX4_entry_34 : decode cX4_entry 34 = .ok (.ireturn, 1) := by decide +kernel
set_option maxRecDepth 20000 in
theorem ggX4_seal_X4_isWithin : GoodIn wsX4_seal wsX4_isWithin := goodIn_r _ [15] (by decide +kernel) (by decide +kernel)
set_option maxRecDepth 20000 in
theorem gX4_seal_X4_isWithin : GoodIn wsX4_seal (va_wsS RX4 44 yX4_isWithin wsX4_isWithin) := goodIn_app (goodIn_of _ (by decide +kernel)) ggX4_seal_X4_isWithin
set_option maxRecDepth 20000 in
theorem ggX4_seal_Jx4a65c_size_8abf5 : GoodIn wsX4_seal wsJx4a65c_size_8abf5 := goodIn_r _ [20, 21, 117, 118, 119] (by decide +kernel) (by decide +kernel)
set_option maxRecDepth 20000 in
theorem gX4_seal_Jx4a65c_size_8abf5 : GoodIn wsX4_seal (wsV RX4 61 RJx4a65c yJx4a65c_size_8abf5 wsJx4a65c_size_8abf5) := goodIn_app (goodIn_of _ (by decide +kernel)) ggX4_seal_Jx4a65c_size_8abf5
set_option maxRecDepth 20000 in
theorem ggX4_seal_X2_init : GoodIn wsX4_seal wsX2_init := goodIn_r _ [24, 25, 26, 27, 28, 29, 30, 31, 107, 108, 109] (by decide +kernel) (by decide +kernel)
set_option maxRecDepth 20000 in
theorem gX4_seal_X2_init : GoodIn wsX4_seal (wsX2_init) := ggX4_seal_X2_init
set_option maxRecDepth 20000 in
theorem ggX4_seal_X2_bindTo : GoodIn wsX4_seal wsX2_bindTo := goodIn_ca (goodIn_r _ [35, 31, 36, 37, 38, 39, 40, 41, 42, 9, 43, 44, 45, 46, 47, 28, 107, 108, 109] (by decide +kernel) (by decide +kernel)) (goodIn_sub (fun _ h => List.mem_cons_of_mem _ (List.mem_append_right _ h)) (by decide +kernel))
set_option maxRecDepth 20000 in
theorem gX4_seal_X2_bindTo : GoodIn wsX4_seal (wsV RX4 194 RX2 yX2_bindTo wsX2_bindTo) := goodIn_app (goodIn_of _ (by decide +kernel)) ggX4_seal_X2_bindTo
set_option maxRecDepth 20000 in
theorem ggX4_seal_Jx4a65c_add_9ea2d : GoodIn wsX4_seal wsJx4a65c_add_9ea2d := goodIn_r _ [51, 52, 53, 54, 21, 55, 56, 57, 19, 58, 59, 60, 61, 62, 63, 64, 65, 66, 67, 68, 69, 70, 71, 72, 73, 74, 75, 76, 77, 78, 79, 80, 81, 82, 83, 84, 85, 86, 87, 88, 89, 90, 91, 92, 93, 94, 95, 96, 97, 98, 37, 38, 39, 117, 118, 119] (by decide +kernel) (by decide +kernel)
set_option maxRecDepth 20000 in
theorem gX4_seal_Jx4a65c_add_9ea2d : GoodIn wsX4_seal (wsV RX4 75 RJx4a65c yJx4a65c_add_9ea2d wsJx4a65c_add_9ea2d) := goodIn_app (goodIn_of _ (by decide +kernel)) ggX4_seal_Jx4a65c_add_9ea2d
theorem dX4_seal_0 : decode cX4_seal 0 = .ok (.iload_n 1, 1) := by decide +kernel
theorem dX4_seal_1 : decode cX4_seal 1 = .ok (.iconst 1, 1) := by decide +kernel
theorem dX4_seal_2 : decode cX4_seal 2 = .ok (.bipush 7, 2) := by decide +kernel
theorem dX4_seal_4 : decode cX4_seal 4 = .ok (.invokestatic 44, 3) := by decide +kernel
theorem dX4_seal_7 : decode cX4_seal 7 = .ok (.ifCond .eq 12, 3) := by decide +kernel
theorem dX4_seal_10 : decode cX4_seal 10 = .ok (.iload_n 2, 1) := by decide +kernel
theorem dX4_seal_11 : decode cX4_seal 11 = .ok (.iconst 1, 1) := by decide +kernel
theorem dX4_seal_12 : decode cX4_seal 12 = .ok (.iconst 5, 1) := by decide +kernel
theorem dX4_seal_13 : decode cX4_seal 13 = .ok (.invokestatic 44, 3) := by decide +kernel
theorem dX4_seal_16 : decode cX4_seal 16 = .ok (.ifCond .ne 13, 3) := by decide +kernel
theorem dX4_seal_19 : decode cX4_seal 19 = .ok (.new 48, 3) := by decide +kernel
theorem dX4_seal_22 : decode cX4_seal 22 = .ok (.dup, 1) := by decide +kernel
theorem dX4_seal_23 : decode cX4_seal 23 = .ok (.ldc 185, 2) := by decide +kernel
theorem dX4_seal_25 : decode cX4_seal 25 = .ok (.invokespecial 52, 3) := by decide +kernel
theorem dX4_seal_28 : decode cX4_seal 28 = .ok (.athrow, 1) := by decide +kernel
theorem dX4_seal_29 : decode cX4_seal 29 = .ok (.aload_n 0, 1) := by decide +kernel
theorem dX4_seal_30 : decode cX4_seal 30 = .ok (.getfield 36, 3) := by decide +kernel
theorem dX4_seal_33 : decode cX4_seal 33 = .ok (.bipush 114, 2) := by decide +kernel
theorem dX4_seal_35 : decode cX4_seal 35 = .ok (.if_icmp .ne 15, 3) := by decide +kernel
theorem dX4_seal_38 : decode cX4_seal 38 = .ok (.aload_n 0, 1) := by decide +kernel
theorem dX4_seal_39 : decode cX4_seal 39 = .ok (.getfield 20, 3) := by decide +kernel
theorem dX4_seal_42 : decode cX4_seal 42 = .ok (.invokevirtual 61, 3) := by decide +kernel
theorem dX4_seal_45 : decode cX4_seal 45 = .ok (.bipush 8, 2) := by decide +kernel
theorem dX4_seal_47 : decode cX4_seal 47 = .ok (.if_icmp .lt 13, 3) := by decide +kernel
theorem dX4_seal_50 : decode cX4_seal 50 = .ok (.new 65, 3) := by decide +kernel
theorem dX4_seal_53 : decode cX4_seal 53 = .ok (.dup, 1) := by decide +kernel
theorem dX4_seal_54 : decode cX4_seal 54 = .ok (.ldc 187, 2) := by decide +kernel
theorem dX4_seal_56 : decode cX4_seal 56 = .ok (.invokespecial 69, 3) := by decide +kernel
theorem dX4_seal_59 : decode cX4_seal 59 = .ok (.athrow, 1) := by decide +kernel
theorem dX4_seal_60 : decode cX4_seal 60 = .ok (.new 189, 3) := by decide +kernel
theorem dX4_seal_63 : decode cX4_seal 63 = .ok (.dup, 1) := by decide +kernel
theorem dX4_seal_64 : decode cX4_seal 64 = .ok (.iload_n 1, 1) := by decide +kernel
theorem dX4_seal_65 : decode cX4_seal 65 = .ok (.iload_n 2, 1) := by decide +kernel
theorem dX4_seal_66 : decode cX4_seal 66 = .ok (.invokespecial 191, 3) := by decide +kernel
theorem dX4_seal_69 : decode cX4_seal 69 = .ok (.astore_n 3, 1) := by decide +kernel
theorem dX4_seal_70 : decode cX4_seal 70 = .ok (.aload_n 3, 1) := by decide +kernel
theorem dX4_seal_71 : decode cX4_seal 71 = .ok (.aload_n 0, 1) := by decide +kernel
theorem dX4_seal_72 : decode cX4_seal 72 = .ok (.getfield 29, 3) := by decide +kernel
theorem dX4_seal_75 : decode cX4_seal 75 = .ok (.getfield 168, 3) := by decide +kernel
theorem dX4_seal_78 : decode cX4_seal 78 = .ok (.invokevirtual 194, 3) := by decide +kernel
theorem dX4_seal_81 : decode cX4_seal 81 = .ok (.pop, 1) := by decide +kernel
theorem dX4_seal_82 : decode cX4_seal 82 = .ok (.aload_n 0, 1) := by decide +kernel
theorem dX4_seal_83 : decode cX4_seal 83 = .ok (.getfield 20, 3) := by decide +kernel
theorem dX4_seal_86 : decode cX4_seal 86 = .ok (.aload_n 3, 1) := by decide +kernel
theorem dX4_seal_87 : decode cX4_seal 87 = .ok (.invokevirtual 75, 3) := by decide +kernel
theorem dX4_seal_90 : decode cX4_seal 90 = .ok (.pop, 1) := by decide +kernel
theorem dX4_seal_91 : decode cX4_seal 91 = .ok (.aload_n 0, 1) := by decide +kernel
theorem dX4_seal_92 : decode cX4_seal 92 = .ok (.getfield 20, 3) := by decide +kernel
theorem dX4_seal_95 : decode cX4_seal 95 = .ok (.invokevirtual 61, 3) := by decide +kernel
theorem dX4_seal_98 : decode cX4_seal 98 = .ok (.iconst 1, 1) := by decide +kernel
theorem dX4_seal_99 : decode cX4_seal 99 = .ok (.isub, 1) := by decide +kernel
theorem dX4_seal_100 : decode cX4_seal 100 = .ok (.ireturn, 1) := by decide +kernel
set_option maxRecDepth 20000 in
theorem ggX4_sealAhead_X4_secretAt : GoodIn wsX4_sealAhead wsX4_secretAt := goodIn_ca (goodIn_r _ [9, 10, 11, 12, 13, 14, 15, 16, 17, 18, 19, 20, 21, 8, 22, 23, 24, 25, 26, 27, 28, 29, 30, 31, 32, 33, 34, 35, 36, 37, 38, 39, 128, 129, 130, 131, 132, 133, 134, 135, 143, 144, 145] (by decide +kernel) (by decide +kernel)) (goodIn_sub (fun _ h => List.mem_cons_of_mem _ (List.mem_append_left _ (List.mem_append_right _ h))) (by decide +kernel))
set_option maxRecDepth 20000 in
theorem gX4_sealAhead_X4_secretAt : GoodIn wsX4_sealAhead (wsV RX4 198 RX4 yX4_secretAt wsX4_secretAt) := goodIn_app (goodIn_of _ (by decide +kernel)) ggX4_sealAhead_X4_secretAt
set_option maxRecDepth 20000 in
theorem ggX4_sealAhead_X4_isOpen : GoodIn wsX4_sealAhead wsX4_isOpen := goodIn_ca (goodIn_r _ [43, 44, 45, 4, 46, 47, 48, 49, 50, 51, 52, 53, 54, 55, 56, 57, 58, 59, 60, 128, 129, 130, 131, 132, 133, 134, 135, 136, 137, 138, 139, 140, 141, 142, 146, 147, 148] (by decide +kernel) (by decide +kernel)) (goodIn_sub (fun _ h => List.mem_cons_of_mem _ (List.mem_append_right _ h)) (by decide +kernel))
set_option maxRecDepth 20000 in
theorem gX4_sealAhead_X4_isOpen : GoodIn wsX4_sealAhead (wsV RX4 202 RX4 yX4_isOpen wsX4_isOpen) := goodIn_app (goodIn_of _ (by decide +kernel)) ggX4_sealAhead_X4_isOpen
set_option maxRecDepth 20000 in
theorem ggX4_sealAhead_X4_startInto : GoodIn wsX4_sealAhead wsX4_startInto := goodIn_ca (goodIn_r _ [64, 65, 66, 67, 68, 69, 70, 71, 72, 73, 74, 75, 76, 77, 78, 79, 14, 15, 16, 17, 18, 19, 23, 24, 25, 26, 27, 28, 29, 30, 31, 32, 33, 34, 35, 36, 37, 38, 39, 80, 81, 82, 8, 83, 84, 85, 86, 87, 88, 89, 90, 91, 92, 93, 94, 95, 96, 97, 98, 99, 100, 101, 102, 103, 104, 105, 106, 107, 108, 109, 110, 111, 112, 113, 114, 115, 116, 117, 118, 119, 128, 129, 130, 131, 132, 133, 134, 135, 136, 137, 138, 139, 140, 141, 142, 143, 144, 145, 149, 150, 151, 152, 153, 154, 155, 156] (by decide +kernel) (by decide +kernel)) (goodIn_sub (fun _ h => List.mem_cons_of_mem _ (List.mem_append_right _ h)) (by decide +kernel))
set_option maxRecDepth 20000 in
theorem gX4_sealAhead_X4_startInto : GoodIn wsX4_sealAhead (wsV RX4 125 RX4 yX4_startInto wsX4_startInto) := goodIn_app (goodIn_of _ (by decide +kernel)) ggX4_sealAhead_X4_startInto
set_option maxRecDepth 20000 in
theorem ggX4_sealAhead_X2_bindTo : GoodIn wsX4_sealAhead wsX2_bindTo := goodIn_ca (goodIn_r _ [123, 55, 124, 125, 126, 127, 51, 52, 53, 49, 54, 56, 57, 58, 59, 60, 146, 147, 148] (by decide +kernel) (by decide +kernel)) (goodIn_sub (fun _ h => List.mem_cons_of_mem _ (List.mem_append_right _ h)) (by decide +kernel))
set_option maxRecDepth 20000 in
theorem gX4_sealAhead_X2_bindTo : GoodIn wsX4_sealAhead (wsV RX4 194 RX2 yX2_bindTo wsX2_bindTo) := goodIn_app (goodIn_of _ (by decide +kernel)) ggX4_sealAhead_X2_bindTo
theorem dX4_sealAhead_0 : decode cX4_sealAhead 0 = .ok (.aload_n 0, 1) := by decide +kernel
theorem dX4_sealAhead_1 : decode cX4_sealAhead 1 = .ok (.iload_n 1, 1) := by decide +kernel
theorem dX4_sealAhead_2 : decode cX4_sealAhead 2 = .ok (.invokevirtual 198, 3) := by decide +kernel
theorem dX4_sealAhead_5 : decode cX4_sealAhead 5 = .ok (.astore_n 2, 1) := by decide +kernel
theorem dX4_sealAhead_6 : decode cX4_sealAhead 6 = .ok (.aload_n 0, 1) := by decide +kernel
theorem dX4_sealAhead_7 : decode cX4_sealAhead 7 = .ok (.aload_n 2, 1) := by decide +kernel
theorem dX4_sealAhead_8 : decode cX4_sealAhead 8 = .ok (.invokevirtual 202, 3) := by decide +kernel
theorem dX4_sealAhead_11 : decode cX4_sealAhead 11 = .ok (.ifCond .ne 13, 3) := by decide +kernel
theorem dX4_sealAhead_14 : decode cX4_sealAhead 14 = .ok (.new 65, 3) := by decide +kernel
theorem dX4_sealAhead_17 : decode cX4_sealAhead 17 = .ok (.dup, 1) := by decide +kernel
theorem dX4_sealAhead_18 : decode cX4_sealAhead 18 = .ok (.ldc 206, 2) := by decide +kernel
theorem dX4_sealAhead_20 : decode cX4_sealAhead 20 = .ok (.invokespecial 69, 3) := by decide +kernel
theorem dX4_sealAhead_23 : decode cX4_sealAhead 23 = .ok (.athrow, 1) := by decide +kernel
theorem dX4_sealAhead_24 : decode cX4_sealAhead 24 = .ok (.aload_n 0, 1) := by decide +kernel
theorem dX4_sealAhead_25 : decode cX4_sealAhead 25 = .ok (.aload_n 0, 1) := by decide +kernel
theorem dX4_sealAhead_26 : decode cX4_sealAhead 26 = .ok (.getfield 33, 3) := by decide +kernel
theorem dX4_sealAhead_29 : decode cX4_sealAhead 29 = .ok (.invokevirtual 125, 3) := by decide +kernel
theorem dX4_sealAhead_32 : decode cX4_sealAhead 32 = .ok (.aload_n 2, 1) := by decide +kernel
theorem dX4_sealAhead_33 : decode cX4_sealAhead 33 = .ok (.aload_n 0, 1) := by decide +kernel
theorem dX4_sealAhead_34 : decode cX4_sealAhead 34 = .ok (.getfield 33, 3) := by decide +kernel
theorem dX4_sealAhead_37 : decode cX4_sealAhead 37 = .ok (.getfield 168, 3) := by decide +kernel
theorem dX4_sealAhead_40 : decode cX4_sealAhead 40 = .ok (.invokevirtual 194, 3) := by decide +kernel
theorem dX4_sealAhead_43 : decode cX4_sealAhead 43 = .ok (.ireturn, 1) := by decide +kernel
set_option maxRecDepth 20000 in
theorem ggX4_opens_X4_secretAt : GoodIn wsX4_opens wsX4_secretAt := goodIn_ca (goodIn_r _ [5, 6, 7, 8, 9, 10, 11, 12, 13, 14, 15, 16, 17, 4, 18, 19, 20, 21, 22, 23, 24, 25, 26, 27, 28, 29, 30, 31, 32, 33, 34, 35, 58, 59, 60, 61, 62, 63, 64, 65, 66, 67, 68] (by decide +kernel) (by decide +kernel)) (goodIn_sub (fun _ h => List.mem_cons_of_mem _ (List.mem_append_left _ (List.mem_append_right _ h))) (by decide +kernel))
set_option maxRecDepth 20000 in
theorem gX4_opens_X4_secretAt : GoodIn wsX4_opens (wsV RX4 198 RX4 yX4_secretAt wsX4_secretAt) := goodIn_app (goodIn_of _ (by decide +kernel)) ggX4_opens_X4_secretAt
set_option maxRecDepth 20000 in
theorem ggX4_opens_X4_isOpen : GoodIn wsX4_opens wsX4_isOpen := goodIn_ca (goodIn_r _ [39, 40, 41, 42, 43, 44, 45, 46, 47, 48, 49, 50, 51, 52, 53, 54, 55, 56, 57, 58, 59, 60, 61, 62, 63, 64, 65, 69, 70, 71, 72, 73, 74, 75, 76, 77, 78] (by decide +kernel) (by decide +kernel)) (goodIn_sub (fun _ h => List.mem_cons_of_mem _ (List.mem_append_right _ h)) (by decide +kernel))
set_option maxRecDepth 20000 in
theorem gX4_opens_X4_isOpen : GoodIn wsX4_opens (wsV RX4 202 RX4 yX4_isOpen wsX4_isOpen) := goodIn_app (goodIn_of _ (by decide +kernel)) ggX4_opens_X4_isOpen
theorem dX4_opens_0 : decode cX4_opens 0 = .ok (.aload_n 0, 1) := by decide +kernel
theorem dX4_opens_1 : decode cX4_opens 1 = .ok (.aload_n 0, 1) := by decide +kernel
theorem dX4_opens_2 : decode cX4_opens 2 = .ok (.iload_n 1, 1) := by decide +kernel
theorem dX4_opens_3 : decode cX4_opens 3 = .ok (.invokevirtual 198, 3) := by decide +kernel
theorem dX4_opens_6 : decode cX4_opens 6 = .ok (.invokevirtual 202, 3) := by decide +kernel
theorem dX4_opens_9 : decode cX4_opens 9 = .ok (.ireturn, 1) := by decide +kernel
set_option maxRecDepth 20000 in
theorem ggX4_isLost_X4_secretAt : GoodIn wsX4_isLost wsX4_secretAt := goodIn_ca (goodIn_r _ [7, 8, 9, 10, 11, 12, 13, 14, 15, 16, 17, 18, 19, 6, 20, 21, 22, 23, 24, 25, 26, 27, 28, 29, 30, 31, 32, 33, 34, 35, 36, 37, 117, 118, 119, 120, 121, 122, 123, 124, 132, 133, 134] (by decide +kernel) (by decide +kernel)) (goodIn_sub (fun _ h => List.mem_cons_of_mem _ (List.mem_append_left _ (List.mem_append_right _ h))) (by decide +kernel))
set_option maxRecDepth 20000 in
theorem gX4_isLost_X4_secretAt : GoodIn wsX4_isLost (wsV RX4 198 RX4 yX4_secretAt wsX4_secretAt) := goodIn_app (goodIn_of _ (by decide +kernel)) ggX4_isLost_X4_secretAt
set_option maxRecDepth 20000 in
theorem ggX4_isLost_X4_startInto : GoodIn wsX4_isLost wsX4_startInto := goodIn_ca (goodIn_r _ [41, 42, 43, 44, 45, 46, 47, 48, 49, 50, 51, 52, 53, 54, 55, 56, 12, 13, 14, 15, 16, 17, 21, 22, 23, 24, 25, 26, 27, 28, 29, 30, 31, 32, 33, 34, 35, 36, 37, 57, 58, 59, 6, 60, 61, 62, 63, 64, 65, 66, 67, 68, 69, 70, 71, 72, 73, 74, 75, 76, 77, 78, 79, 80, 81, 82, 83, 84, 85, 86, 87, 88, 89, 90, 91, 92, 93, 94, 95, 96, 117, 118, 119, 120, 121, 122, 123, 124, 125, 126, 127, 128, 129, 130, 131, 132, 133, 134, 135, 136, 137, 138, 139, 140, 141, 142] (by decide +kernel) (by decide +kernel)) (goodIn_sub (fun _ h => List.mem_cons_of_mem _ (List.mem_append_right _ h)) (by decide +kernel))
set_option maxRecDepth 20000 in
theorem gX4_isLost_X4_startInto : GoodIn wsX4_isLost (wsV RX4 125 RX4 yX4_startInto wsX4_startInto) := goodIn_app (goodIn_of _ (by decide +kernel)) ggX4_isLost_X4_startInto
set_option maxRecDepth 20000 in
theorem ggX4_isLost_X4_allRan : GoodIn wsX4_isLost wsX4_allRan := goodIn_r _ [100, 101, 42, 12, 13, 14, 15, 16, 17, 125, 126, 127, 128, 129, 130, 131, 117, 118, 119, 120, 121, 122, 123, 124, 132, 133, 134] (by decide +kernel) (by decide +kernel)
set_option maxRecDepth 20000 in
theorem gX4_isLost_X4_allRan : GoodIn wsX4_isLost (wsV RX4 130 RX4 yX4_allRan wsX4_allRan) := goodIn_app (goodIn_of _ (by decide +kernel)) ggX4_isLost_X4_allRan
set_option maxRecDepth 20000 in
theorem ggX4_isLost_X2_fits : GoodIn wsX4_isLost wsX2_fits := goodIn_ca (goodIn_r _ [106, 107, 108, 109, 105, 110, 111, 112, 113, 114, 115, 116, 143, 144, 145] (by decide +kernel) (by decide +kernel)) (goodIn_sub (fun _ h => List.mem_cons_of_mem _ (List.mem_append_right _ h)) (by decide +kernel))
set_option maxRecDepth 20000 in
theorem gX4_isLost_X2_fits : GoodIn wsX4_isLost (wsV RX4 208 RX2 yX2_fits wsX2_fits) := goodIn_app (goodIn_of _ (by decide +kernel)) ggX4_isLost_X2_fits
theorem dX4_isLost_0 : decode cX4_isLost 0 = .ok (.aload_n 0, 1) := by decide +kernel
theorem dX4_isLost_1 : decode cX4_isLost 1 = .ok (.iload_n 1, 1) := by decide +kernel
theorem dX4_isLost_2 : decode cX4_isLost 2 = .ok (.invokevirtual 198, 3) := by decide +kernel
theorem dX4_isLost_5 : decode cX4_isLost 5 = .ok (.astore_n 2, 1) := by decide +kernel
theorem dX4_isLost_6 : decode cX4_isLost 6 = .ok (.aload_n 0, 1) := by decide +kernel
theorem dX4_isLost_7 : decode cX4_isLost 7 = .ok (.aload_n 0, 1) := by decide +kernel
theorem dX4_isLost_8 : decode cX4_isLost 8 = .ok (.getfield 33, 3) := by decide +kernel
theorem dX4_isLost_11 : decode cX4_isLost 11 = .ok (.invokevirtual 125, 3) := by decide +kernel
theorem dX4_isLost_14 : decode cX4_isLost 14 = .ok (.aload_n 0, 1) := by decide +kernel
theorem dX4_isLost_15 : decode cX4_isLost 15 = .ok (.aload_n 0, 1) := by decide +kernel
theorem dX4_isLost_16 : decode cX4_isLost 16 = .ok (.getfield 33, 3) := by decide +kernel
theorem dX4_isLost_19 : decode cX4_isLost 19 = .ok (.invokevirtual 130, 3) := by decide +kernel
theorem dX4_isLost_22 : decode cX4_isLost 22 = .ok (.ifCond .eq 17, 3) := by decide +kernel
theorem dX4_isLost_25 : decode cX4_isLost 25 = .ok (.aload_n 2, 1) := by decide +kernel
theorem dX4_isLost_26 : decode cX4_isLost 26 = .ok (.aload_n 0, 1) := by decide +kernel
theorem dX4_isLost_27 : decode cX4_isLost 27 = .ok (.getfield 33, 3) := by decide +kernel
theorem dX4_isLost_30 : decode cX4_isLost 30 = .ok (.getfield 168, 3) := by decide +kernel
theorem dX4_isLost_33 : decode cX4_isLost 33 = .ok (.invokevirtual 208, 3) := by decide +kernel
theorem dX4_isLost_36 : decode cX4_isLost 36 = .ok (.ifCond .ne 7, 3) := by decide +kernel
theorem dX4_isLost_39 : decode cX4_isLost 39 = .ok (.iconst 1, 1) := by decide +kernel
theorem dX4_isLost_40 : decode cX4_isLost 40 = .ok (.goto 4, 3) := by decide +kernel
theorem dX4_isLost_43 : decode cX4_isLost 43 = .ok (.iconst 0, 1) := by decide +kernel
theorem dX4_isLost_44 : decode cX4_isLost 44 = .ok (.ireturn, 1) := by decide +kernel
set_option maxRecDepth 20000 in
theorem ggX4_nextOpen_Jx4a65c_size_8abf5 : GoodIn wsX4_nextOpen wsJx4a65c_size_8abf5 := goodIn_r _ [13, 14, 63, 64, 65] (by decide +kernel) (by decide +kernel)
set_option maxRecDepth 20000 in
theorem gX4_nextOpen_Jx4a65c_size_8abf5 : GoodIn wsX4_nextOpen (wsV RX4 61 RJx4a65c yJx4a65c_size_8abf5 wsJx4a65c_size_8abf5) := goodIn_app (goodIn_of _ (by decide +kernel)) ggX4_nextOpen_Jx4a65c_size_8abf5
set_option maxRecDepth 20000 in
theorem ggX4_nextOpen_Jx4a65c_get_915e3 : GoodIn wsX4_nextOpen wsJx4a65c_get_915e3 := goodIn_r _ [18, 14, 19, 20, 21, 22, 23, 24, 25, 26, 27, 28, 29, 12, 30, 31, 63, 64, 65] (by decide +kernel) (by decide +kernel)
set_option maxRecDepth 20000 in
theorem gX4_nextOpen_Jx4a65c_get_915e3 : GoodIn wsX4_nextOpen (wsV RX4 141 RJx4a65c yJx4a65c_get_915e3 wsJx4a65c_get_915e3) := goodIn_app (goodIn_of _ (by decide +kernel)) ggX4_nextOpen_Jx4a65c_get_915e3
set_option maxRecDepth 20000 in
theorem ggX4_nextOpen_X4_isOpen : GoodIn wsX4_nextOpen wsX4_isOpen := goodIn_ca (goodIn_r _ [36, 37, 38, 39, 40, 41, 42, 43, 44, 45, 46, 47, 48, 49, 50, 51, 52, 53, 54, 55, 56, 57, 58, 59, 60, 61, 62, 66, 67, 68, 69, 70, 71, 72, 73, 74, 75] (by decide +kernel) (by decide +kernel)) (goodIn_sub (fun _ h => List.mem_cons_of_mem _ (List.mem_append_right _ h)) (by decide +kernel))
set_option maxRecDepth 20000 in
theorem gX4_nextOpen_X4_isOpen : GoodIn wsX4_nextOpen (wsV RX4 202 RX4 yX4_isOpen wsX4_isOpen) := goodIn_app (goodIn_of _ (by decide +kernel)) ggX4_nextOpen_X4_isOpen
theorem dX4_nextOpen_0 : decode cX4_nextOpen 0 = .ok (.iload_n 1, 1) := by decide +kernel
theorem dX4_nextOpen_1 : decode cX4_nextOpen 1 = .ok (.iconst 0, 1) := by decide +kernel
theorem dX4_nextOpen_2 : decode cX4_nextOpen 2 = .ok (.invokestatic 212, 3) := by decide +kernel
theorem dX4_nextOpen_5 : decode cX4_nextOpen 5 = .ok (.istore_n 2, 1) := by decide +kernel
theorem dX4_nextOpen_6 : decode cX4_nextOpen 6 = .ok (.iload_n 2, 1) := by decide +kernel
theorem dX4_nextOpen_7 : decode cX4_nextOpen 7 = .ok (.aload_n 0, 1) := by decide +kernel
theorem dX4_nextOpen_8 : decode cX4_nextOpen 8 = .ok (.getfield 20, 3) := by decide +kernel
theorem dX4_nextOpen_11 : decode cX4_nextOpen 11 = .ok (.invokevirtual 61, 3) := by decide +kernel
theorem dX4_nextOpen_14 : decode cX4_nextOpen 14 = .ok (.if_icmp .ge 29, 3) := by decide +kernel
theorem dX4_nextOpen_17 : decode cX4_nextOpen 17 = .ok (.aload_n 0, 1) := by decide +kernel
theorem dX4_nextOpen_18 : decode cX4_nextOpen 18 = .ok (.aload_n 0, 1) := by decide +kernel
theorem dX4_nextOpen_19 : decode cX4_nextOpen 19 = .ok (.getfield 20, 3) := by decide +kernel
theorem dX4_nextOpen_22 : decode cX4_nextOpen 22 = .ok (.iload_n 2, 1) := by decide +kernel
theorem dX4_nextOpen_23 : decode cX4_nextOpen 23 = .ok (.invokevirtual 141, 3) := by decide +kernel
theorem dX4_nextOpen_26 : decode cX4_nextOpen 26 = .ok (.checkcast 189, 3) := by decide +kernel
theorem dX4_nextOpen_29 : decode cX4_nextOpen 29 = .ok (.invokevirtual 202, 3) := by decide +kernel
theorem dX4_nextOpen_32 : decode cX4_nextOpen 32 = .ok (.ifCond .eq 5, 3) := by decide +kernel
theorem dX4_nextOpen_35 : decode cX4_nextOpen 35 = .ok (.iload_n 2, 1) := by decide +kernel
theorem dX4_nextOpen_36 : decode cX4_nextOpen 36 = .ok (.ireturn, 1) := by decide +kernel
theorem dX4_nextOpen_37 : decode cX4_nextOpen 37 = .ok (.iinc 2 1, 3) := by decide +kernel
theorem dX4_nextOpen_40 : decode cX4_nextOpen 40 = .ok (.goto (-34), 3) := by decide +kernel
theorem dX4_nextOpen_43 : decode cX4_nextOpen 43 = .ok (.new 160, 3) := by decide +kernel
theorem dX4_nextOpen_46 : decode cX4_nextOpen 46 = .ok (.dup, 1) := by decide +kernel
theorem dX4_nextOpen_47 : decode cX4_nextOpen 47 = .ok (.ldc 217, 2) := by decide +kernel
theorem dX4_nextOpen_49 : decode cX4_nextOpen 49 = .ok (.invokespecial 164, 3) := by decide +kernel
theorem dX4_nextOpen_52 : decode cX4_nextOpen 52 = .ok (.athrow, 1) := by decide +kernel
set_option maxRecDepth 20000 in
theorem ggX4_setAgreed_X4_isWithin : GoodIn wsX4_setAgreed wsX4_isWithin := goodIn_r _ [7] (by decide +kernel) (by decide +kernel)
set_option maxRecDepth 20000 in
theorem gX4_setAgreed_X4_isWithin : GoodIn wsX4_setAgreed (va_wsS RX4 44 yX4_isWithin wsX4_isWithin) := goodIn_app (goodIn_of _ (by decide +kernel)) ggX4_setAgreed_X4_isWithin
set_option maxRecDepth 20000 in
theorem ggX4_setAgreed_X4_countAgreed : GoodIn wsX4_setAgreed wsX4_countAgreed := goodIn_ca (goodIn_r _ [11, 3, 12, 13, 14, 15, 16, 17, 18, 19] (by decide +kernel) (by decide +kernel)) (goodIn_sub (fun _ h => List.mem_cons_of_mem _ (List.mem_append_right _ h)) (by decide +kernel))
set_option maxRecDepth 20000 in
theorem gX4_setAgreed_X4_countAgreed : GoodIn wsX4_setAgreed (wsV RX4 221 RX4 yX4_countAgreed wsX4_countAgreed) := goodIn_app (goodIn_of _ (by decide +kernel)) ggX4_setAgreed_X4_countAgreed
theorem dX4_setAgreed_0 : decode cX4_setAgreed 0 = .ok (.iload_n 1, 1) := by decide +kernel
theorem dX4_setAgreed_1 : decode cX4_setAgreed 1 = .ok (.iconst 0, 1) := by decide +kernel
theorem dX4_setAgreed_2 : decode cX4_setAgreed 2 = .ok (.iconst 4, 1) := by decide +kernel
theorem dX4_setAgreed_3 : decode cX4_setAgreed 3 = .ok (.invokestatic 44, 3) := by decide +kernel
theorem dX4_setAgreed_6 : decode cX4_setAgreed 6 = .ok (.ifCond .ne 13, 3) := by decide +kernel
theorem dX4_setAgreed_9 : decode cX4_setAgreed 9 = .ok (.new 152, 3) := by decide +kernel
theorem dX4_setAgreed_12 : decode cX4_setAgreed 12 = .ok (.dup, 1) := by decide +kernel
theorem dX4_setAgreed_13 : decode cX4_setAgreed 13 = .ok (.ldc 219, 2) := by decide +kernel
theorem dX4_setAgreed_15 : decode cX4_setAgreed 15 = .ok (.invokespecial 156, 3) := by decide +kernel
theorem dX4_setAgreed_18 : decode cX4_setAgreed 18 = .ok (.athrow, 1) := by decide +kernel
theorem dX4_setAgreed_19 : decode cX4_setAgreed 19 = .ok (.aload_n 0, 1) := by decide +kernel
theorem dX4_setAgreed_20 : decode cX4_setAgreed 20 = .ok (.getfield 23, 3) := by decide +kernel
theorem dX4_setAgreed_23 : decode cX4_setAgreed 23 = .ok (.iload_n 1, 1) := by decide +kernel
theorem dX4_setAgreed_24 : decode cX4_setAgreed 24 = .ok (.iload_n 2, 1) := by decide +kernel
theorem dX4_setAgreed_25 : decode cX4_setAgreed 25 = .ok (.bastore, 1) := by decide +kernel
theorem dX4_setAgreed_26 : decode cX4_setAgreed 26 = .ok (.aload_n 0, 1) := by decide +kernel
theorem dX4_setAgreed_27 : decode cX4_setAgreed 27 = .ok (.invokevirtual 221, 3) := by decide +kernel
theorem dX4_setAgreed_30 : decode cX4_setAgreed 30 = .ok (.ireturn, 1) := by decide +kernel
set_option maxRecDepth 20000 in
theorem ggX4_recover_X4_secretAt : GoodIn wsX4_recover wsX4_secretAt := goodIn_ca (goodIn_r _ [13, 14, 15, 16, 17, 18, 19, 20, 21, 22, 23, 24, 25, 12, 26, 27, 28, 29, 30, 31, 32, 33, 34, 35, 36, 37, 38, 39, 40, 41, 42, 43, 80, 81, 82, 83, 84, 85, 86, 87, 98, 99, 100] (by decide +kernel) (by decide +kernel)) (goodIn_sub (fun _ h => List.mem_cons_of_mem _ (List.mem_append_left _ (List.mem_append_right _ h))) (by decide +kernel))
set_option maxRecDepth 20000 in
theorem gX4_recover_X4_secretAt : GoodIn wsX4_recover (wsV RX4 198 RX4 yX4_secretAt wsX4_secretAt) := goodIn_app (goodIn_of _ (by decide +kernel)) ggX4_recover_X4_secretAt
set_option maxRecDepth 20000 in
theorem ggX4_recover_X4_isOpen : GoodIn wsX4_recover wsX4_isOpen := goodIn_ca (goodIn_r _ [47, 5, 7, 8, 48, 49, 50, 51, 52, 53, 54, 55, 56, 57, 58, 59, 60, 61, 62, 80, 81, 82, 83, 84, 85, 86, 87, 91, 92, 93, 94, 95, 96, 97, 88, 89, 90] (by decide +kernel) (by decide +kernel)) (goodIn_sub (fun _ h => List.mem_cons_of_mem _ (List.mem_append_right _ h)) (by decide +kernel))
set_option maxRecDepth 20000 in
theorem gX4_recover_X4_isOpen : GoodIn wsX4_recover (wsV RX4 202 RX4 yX4_isOpen wsX4_isOpen) := goodIn_app (goodIn_of _ (by decide +kernel)) ggX4_recover_X4_isOpen
set_option maxRecDepth 20000 in
theorem ggX4_recover_X4_countAgreed : GoodIn wsX4_recover wsX4_countAgreed := goodIn_ca (goodIn_r _ [66, 67, 80, 81, 82, 83, 84, 85, 86, 87] (by decide +kernel) (by decide +kernel)) (goodIn_sub (fun _ h => List.mem_cons_of_mem _ (List.mem_append_right _ h)) (by decide +kernel))
set_option maxRecDepth 20000 in
theorem gX4_recover_X4_countAgreed : GoodIn wsX4_recover (wsV RX4 221 RX4 yX4_countAgreed wsX4_countAgreed) := goodIn_app (goodIn_of _ (by decide +kernel)) ggX4_recover_X4_countAgreed
set_option maxRecDepth 20000 in
theorem ggX4_recover_X2_bindTo : GoodIn wsX4_recover wsX2_bindTo := goodIn_ca (goodIn_r _ [71, 57, 72, 73, 74, 75, 53, 54, 55, 51, 56, 58, 59, 60, 61, 62, 88, 89, 90] (by decide +kernel) (by decide +kernel)) (goodIn_sub (fun _ h => List.mem_cons_of_mem _ (List.mem_append_right _ h)) (by decide +kernel))
set_option maxRecDepth 20000 in
theorem gX4_recover_X2_bindTo : GoodIn wsX4_recover (wsV RX4 194 RX2 yX2_bindTo wsX2_bindTo) := goodIn_app (goodIn_of _ (by decide +kernel)) ggX4_recover_X2_bindTo
set_option maxRecDepth 20000 in
theorem ggX4_recover_X4_forgetAgreed : GoodIn wsX4_recover wsX4_forgetAgreed := goodIn_ca (goodIn_r _ [79, 67, 80, 81, 82, 83, 84, 85, 86, 87] (by decide +kernel) (by decide +kernel)) (goodIn_sub (fun _ h => List.mem_cons_of_mem _ (List.mem_append_right _ h)) (by decide +kernel))
set_option maxRecDepth 20000 in
theorem gX4_recover_X4_forgetAgreed : GoodIn wsX4_recover (wsV RX4 234 RX4 yX4_forgetAgreed wsX4_forgetAgreed) := goodIn_app (goodIn_of _ (by decide +kernel)) ggX4_recover_X4_forgetAgreed
theorem dX4_recover_0 : decode cX4_recover 0 = .ok (.aload_n 0, 1) := by decide +kernel
theorem dX4_recover_1 : decode cX4_recover 1 = .ok (.iload_n 1, 1) := by decide +kernel
theorem dX4_recover_2 : decode cX4_recover 2 = .ok (.invokevirtual 198, 3) := by decide +kernel
theorem dX4_recover_5 : decode cX4_recover 5 = .ok (.astore_n 2, 1) := by decide +kernel
theorem dX4_recover_6 : decode cX4_recover 6 = .ok (.aload_n 0, 1) := by decide +kernel
theorem dX4_recover_7 : decode cX4_recover 7 = .ok (.getfield 36, 3) := by decide +kernel
theorem dX4_recover_10 : decode cX4_recover 10 = .ok (.bipush 114, 2) := by decide +kernel
theorem dX4_recover_12 : decode cX4_recover 12 = .ok (.if_icmp .ne 11, 3) := by decide +kernel
theorem dX4_recover_15 : decode cX4_recover 15 = .ok (.aload_n 0, 1) := by decide +kernel
theorem dX4_recover_16 : decode cX4_recover 16 = .ok (.aload_n 2, 1) := by decide +kernel
theorem dX4_recover_17 : decode cX4_recover 17 = .ok (.invokevirtual 202, 3) := by decide +kernel
theorem dX4_recover_20 : decode cX4_recover 20 = .ok (.ifCond .eq 13, 3) := by decide +kernel
theorem dX4_recover_23 : decode cX4_recover 23 = .ok (.new 65, 3) := by decide +kernel
theorem dX4_recover_26 : decode cX4_recover 26 = .ok (.dup, 1) := by decide +kernel
theorem dX4_recover_27 : decode cX4_recover 27 = .ok (.ldc 224, 2) := by decide +kernel
theorem dX4_recover_29 : decode cX4_recover 29 = .ok (.invokespecial 69, 3) := by decide +kernel
theorem dX4_recover_32 : decode cX4_recover 32 = .ok (.athrow, 1) := by decide +kernel
theorem dX4_recover_33 : decode cX4_recover 33 = .ok (.aload_n 0, 1) := by decide +kernel
theorem dX4_recover_34 : decode cX4_recover 34 = .ok (.invokevirtual 221, 3) := by decide +kernel
theorem dX4_recover_37 : decode cX4_recover 37 = .ok (.istore_n 3, 1) := by decide +kernel
theorem dX4_recover_38 : decode cX4_recover 38 = .ok (.iload_n 3, 1) := by decide +kernel
theorem dX4_recover_39 : decode cX4_recover 39 = .ok (.aload_n 2, 1) := by decide +kernel
theorem dX4_recover_40 : decode cX4_recover 40 = .ok (.getfield 226, 3) := by decide +kernel
theorem dX4_recover_43 : decode cX4_recover 43 = .ok (.if_icmp .ge 13, 3) := by decide +kernel
theorem dX4_recover_46 : decode cX4_recover 46 = .ok (.new 229, 3) := by decide +kernel
theorem dX4_recover_49 : decode cX4_recover 49 = .ok (.dup, 1) := by decide +kernel
theorem dX4_recover_50 : decode cX4_recover 50 = .ok (.ldc 231, 2) := by decide +kernel
theorem dX4_recover_52 : decode cX4_recover 52 = .ok (.invokespecial 233, 3) := by decide +kernel
theorem dX4_recover_55 : decode cX4_recover 55 = .ok (.athrow, 1) := by decide +kernel
theorem dX4_recover_56 : decode cX4_recover 56 = .ok (.aload_n 2, 1) := by decide +kernel
theorem dX4_recover_57 : decode cX4_recover 57 = .ok (.aload_n 0, 1) := by decide +kernel
theorem dX4_recover_58 : decode cX4_recover 58 = .ok (.getfield 29, 3) := by decide +kernel
theorem dX4_recover_61 : decode cX4_recover 61 = .ok (.getfield 168, 3) := by decide +kernel
theorem dX4_recover_64 : decode cX4_recover 64 = .ok (.invokevirtual 194, 3) := by decide +kernel
theorem dX4_recover_67 : decode cX4_recover 67 = .ok (.pop, 1) := by decide +kernel
theorem dX4_recover_68 : decode cX4_recover 68 = .ok (.aload_n 0, 1) := by decide +kernel
theorem dX4_recover_69 : decode cX4_recover 69 = .ok (.invokevirtual 234, 3) := by decide +kernel
theorem dX4_recover_72 : decode cX4_recover 72 = .ok (.iload_n 3, 1) := by decide +kernel
theorem dX4_recover_73 : decode cX4_recover 73 = .ok (.ireturn, 1) := by decide +kernel
set_option maxRecDepth 20000 in
theorem ggX4_openShare_Jx4a65c_isEmpty_aae02 : GoodIn wsX4_openShare wsJx4a65c_isEmpty_aae02 := goodIn_r _ [9, 10, 63, 64, 65] (by decide +kernel) (by decide +kernel)
set_option maxRecDepth 20000 in
theorem gX4_openShare_Jx4a65c_isEmpty_aae02 : GoodIn wsX4_openShare (wsV RX4 119 RJx4a65c yJx4a65c_isEmpty_aae02 wsJx4a65c_isEmpty_aae02) := goodIn_app (goodIn_of _ (by decide +kernel)) ggX4_openShare_Jx4a65c_isEmpty_aae02
set_option maxRecDepth 20000 in
theorem ggX4_openShare_Jx4a65c_size_8abf5 : GoodIn wsX4_openShare wsJx4a65c_size_8abf5 := goodIn_r _ [14, 10, 63, 64, 65] (by decide +kernel) (by decide +kernel)
set_option maxRecDepth 20000 in
theorem gX4_openShare_Jx4a65c_size_8abf5 : GoodIn wsX4_openShare (wsV RX4 61 RJx4a65c yJx4a65c_size_8abf5 wsJx4a65c_size_8abf5) := goodIn_app (goodIn_of _ (by decide +kernel)) ggX4_openShare_Jx4a65c_size_8abf5
set_option maxRecDepth 20000 in
theorem ggX4_openShare_Jx4a65c_get_915e3 : GoodIn wsX4_openShare wsJx4a65c_get_915e3 := goodIn_r _ [18, 10, 19, 20, 21, 22, 23, 24, 25, 26, 27, 28, 29, 8, 30, 31, 63, 64, 65] (by decide +kernel) (by decide +kernel)
set_option maxRecDepth 20000 in
theorem gX4_openShare_Jx4a65c_get_915e3 : GoodIn wsX4_openShare (wsV RX4 141 RJx4a65c yJx4a65c_get_915e3 wsJx4a65c_get_915e3) := goodIn_app (goodIn_of _ (by decide +kernel)) ggX4_openShare_Jx4a65c_get_915e3
set_option maxRecDepth 20000 in
theorem ggX4_openShare_X4_isOpen : GoodIn wsX4_openShare wsX4_isOpen := goodIn_ca (goodIn_r _ [36, 37, 38, 39, 40, 41, 42, 43, 44, 45, 46, 47, 48, 49, 50, 51, 52, 53, 54, 55, 56, 57, 58, 59, 60, 61, 62, 66, 67, 68, 69, 70, 71, 72, 73, 74, 75] (by decide +kernel) (by decide +kernel)) (goodIn_sub (fun _ h => List.mem_cons_of_mem _ (List.mem_append_right _ h)) (by decide +kernel))
set_option maxRecDepth 20000 in
theorem gX4_openShare_X4_isOpen : GoodIn wsX4_openShare (wsV RX4 202 RX4 yX4_isOpen wsX4_isOpen) := goodIn_app (goodIn_of _ (by decide +kernel)) ggX4_openShare_X4_isOpen
theorem dX4_openShare_0 : decode cX4_openShare 0 = .ok (.aload_n 0, 1) := by decide +kernel
theorem dX4_openShare_1 : decode cX4_openShare 1 = .ok (.getfield 20, 3) := by decide +kernel
theorem dX4_openShare_4 : decode cX4_openShare 4 = .ok (.invokevirtual 119, 3) := by decide +kernel
theorem dX4_openShare_7 : decode cX4_openShare 7 = .ok (.ifCond .eq 13, 3) := by decide +kernel
theorem dX4_openShare_10 : decode cX4_openShare 10 = .ok (.new 237, 3) := by decide +kernel
theorem dX4_openShare_13 : decode cX4_openShare 13 = .ok (.dup, 1) := by decide +kernel
theorem dX4_openShare_14 : decode cX4_openShare 14 = .ok (.ldc 239, 2) := by decide +kernel
theorem dX4_openShare_16 : decode cX4_openShare 16 = .ok (.invokespecial 241, 3) := by decide +kernel
theorem dX4_openShare_19 : decode cX4_openShare 19 = .ok (.athrow, 1) := by decide +kernel
theorem dX4_openShare_20 : decode cX4_openShare 20 = .ok (.iconst 0, 1) := by decide +kernel
theorem dX4_openShare_21 : decode cX4_openShare 21 = .ok (.istore_n 1, 1) := by decide +kernel
theorem dX4_openShare_22 : decode cX4_openShare 22 = .ok (.iconst 0, 1) := by decide +kernel
theorem dX4_openShare_23 : decode cX4_openShare 23 = .ok (.istore_n 2, 1) := by decide +kernel
theorem dX4_openShare_24 : decode cX4_openShare 24 = .ok (.iload_n 2, 1) := by decide +kernel
theorem dX4_openShare_25 : decode cX4_openShare 25 = .ok (.aload_n 0, 1) := by decide +kernel
theorem dX4_openShare_26 : decode cX4_openShare 26 = .ok (.getfield 20, 3) := by decide +kernel
theorem dX4_openShare_29 : decode cX4_openShare 29 = .ok (.invokevirtual 61, 3) := by decide +kernel
theorem dX4_openShare_32 : decode cX4_openShare 32 = .ok (.if_icmp .ge 30, 3) := by decide +kernel
theorem dX4_openShare_35 : decode cX4_openShare 35 = .ok (.aload_n 0, 1) := by decide +kernel
theorem dX4_openShare_36 : decode cX4_openShare 36 = .ok (.aload_n 0, 1) := by decide +kernel
theorem dX4_openShare_37 : decode cX4_openShare 37 = .ok (.getfield 20, 3) := by decide +kernel
theorem dX4_openShare_40 : decode cX4_openShare 40 = .ok (.iload_n 2, 1) := by decide +kernel
theorem dX4_openShare_41 : decode cX4_openShare 41 = .ok (.invokevirtual 141, 3) := by decide +kernel
theorem dX4_openShare_44 : decode cX4_openShare 44 = .ok (.checkcast 189, 3) := by decide +kernel
theorem dX4_openShare_47 : decode cX4_openShare 47 = .ok (.invokevirtual 202, 3) := by decide +kernel
theorem dX4_openShare_50 : decode cX4_openShare 50 = .ok (.ifCond .eq 6, 3) := by decide +kernel
theorem dX4_openShare_53 : decode cX4_openShare 53 = .ok (.iinc 1 1, 3) := by decide +kernel
theorem dX4_openShare_56 : decode cX4_openShare 56 = .ok (.iinc 2 1, 3) := by decide +kernel
theorem dX4_openShare_59 : decode cX4_openShare 59 = .ok (.goto (-35), 3) := by decide +kernel
theorem dX4_openShare_62 : decode cX4_openShare 62 = .ok (.iload_n 1, 1) := by decide +kernel
theorem dX4_openShare_63 : decode cX4_openShare 63 = .ok (.i2f, 1) := by decide +kernel
theorem dX4_openShare_64 : decode cX4_openShare 64 = .ok (.aload_n 0, 1) := by decide +kernel
theorem dX4_openShare_65 : decode cX4_openShare 65 = .ok (.getfield 20, 3) := by decide +kernel
theorem dX4_openShare_68 : decode cX4_openShare 68 = .ok (.invokevirtual 61, 3) := by decide +kernel
theorem dX4_openShare_71 : decode cX4_openShare 71 = .ok (.i2f, 1) := by decide +kernel
theorem dX4_openShare_72 : decode cX4_openShare 72 = .ok (.fdiv, 1) := by decide +kernel
theorem dX4_openShare_73 : decode cX4_openShare 73 = .ok (.freturn, 1) := by decide +kernel
set_option maxRecDepth 20000 in
theorem ggX4_meanVersion_X4_countRunning : GoodIn wsX4_meanVersion wsX4_countRunning := goodIn_r _ [9, 10, 3, 11, 12, 13, 14, 15, 16, 17, 18, 19, 20, 21, 22, 23, 24, 25, 26] (by decide +kernel) (by decide +kernel)
set_option maxRecDepth 20000 in
theorem gX4_meanVersion_X4_countRunning : GoodIn wsX4_meanVersion (wsV RX4 157 RX4 yX4_countRunning wsX4_countRunning) := goodIn_app (goodIn_of _ (by decide +kernel)) ggX4_meanVersion_X4_countRunning
theorem dX4_meanVersion_0 : decode cX4_meanVersion 0 = .ok (.aload_n 0, 1) := by decide +kernel
theorem dX4_meanVersion_1 : decode cX4_meanVersion 1 = .ok (.invokevirtual 157, 3) := by decide +kernel
theorem dX4_meanVersion_4 : decode cX4_meanVersion 4 = .ok (.istore_n 1, 1) := by decide +kernel
theorem dX4_meanVersion_5 : decode cX4_meanVersion 5 = .ok (.iload_n 1, 1) := by decide +kernel
theorem dX4_meanVersion_6 : decode cX4_meanVersion 6 = .ok (.ifCond .ne 13, 3) := by decide +kernel
theorem dX4_meanVersion_9 : decode cX4_meanVersion 9 = .ok (.new 237, 3) := by decide +kernel
theorem dX4_meanVersion_12 : decode cX4_meanVersion 12 = .ok (.dup, 1) := by decide +kernel
theorem dX4_meanVersion_13 : decode cX4_meanVersion 13 = .ok (.ldc 242, 2) := by decide +kernel
theorem dX4_meanVersion_15 : decode cX4_meanVersion 15 = .ok (.invokespecial 241, 3) := by decide +kernel
theorem dX4_meanVersion_18 : decode cX4_meanVersion 18 = .ok (.athrow, 1) := by decide +kernel
theorem dX4_meanVersion_19 : decode cX4_meanVersion 19 = .ok (.iconst 0, 1) := by decide +kernel
theorem dX4_meanVersion_20 : decode cX4_meanVersion 20 = .ok (.istore_n 2, 1) := by decide +kernel
theorem dX4_meanVersion_21 : decode cX4_meanVersion 21 = .ok (.iconst 0, 1) := by decide +kernel
theorem dX4_meanVersion_22 : decode cX4_meanVersion 22 = .ok (.istore_n 3, 1) := by decide +kernel
theorem dX4_meanVersion_23 : decode cX4_meanVersion 23 = .ok (.iload_n 3, 1) := by decide +kernel
theorem dX4_meanVersion_24 : decode cX4_meanVersion 24 = .ok (.iload_n 1, 1) := by decide +kernel
theorem dX4_meanVersion_25 : decode cX4_meanVersion 25 = .ok (.if_icmp .ge 21, 3) := by decide +kernel
theorem dX4_meanVersion_28 : decode cX4_meanVersion 28 = .ok (.iload_n 2, 1) := by decide +kernel
theorem dX4_meanVersion_29 : decode cX4_meanVersion 29 = .ok (.aload_n 0, 1) := by decide +kernel
theorem dX4_meanVersion_30 : decode cX4_meanVersion 30 = .ok (.getfield 29, 3) := by decide +kernel
theorem dX4_meanVersion_33 : decode cX4_meanVersion 33 = .ok (.getfield 145, 3) := by decide +kernel
theorem dX4_meanVersion_36 : decode cX4_meanVersion 36 = .ok (.iload_n 3, 1) := by decide +kernel
theorem dX4_meanVersion_37 : decode cX4_meanVersion 37 = .ok (.iaload, 1) := by decide +kernel
theorem dX4_meanVersion_38 : decode cX4_meanVersion 38 = .ok (.iadd, 1) := by decide +kernel
theorem dX4_meanVersion_39 : decode cX4_meanVersion 39 = .ok (.istore_n 2, 1) := by decide +kernel
theorem dX4_meanVersion_40 : decode cX4_meanVersion 40 = .ok (.iinc 3 1, 3) := by decide +kernel
theorem dX4_meanVersion_43 : decode cX4_meanVersion 43 = .ok (.goto (-20), 3) := by decide +kernel
theorem dX4_meanVersion_46 : decode cX4_meanVersion 46 = .ok (.iload_n 2, 1) := by decide +kernel
theorem dX4_meanVersion_47 : decode cX4_meanVersion 47 = .ok (.i2d, 1) := by decide +kernel
theorem dX4_meanVersion_48 : decode cX4_meanVersion 48 = .ok (.iload_n 1, 1) := by decide +kernel
theorem dX4_meanVersion_49 : decode cX4_meanVersion 49 = .ok (.i2d, 1) := by decide +kernel
theorem dX4_meanVersion_50 : decode cX4_meanVersion 50 = .ok (.ddiv, 1) := by decide +kernel
theorem dX4_meanVersion_51 : decode cX4_meanVersion 51 = .ok (.dreturn, 1) := by decide +kernel
theorem dX4_isWithin_0 : decode cX4_isWithin 0 = .ok (.iload_n 0, 1) := by decide +kernel
theorem dX4_isWithin_1 : decode cX4_isWithin 1 = .ok (.iload_n 1, 1) := by decide +kernel
theorem dX4_isWithin_2 : decode cX4_isWithin 2 = .ok (.if_icmp .lt 12, 3) := by decide +kernel
theorem dX4_isWithin_5 : decode cX4_isWithin 5 = .ok (.iload_n 0, 1) := by decide +kernel
theorem dX4_isWithin_6 : decode cX4_isWithin 6 = .ok (.iload_n 2, 1) := by decide +kernel
theorem dX4_isWithin_7 : decode cX4_isWithin 7 = .ok (.if_icmp .gt 7, 3) := by decide +kernel
theorem dX4_isWithin_10 : decode cX4_isWithin 10 = .ok (.iconst 1, 1) := by decide +kernel
theorem dX4_isWithin_11 : decode cX4_isWithin 11 = .ok (.goto 4, 3) := by decide +kernel
theorem dX4_isWithin_14 : decode cX4_isWithin 14 = .ok (.iconst 0, 1) := by decide +kernel
theorem dX4_isWithin_15 : decode cX4_isWithin 15 = .ok (.ireturn, 1) := by decide +kernel
set_option maxRecDepth 20000 in
theorem ggX4_isRegister_X4_isWithin : GoodIn wsX4_isRegister wsX4_isWithin := goodIn_r _ [4] (by decide +kernel) (by decide +kernel)
set_option maxRecDepth 20000 in
theorem gX4_isRegister_X4_isWithin : GoodIn wsX4_isRegister (va_wsS RX4 44 yX4_isWithin wsX4_isWithin) := goodIn_app (goodIn_of _ (by decide +kernel)) ggX4_isRegister_X4_isWithin
theorem dX4_isRegister_0 : decode cX4_isRegister 0 = .ok (.iload_n 0, 1) := by decide +kernel
theorem dX4_isRegister_1 : decode cX4_isRegister 1 = .ok (.iconst 0, 1) := by decide +kernel
theorem dX4_isRegister_2 : decode cX4_isRegister 2 = .ok (.iconst 2, 1) := by decide +kernel
theorem dX4_isRegister_3 : decode cX4_isRegister 3 = .ok (.invokestatic 44, 3) := by decide +kernel
theorem dX4_isRegister_6 : decode cX4_isRegister 6 = .ok (.ireturn, 1) := by decide +kernel
set_option maxRecDepth 20000 in
theorem ggX4_isStage_Jx4a65c_size_8abf5 : GoodIn wsX4_isStage wsJx4a65c_size_8abf5 := goodIn_r _ [6, 7, 20, 21, 22] (by decide +kernel) (by decide +kernel)
set_option maxRecDepth 20000 in
theorem gX4_isStage_Jx4a65c_size_8abf5 : GoodIn wsX4_isStage (wsV RX4 61 RJx4a65c yJx4a65c_size_8abf5 wsJx4a65c_size_8abf5) := goodIn_app (goodIn_of _ (by decide +kernel)) ggX4_isStage_Jx4a65c_size_8abf5
set_option maxRecDepth 20000 in
theorem ggX4_isStage_X4_isWithin : GoodIn wsX4_isStage wsX4_isWithin := goodIn_r _ [11] (by decide +kernel) (by decide +kernel)
set_option maxRecDepth 20000 in
theorem gX4_isStage_X4_isWithin : GoodIn wsX4_isStage (va_wsS RX4 44 yX4_isWithin wsX4_isWithin) := goodIn_app (goodIn_of _ (by decide +kernel)) ggX4_isStage_X4_isWithin
theorem dX4_isStage_0 : decode cX4_isStage 0 = .ok (.iload_n 1, 1) := by decide +kernel
theorem dX4_isStage_1 : decode cX4_isStage 1 = .ok (.iconst 0, 1) := by decide +kernel
theorem dX4_isStage_2 : decode cX4_isStage 2 = .ok (.aload_n 0, 1) := by decide +kernel
theorem dX4_isStage_3 : decode cX4_isStage 3 = .ok (.getfield 16, 3) := by decide +kernel
theorem dX4_isStage_6 : decode cX4_isStage 6 = .ok (.invokevirtual 61, 3) := by decide +kernel
theorem dX4_isStage_9 : decode cX4_isStage 9 = .ok (.iconst 1, 1) := by decide +kernel
theorem dX4_isStage_10 : decode cX4_isStage 10 = .ok (.isub, 1) := by decide +kernel
theorem dX4_isStage_11 : decode cX4_isStage 11 = .ok (.invokestatic 44, 3) := by decide +kernel
theorem dX4_isStage_14 : decode cX4_isStage 14 = .ok (.ireturn, 1) := by decide +kernel
set_option maxRecDepth 20000 in
theorem ggX4_stageAt_X4_isStage : GoodIn wsX4_stageAt wsX4_isStage := goodIn_r _ [9, 3, 10, 11, 12, 13, 14, 15, 16, 17, 8, 18, 36, 37, 38, 39, 40, 41, 42, 43, 44, 45, 46] (by decide +kernel) (by decide +kernel)
set_option maxRecDepth 20000 in
theorem gX4_stageAt_X4_isStage : GoodIn wsX4_stageAt (wsV RX4 149 RX4 yX4_isStage wsX4_isStage) := goodIn_app (goodIn_of _ (by decide +kernel)) ggX4_stageAt_X4_isStage
set_option maxRecDepth 20000 in
theorem ggX4_stageAt_Jx4a65c_get_915e3 : GoodIn wsX4_stageAt wsJx4a65c_get_915e3 := goodIn_r _ [22, 15, 23, 24, 25, 26, 27, 28, 29, 30, 31, 32, 33, 13, 34, 35, 44, 45, 46] (by decide +kernel) (by decide +kernel)
set_option maxRecDepth 20000 in
theorem gX4_stageAt_Jx4a65c_get_915e3 : GoodIn wsX4_stageAt (wsV RX4 141 RJx4a65c yJx4a65c_get_915e3 wsJx4a65c_get_915e3) := goodIn_app (goodIn_of _ (by decide +kernel)) ggX4_stageAt_Jx4a65c_get_915e3
theorem dX4_stageAt_0 : decode cX4_stageAt 0 = .ok (.aload_n 0, 1) := by decide +kernel
theorem dX4_stageAt_1 : decode cX4_stageAt 1 = .ok (.iload_n 1, 1) := by decide +kernel
theorem dX4_stageAt_2 : decode cX4_stageAt 2 = .ok (.invokevirtual 149, 3) := by decide +kernel
theorem dX4_stageAt_5 : decode cX4_stageAt 5 = .ok (.ifCond .ne 13, 3) := by decide +kernel
theorem dX4_stageAt_8 : decode cX4_stageAt 8 = .ok (.new 152, 3) := by decide +kernel
theorem dX4_stageAt_11 : decode cX4_stageAt 11 = .ok (.dup, 1) := by decide +kernel
theorem dX4_stageAt_12 : decode cX4_stageAt 12 = .ok (.ldc 154, 2) := by decide +kernel
theorem dX4_stageAt_14 : decode cX4_stageAt 14 = .ok (.invokespecial 156, 3) := by decide +kernel
theorem dX4_stageAt_17 : decode cX4_stageAt 17 = .ok (.athrow, 1) := by decide +kernel
theorem dX4_stageAt_18 : decode cX4_stageAt 18 = .ok (.aload_n 0, 1) := by decide +kernel
theorem dX4_stageAt_19 : decode cX4_stageAt 19 = .ok (.getfield 16, 3) := by decide +kernel
theorem dX4_stageAt_22 : decode cX4_stageAt 22 = .ok (.iload_n 1, 1) := by decide +kernel
theorem dX4_stageAt_23 : decode cX4_stageAt 23 = .ok (.invokevirtual 141, 3) := by decide +kernel
theorem dX4_stageAt_26 : decode cX4_stageAt 26 = .ok (.checkcast 70, 3) := by decide +kernel
theorem dX4_stageAt_29 : decode cX4_stageAt 29 = .ok (.areturn, 1) := by decide +kernel
set_option maxRecDepth 20000 in
theorem ggX4_stageWithSlot_X4_stageAt : GoodIn wsX4_stageWithSlot wsX4_stageAt := goodIn_ca (goodIn_r _ [7, 1, 2, 8, 9, 10, 11, 12, 6, 13, 14, 15, 16, 17, 18, 19, 20, 21, 22, 23, 24, 25, 26, 27, 28, 29, 30, 31, 32, 33, 34, 35, 36, 37, 38, 39, 40, 41, 42, 43, 44, 45, 46, 47, 48, 49, 50] (by decide +kernel) (by decide +kernel)) (goodIn_sub (fun _ h => List.mem_cons_of_mem _ (List.mem_append_right _ h)) (by decide +kernel))
set_option maxRecDepth 20000 in
theorem gX4_stageWithSlot_X4_stageAt : GoodIn wsX4_stageWithSlot (wsV RX4 79 RX4 yX4_stageAt wsX4_stageAt) := goodIn_app (goodIn_of _ (by decide +kernel)) ggX4_stageWithSlot_X4_stageAt
set_option maxRecDepth 20000 in
theorem ggX4_stageWithSlot_X4_isWithin : GoodIn wsX4_stageWithSlot wsX4_isWithin := goodIn_r _ [22] (by decide +kernel) (by decide +kernel)
set_option maxRecDepth 20000 in
theorem gX4_stageWithSlot_X4_isWithin : GoodIn wsX4_stageWithSlot (va_wsS RX4 44 yX4_isWithin wsX4_isWithin) := goodIn_app (goodIn_of _ (by decide +kernel)) ggX4_stageWithSlot_X4_isWithin
theorem dX4_stageWithSlot_0 : decode cX4_stageWithSlot 0 = .ok (.aload_n 0, 1) := by decide +kernel
theorem dX4_stageWithSlot_1 : decode cX4_stageWithSlot 1 = .ok (.iload_n 1, 1) := by decide +kernel
theorem dX4_stageWithSlot_2 : decode cX4_stageWithSlot 2 = .ok (.invokevirtual 79, 3) := by decide +kernel
theorem dX4_stageWithSlot_5 : decode cX4_stageWithSlot 5 = .ok (.astore_n 3, 1) := by decide +kernel
theorem dX4_stageWithSlot_6 : decode cX4_stageWithSlot 6 = .ok (.iload_n 2, 1) := by decide +kernel
theorem dX4_stageWithSlot_7 : decode cX4_stageWithSlot 7 = .ok (.iconst 0, 1) := by decide +kernel
theorem dX4_stageWithSlot_8 : decode cX4_stageWithSlot 8 = .ok (.iconst 1, 1) := by decide +kernel
theorem dX4_stageWithSlot_9 : decode cX4_stageWithSlot 9 = .ok (.invokestatic 44, 3) := by decide +kernel
theorem dX4_stageWithSlot_12 : decode cX4_stageWithSlot 12 = .ok (.ifCond .ne 13, 3) := by decide +kernel
theorem dX4_stageWithSlot_15 : decode cX4_stageWithSlot 15 = .ok (.new 152, 3) := by decide +kernel
theorem dX4_stageWithSlot_18 : decode cX4_stageWithSlot 18 = .ok (.dup, 1) := by decide +kernel
theorem dX4_stageWithSlot_19 : decode cX4_stageWithSlot 19 = .ok (.ldc 244, 2) := by decide +kernel
theorem dX4_stageWithSlot_21 : decode cX4_stageWithSlot 21 = .ok (.invokespecial 156, 3) := by decide +kernel
theorem dX4_stageWithSlot_24 : decode cX4_stageWithSlot 24 = .ok (.athrow, 1) := by decide +kernel
theorem dX4_stageWithSlot_25 : decode cX4_stageWithSlot 25 = .ok (.aload_n 3, 1) := by decide +kernel
theorem dX4_stageWithSlot_26 : decode cX4_stageWithSlot 26 = .ok (.areturn, 1) := by decide +kernel
set_option maxRecDepth 20000 in
theorem ggX4_imageAt_X4_stageWithSlot : GoodIn wsX4_imageAt wsX4_stageWithSlot := goodIn_ca (goodIn_r _ [8, 9, 10, 11, 12, 13, 7, 14, 15, 16, 17, 18, 19, 20, 21, 22, 23, 24, 25, 26, 27, 28, 29, 30, 31, 32, 33, 34, 35, 36, 37, 38, 39, 40, 41, 42, 43, 44, 45, 46, 51, 52, 53, 54, 55, 56, 57, 58, 59, 60, 61] (by decide +kernel) (by decide +kernel)) (goodIn_sub (fun _ h => List.mem_cons_of_mem _ (List.mem_append_right _ h)) (by decide +kernel))
set_option maxRecDepth 20000 in
theorem gX4_imageAt_X4_stageWithSlot : GoodIn wsX4_imageAt (wsV RX4 108 RX4 yX4_stageWithSlot wsX4_stageWithSlot) := goodIn_app (goodIn_of _ (by decide +kernel)) ggX4_imageAt_X4_stageWithSlot
theorem dX4_imageAt_0 : decode cX4_imageAt 0 = .ok (.aload_n 0, 1) := by decide +kernel
theorem dX4_imageAt_1 : decode cX4_imageAt 1 = .ok (.iload_n 1, 1) := by decide +kernel
theorem dX4_imageAt_2 : decode cX4_imageAt 2 = .ok (.iload_n 2, 1) := by decide +kernel
theorem dX4_imageAt_3 : decode cX4_imageAt 3 = .ok (.invokevirtual 108, 3) := by decide +kernel
theorem dX4_imageAt_6 : decode cX4_imageAt 6 = .ok (.getfield 246, 3) := by decide +kernel
theorem dX4_imageAt_9 : decode cX4_imageAt 9 = .ok (.iload_n 2, 1) := by decide +kernel
theorem dX4_imageAt_10 : decode cX4_imageAt 10 = .ok (.aaload, 1) := by decide +kernel
theorem dX4_imageAt_11 : decode cX4_imageAt 11 = .ok (.astore_n 3, 1) := by decide +kernel
theorem dX4_imageAt_12 : decode cX4_imageAt 12 = .ok (.aload_n 3, 1) := by decide +kernel
theorem dX4_imageAt_13 : decode cX4_imageAt 13 = .ok (.ifnonnull 13, 3) := by decide +kernel
theorem dX4_imageAt_16 : decode cX4_imageAt 16 = .ok (.new 160, 3) := by decide +kernel
theorem dX4_imageAt_19 : decode cX4_imageAt 19 = .ok (.dup, 1) := by decide +kernel
theorem dX4_imageAt_20 : decode cX4_imageAt 20 = .ok (.ldc 250, 2) := by decide +kernel
theorem dX4_imageAt_22 : decode cX4_imageAt 22 = .ok (.invokespecial 164, 3) := by decide +kernel
theorem dX4_imageAt_25 : decode cX4_imageAt 25 = .ok (.athrow, 1) := by decide +kernel
theorem dX4_imageAt_26 : decode cX4_imageAt 26 = .ok (.aload_n 3, 1) := by decide +kernel
theorem dX4_imageAt_27 : decode cX4_imageAt 27 = .ok (.areturn, 1) := by decide +kernel
set_option maxRecDepth 20000 in
theorem ggX4_secretAt_Jx4a65c_size_8abf5 : GoodIn wsX4_secretAt wsJx4a65c_size_8abf5 := goodIn_r _ [9, 10, 40, 41, 42] (by decide +kernel) (by decide +kernel)
set_option maxRecDepth 20000 in
theorem gX4_secretAt_Jx4a65c_size_8abf5 : GoodIn wsX4_secretAt (wsV RX4 61 RJx4a65c yJx4a65c_size_8abf5 wsJx4a65c_size_8abf5) := goodIn_app (goodIn_of _ (by decide +kernel)) ggX4_secretAt_Jx4a65c_size_8abf5
set_option maxRecDepth 20000 in
theorem ggX4_secretAt_X4_isWithin : GoodIn wsX4_secretAt wsX4_isWithin := goodIn_r _ [14] (by decide +kernel) (by decide +kernel)
set_option maxRecDepth 20000 in
theorem gX4_secretAt_X4_isWithin : GoodIn wsX4_secretAt (va_wsS RX4 44 yX4_isWithin wsX4_isWithin) := goodIn_app (goodIn_of _ (by decide +kernel)) ggX4_secretAt_X4_isWithin
set_option maxRecDepth 20000 in
theorem ggX4_secretAt_Jx4a65c_get_915e3 : GoodIn wsX4_secretAt wsJx4a65c_get_915e3 := goodIn_r _ [18, 10, 19, 20, 21, 22, 23, 24, 25, 26, 27, 28, 29, 8, 30, 31, 40, 41, 42] (by decide +kernel) (by decide +kernel)
set_option maxRecDepth 20000 in
theorem gX4_secretAt_Jx4a65c_get_915e3 : GoodIn wsX4_secretAt (wsV RX4 141 RJx4a65c yJx4a65c_get_915e3 wsJx4a65c_get_915e3) := goodIn_app (goodIn_of _ (by decide +kernel)) ggX4_secretAt_Jx4a65c_get_915e3
theorem dX4_secretAt_0 : decode cX4_secretAt 0 = .ok (.iload_n 1, 1) := by decide +kernel
theorem dX4_secretAt_1 : decode cX4_secretAt 1 = .ok (.iconst 0, 1) := by decide +kernel
theorem dX4_secretAt_2 : decode cX4_secretAt 2 = .ok (.aload_n 0, 1) := by decide +kernel
theorem dX4_secretAt_3 : decode cX4_secretAt 3 = .ok (.getfield 20, 3) := by decide +kernel
theorem dX4_secretAt_6 : decode cX4_secretAt 6 = .ok (.invokevirtual 61, 3) := by decide +kernel
theorem dX4_secretAt_9 : decode cX4_secretAt 9 = .ok (.iconst 1, 1) := by decide +kernel
theorem dX4_secretAt_10 : decode cX4_secretAt 10 = .ok (.isub, 1) := by decide +kernel
theorem dX4_secretAt_11 : decode cX4_secretAt 11 = .ok (.invokestatic 44, 3) := by decide +kernel
theorem dX4_secretAt_14 : decode cX4_secretAt 14 = .ok (.ifCond .ne 13, 3) := by decide +kernel
theorem dX4_secretAt_17 : decode cX4_secretAt 17 = .ok (.new 152, 3) := by decide +kernel
theorem dX4_secretAt_20 : decode cX4_secretAt 20 = .ok (.dup, 1) := by decide +kernel
theorem dX4_secretAt_21 : decode cX4_secretAt 21 = .ok (.ldc 252, 2) := by decide +kernel
theorem dX4_secretAt_23 : decode cX4_secretAt 23 = .ok (.invokespecial 156, 3) := by decide +kernel
theorem dX4_secretAt_26 : decode cX4_secretAt 26 = .ok (.athrow, 1) := by decide +kernel
theorem dX4_secretAt_27 : decode cX4_secretAt 27 = .ok (.aload_n 0, 1) := by decide +kernel
theorem dX4_secretAt_28 : decode cX4_secretAt 28 = .ok (.getfield 20, 3) := by decide +kernel
theorem dX4_secretAt_31 : decode cX4_secretAt 31 = .ok (.iload_n 1, 1) := by decide +kernel
theorem dX4_secretAt_32 : decode cX4_secretAt 32 = .ok (.invokevirtual 141, 3) := by decide +kernel
theorem dX4_secretAt_35 : decode cX4_secretAt 35 = .ok (.checkcast 189, 3) := by decide +kernel
theorem dX4_secretAt_38 : decode cX4_secretAt 38 = .ok (.areturn, 1) := by decide +kernel
set_option maxRecDepth 20000 in
theorem ggX4_isOpen_X2_fits : GoodIn wsX4_isOpen wsX2_fits := goodIn_ca (goodIn_r _ [8, 9, 10, 11, 7, 12, 13, 14, 15, 16, 17, 18, 34, 35, 36] (by decide +kernel) (by decide +kernel)) (goodIn_sub (fun _ h => List.mem_cons_of_mem _ (List.mem_append_right _ h)) (by decide +kernel))
set_option maxRecDepth 20000 in
theorem gX4_isOpen_X2_fits : GoodIn wsX4_isOpen (wsV RX4 208 RX2 yX2_fits wsX2_fits) := goodIn_app (goodIn_of _ (by decide +kernel)) ggX4_isOpen_X2_fits
theorem dX4_isOpen_0 : decode cX4_isOpen 0 = .ok (.aload_n 0, 1) := by decide +kernel
theorem dX4_isOpen_1 : decode cX4_isOpen 1 = .ok (.getfield 36, 3) := by decide +kernel
theorem dX4_isOpen_4 : decode cX4_isOpen 4 = .ok (.bipush 114, 2) := by decide +kernel
theorem dX4_isOpen_6 : decode cX4_isOpen 6 = .ok (.if_icmp .ne 21, 3) := by decide +kernel
theorem dX4_isOpen_9 : decode cX4_isOpen 9 = .ok (.aload_n 1, 1) := by decide +kernel
theorem dX4_isOpen_10 : decode cX4_isOpen 10 = .ok (.aload_n 0, 1) := by decide +kernel
theorem dX4_isOpen_11 : decode cX4_isOpen 11 = .ok (.getfield 29, 3) := by decide +kernel
theorem dX4_isOpen_14 : decode cX4_isOpen 14 = .ok (.getfield 168, 3) := by decide +kernel
theorem dX4_isOpen_17 : decode cX4_isOpen 17 = .ok (.invokevirtual 208, 3) := by decide +kernel
theorem dX4_isOpen_20 : decode cX4_isOpen 20 = .ok (.ifCond .eq 7, 3) := by decide +kernel
theorem dX4_isOpen_23 : decode cX4_isOpen 23 = .ok (.iconst 1, 1) := by decide +kernel
theorem dX4_isOpen_24 : decode cX4_isOpen 24 = .ok (.goto 4, 3) := by decide +kernel
theorem dX4_isOpen_27 : decode cX4_isOpen 27 = .ok (.iconst 0, 1) := by decide +kernel
theorem dX4_isOpen_28 : decode cX4_isOpen 28 = .ok (.ireturn, 1) := by decide +kernel
theorem dX4_countRunning_0 : decode cX4_countRunning 0 = .ok (.aload_n 0, 1) := by decide +kernel
theorem dX4_countRunning_1 : decode cX4_countRunning 1 = .ok (.getfield 36, 3) := by decide +kernel
theorem dX4_countRunning_4 : decode cX4_countRunning 4 = .ok (.bipush 111, 2) := by decide +kernel
theorem dX4_countRunning_6 : decode cX4_countRunning 6 = .ok (.if_icmp .ne 7, 3) := by decide +kernel
theorem dX4_countRunning_9 : decode cX4_countRunning 9 = .ok (.iconst 0, 1) := by decide +kernel
theorem dX4_countRunning_10 : decode cX4_countRunning 10 = .ok (.goto 10, 3) := by decide +kernel
theorem dX4_countRunning_13 : decode cX4_countRunning 13 = .ok (.aload_n 0, 1) := by decide +kernel
theorem dX4_countRunning_14 : decode cX4_countRunning 14 = .ok (.getfield 29, 3) := by decide +kernel
theorem dX4_countRunning_17 : decode cX4_countRunning 17 = .ok (.getfield 136, 3) := by decide +kernel
theorem dX4_countRunning_20 : decode cX4_countRunning 20 = .ok (.ireturn, 1) := by decide +kernel
theorem dX4_countAgreed_0 : decode cX4_countAgreed 0 = .ok (.iconst 0, 1) := by decide +kernel
theorem dX4_countAgreed_1 : decode cX4_countAgreed 1 = .ok (.istore_n 1, 1) := by decide +kernel
theorem dX4_countAgreed_2 : decode cX4_countAgreed 2 = .ok (.iconst 0, 1) := by decide +kernel
theorem dX4_countAgreed_3 : decode cX4_countAgreed 3 = .ok (.istore_n 2, 1) := by decide +kernel
theorem dX4_countAgreed_4 : decode cX4_countAgreed 4 = .ok (.iload_n 2, 1) := by decide +kernel
theorem dX4_countAgreed_5 : decode cX4_countAgreed 5 = .ok (.iconst 5, 1) := by decide +kernel
theorem dX4_countAgreed_6 : decode cX4_countAgreed 6 = .ok (.if_icmp .ge 21, 3) := by decide +kernel
theorem dX4_countAgreed_9 : decode cX4_countAgreed 9 = .ok (.aload_n 0, 1) := by decide +kernel
theorem dX4_countAgreed_10 : decode cX4_countAgreed 10 = .ok (.getfield 23, 3) := by decide +kernel
theorem dX4_countAgreed_13 : decode cX4_countAgreed 13 = .ok (.iload_n 2, 1) := by decide +kernel
theorem dX4_countAgreed_14 : decode cX4_countAgreed 14 = .ok (.baload, 1) := by decide +kernel
theorem dX4_countAgreed_15 : decode cX4_countAgreed 15 = .ok (.ifCond .eq 6, 3) := by decide +kernel
theorem dX4_countAgreed_18 : decode cX4_countAgreed 18 = .ok (.iinc 1 1, 3) := by decide +kernel
theorem dX4_countAgreed_21 : decode cX4_countAgreed 21 = .ok (.iinc 2 1, 3) := by decide +kernel
theorem dX4_countAgreed_24 : decode cX4_countAgreed 24 = .ok (.goto (-20), 3) := by decide +kernel
theorem dX4_countAgreed_27 : decode cX4_countAgreed 27 = .ok (.iload_n 1, 1) := by decide +kernel
theorem dX4_countAgreed_28 : decode cX4_countAgreed 28 = .ok (.ireturn, 1) := by decide +kernel
theorem dX4_forgetAgreed_0 : decode cX4_forgetAgreed 0 = .ok (.iconst 0, 1) := by decide +kernel
theorem dX4_forgetAgreed_1 : decode cX4_forgetAgreed 1 = .ok (.istore_n 1, 1) := by decide +kernel
theorem dX4_forgetAgreed_2 : decode cX4_forgetAgreed 2 = .ok (.iload_n 1, 1) := by decide +kernel
theorem dX4_forgetAgreed_3 : decode cX4_forgetAgreed 3 = .ok (.iconst 5, 1) := by decide +kernel
theorem dX4_forgetAgreed_4 : decode cX4_forgetAgreed 4 = .ok (.if_icmp .ge 16, 3) := by decide +kernel
theorem dX4_forgetAgreed_7 : decode cX4_forgetAgreed 7 = .ok (.aload_n 0, 1) := by decide +kernel
theorem dX4_forgetAgreed_8 : decode cX4_forgetAgreed 8 = .ok (.getfield 23, 3) := by decide +kernel
theorem dX4_forgetAgreed_11 : decode cX4_forgetAgreed 11 = .ok (.iload_n 1, 1) := by decide +kernel
theorem dX4_forgetAgreed_12 : decode cX4_forgetAgreed 12 = .ok (.iconst 0, 1) := by decide +kernel
theorem dX4_forgetAgreed_13 : decode cX4_forgetAgreed 13 = .ok (.bastore, 1) := by decide +kernel
theorem dX4_forgetAgreed_14 : decode cX4_forgetAgreed 14 = .ok (.iinc 1 1, 3) := by decide +kernel
theorem dX4_forgetAgreed_17 : decode cX4_forgetAgreed 17 = .ok (.goto (-15), 3) := by decide +kernel
theorem dX4_forgetAgreed_20 : decode cX4_forgetAgreed 20 = .ok (.return_, 1) := by decide +kernel
set_option maxRecDepth 20000 in
theorem ggX4_allRan_Jx4a65c_size_8abf5 : GoodIn wsX4_allRan wsJx4a65c_size_8abf5 := goodIn_r _ [7, 8, 24, 25, 26] (by decide +kernel) (by decide +kernel)
set_option maxRecDepth 20000 in
theorem gX4_allRan_Jx4a65c_size_8abf5 : GoodIn wsX4_allRan (wsV RX4 61 RJx4a65c yJx4a65c_size_8abf5 wsJx4a65c_size_8abf5) := goodIn_app (goodIn_of _ (by decide +kernel)) ggX4_allRan_Jx4a65c_size_8abf5
theorem dX4_allRan_0 : decode cX4_allRan 0 = .ok (.aload_n 1, 1) := by decide +kernel
theorem dX4_allRan_1 : decode cX4_allRan 1 = .ok (.getfield 136, 3) := by decide +kernel
theorem dX4_allRan_4 : decode cX4_allRan 4 = .ok (.aload_n 0, 1) := by decide +kernel
theorem dX4_allRan_5 : decode cX4_allRan 5 = .ok (.getfield 16, 3) := by decide +kernel
theorem dX4_allRan_8 : decode cX4_allRan 8 = .ok (.invokevirtual 61, 3) := by decide +kernel
theorem dX4_allRan_11 : decode cX4_allRan 11 = .ok (.if_icmp .ne 7, 3) := by decide +kernel
theorem dX4_allRan_14 : decode cX4_allRan 14 = .ok (.iconst 1, 1) := by decide +kernel
theorem dX4_allRan_15 : decode cX4_allRan 15 = .ok (.goto 4, 3) := by decide +kernel
theorem dX4_allRan_18 : decode cX4_allRan 18 = .ok (.iconst 0, 1) := by decide +kernel
theorem dX4_allRan_19 : decode cX4_allRan 19 = .ok (.ireturn, 1) := by decide +kernel
set_option maxRecDepth 20000 in
theorem ggX4_startInto_X1_clear : GoodIn wsX4_startInto wsX1_clear := goodIn_r _ [7, 8, 9, 10, 11, 12, 13, 14, 15, 88, 89, 90, 91, 92, 93, 94] (by decide +kernel) (by decide +kernel)
set_option maxRecDepth 20000 in
theorem gX4_startInto_X1_clear : GoodIn wsX4_startInto (wsV RX4 254 RX1 yX1_clear wsX1_clear) := goodIn_app (goodIn_of _ (by decide +kernel)) ggX4_startInto_X1_clear
set_option maxRecDepth 20000 in
theorem ggX4_startInto_Jx4a65c_size_8abf5 : GoodIn wsX4_startInto wsJx4a65c_size_8abf5 := goodIn_r _ [20, 21, 95, 96, 97] (by decide +kernel) (by decide +kernel)
set_option maxRecDepth 20000 in
theorem gX4_startInto_Jx4a65c_size_8abf5 : GoodIn wsX4_startInto (wsV RX4 61 RJx4a65c yJx4a65c_size_8abf5 wsJx4a65c_size_8abf5) := goodIn_app (goodIn_of _ (by decide +kernel)) ggX4_startInto_Jx4a65c_size_8abf5
set_option maxRecDepth 20000 in
theorem ggX4_startInto_Jx4a65c_get_915e3 : GoodIn wsX4_startInto wsJx4a65c_get_915e3 := goodIn_r _ [25, 21, 26, 27, 28, 29, 30, 31, 32, 33, 34, 35, 36, 19, 37, 38, 95, 96, 97] (by decide +kernel) (by decide +kernel)
set_option maxRecDepth 20000 in
theorem gX4_startInto_Jx4a65c_get_915e3 : GoodIn wsX4_startInto (wsV RX4 141 RJx4a65c yJx4a65c_get_915e3 wsJx4a65c_get_915e3) := goodIn_app (goodIn_of _ (by decide +kernel)) ggX4_startInto_Jx4a65c_get_915e3
set_option maxRecDepth 20000 in
theorem ggX4_startInto_X4_startStage : GoodIn wsX4_startInto wsX4_startStage := goodIn_ca (goodIn_r _ [43, 44, 45, 46, 47, 42, 48, 49, 50, 51, 52, 53, 54, 55, 56, 57, 58, 59, 60, 61, 62, 63, 6, 64, 8, 9, 65, 66, 67, 68, 69, 70, 71, 10, 72, 73, 11, 74, 75, 76, 77, 78, 79, 98, 99, 100, 101, 102, 103, 104, 105, 80, 81, 82, 83, 84, 85, 86, 87, 88, 89, 90, 91, 92, 93, 94] (by decide +kernel) (by decide +kernel)) (goodIn_sub (fun _ h => List.mem_cons_of_mem _ (List.mem_append_right _ h)) (by decide +kernel))
set_option maxRecDepth 20000 in
theorem gX4_startInto_X4_startStage : GoodIn wsX4_startInto (wsV RX4 257 RX4 yX4_startStage wsX4_startStage) := goodIn_app (goodIn_of _ (by decide +kernel)) ggX4_startInto_X4_startStage
theorem dX4_startInto_0 : decode cX4_startInto 0 = .ok (.aload_n 1, 1) := by decide +kernel
theorem dX4_startInto_1 : decode cX4_startInto 1 = .ok (.invokevirtual 254, 3) := by decide +kernel
theorem dX4_startInto_4 : decode cX4_startInto 4 = .ok (.iconst 1, 1) := by decide +kernel
theorem dX4_startInto_5 : decode cX4_startInto 5 = .ok (.istore_n 2, 1) := by decide +kernel
theorem dX4_startInto_6 : decode cX4_startInto 6 = .ok (.iconst 0, 1) := by decide +kernel
theorem dX4_startInto_7 : decode cX4_startInto 7 = .ok (.istore_n 3, 1) := by decide +kernel
theorem dX4_startInto_8 : decode cX4_startInto 8 = .ok (.iload_n 3, 1) := by decide +kernel
theorem dX4_startInto_9 : decode cX4_startInto 9 = .ok (.aload_n 0, 1) := by decide +kernel
theorem dX4_startInto_10 : decode cX4_startInto 10 = .ok (.getfield 16, 3) := by decide +kernel
theorem dX4_startInto_13 : decode cX4_startInto 13 = .ok (.invokevirtual 61, 3) := by decide +kernel
theorem dX4_startInto_16 : decode cX4_startInto 16 = .ok (.if_icmp .ge 30, 3) := by decide +kernel
theorem dX4_startInto_19 : decode cX4_startInto 19 = .ok (.iload_n 2, 1) := by decide +kernel
theorem dX4_startInto_20 : decode cX4_startInto 20 = .ok (.ifCond .eq 26, 3) := by decide +kernel
theorem dX4_startInto_23 : decode cX4_startInto 23 = .ok (.aload_n 0, 1) := by decide +kernel
theorem dX4_startInto_24 : decode cX4_startInto 24 = .ok (.aload_n 0, 1) := by decide +kernel
theorem dX4_startInto_25 : decode cX4_startInto 25 = .ok (.getfield 16, 3) := by decide +kernel
theorem dX4_startInto_28 : decode cX4_startInto 28 = .ok (.iload_n 3, 1) := by decide +kernel
theorem dX4_startInto_29 : decode cX4_startInto 29 = .ok (.invokevirtual 141, 3) := by decide +kernel
theorem dX4_startInto_32 : decode cX4_startInto 32 = .ok (.checkcast 70, 3) := by decide +kernel
theorem dX4_startInto_35 : decode cX4_startInto 35 = .ok (.aload_n 1, 1) := by decide +kernel
theorem dX4_startInto_36 : decode cX4_startInto 36 = .ok (.invokevirtual 257, 3) := by decide +kernel
theorem dX4_startInto_39 : decode cX4_startInto 39 = .ok (.istore_n 2, 1) := by decide +kernel
theorem dX4_startInto_40 : decode cX4_startInto 40 = .ok (.iinc 3 1, 3) := by decide +kernel
theorem dX4_startInto_43 : decode cX4_startInto 43 = .ok (.goto (-35), 3) := by decide +kernel
theorem dX4_startInto_46 : decode cX4_startInto 46 = .ok (.return_, 1) := by decide +kernel
set_option maxRecDepth 20000 in
theorem ggX4_startStage_X4_startSlot : GoodIn wsX4_startStage wsX4_startSlot := goodIn_ca (goodIn_r _ [6, 7, 8, 9, 10, 1, 11, 12, 13, 5, 14, 15, 16, 17, 18, 19, 20, 21, 22, 23, 24, 25, 26, 27, 28, 29, 30, 31, 32, 33, 34, 35, 36, 43, 44, 45, 46, 47, 48, 49, 50, 51, 52, 53, 54, 55, 56, 57, 58, 59, 60, 61, 62, 63, 64, 65] (by decide +kernel) (by decide +kernel)) (goodIn_sub (fun _ h => List.mem_cons_of_mem _ (List.mem_append_right _ h)) (by decide +kernel))
set_option maxRecDepth 20000 in
theorem gX4_startStage_X4_startSlot : GoodIn wsX4_startStage (wsV RX4 261 RX4 yX4_startSlot wsX4_startSlot) := goodIn_app (goodIn_of _ (by decide +kernel)) ggX4_startStage_X4_startSlot
set_option maxRecDepth 20000 in
theorem ggX4_startStage_X3_spare : GoodIn wsX4_startStage wsX3_spare := goodIn_r _ [41, 42, 43, 44, 45, 46] (by decide +kernel) (by decide +kernel)
set_option maxRecDepth 20000 in
theorem gX4_startStage_X3_spare : GoodIn wsX4_startStage (wsV RX4 265 RX3 yX3_spare wsX3_spare) := goodIn_app (goodIn_of _ (by decide +kernel)) ggX4_startStage_X3_spare
theorem dX4_startStage_0 : decode cX4_startStage 0 = .ok (.aload_n 0, 1) := by decide +kernel
theorem dX4_startStage_1 : decode cX4_startStage 1 = .ok (.aload_n 1, 1) := by decide +kernel
theorem dX4_startStage_2 : decode cX4_startStage 2 = .ok (.aload_n 1, 1) := by decide +kernel
theorem dX4_startStage_3 : decode cX4_startStage 3 = .ok (.getfield 105, 3) := by decide +kernel
theorem dX4_startStage_6 : decode cX4_startStage 6 = .ok (.aload_n 2, 1) := by decide +kernel
theorem dX4_startStage_7 : decode cX4_startStage 7 = .ok (.invokevirtual 261, 3) := by decide +kernel
theorem dX4_startStage_10 : decode cX4_startStage 10 = .ok (.ifCond .ne 16, 3) := by decide +kernel
theorem dX4_startStage_13 : decode cX4_startStage 13 = .ok (.aload_n 0, 1) := by decide +kernel
theorem dX4_startStage_14 : decode cX4_startStage 14 = .ok (.aload_n 1, 1) := by decide +kernel
theorem dX4_startStage_15 : decode cX4_startStage 15 = .ok (.aload_n 1, 1) := by decide +kernel
theorem dX4_startStage_16 : decode cX4_startStage 16 = .ok (.invokevirtual 265, 3) := by decide +kernel
theorem dX4_startStage_19 : decode cX4_startStage 19 = .ok (.aload_n 2, 1) := by decide +kernel
theorem dX4_startStage_20 : decode cX4_startStage 20 = .ok (.invokevirtual 261, 3) := by decide +kernel
theorem dX4_startStage_23 : decode cX4_startStage 23 = .ok (.ifCond .eq 7, 3) := by decide +kernel
theorem dX4_startStage_26 : decode cX4_startStage 26 = .ok (.iconst 1, 1) := by decide +kernel
theorem dX4_startStage_27 : decode cX4_startStage 27 = .ok (.goto 4, 3) := by decide +kernel
theorem dX4_startStage_30 : decode cX4_startStage 30 = .ok (.iconst 0, 1) := by decide +kernel
theorem dX4_startStage_31 : decode cX4_startStage 31 = .ok (.ireturn, 1) := by decide +kernel
set_option maxRecDepth 20000 in
theorem ggX4_startSlot_X4_judge : GoodIn wsX4_startSlot wsX4_judge := goodIn_ca (goodIn_r _ [10, 1, 11, 12, 4, 13, 14, 33, 34, 35, 36, 41, 42, 43, 44, 45, 46, 47, 48, 37, 38, 39, 40] (by decide +kernel) (by decide +kernel)) (goodIn_sub (fun _ h => List.mem_cons_of_mem _ (List.mem_append_right _ h)) (by decide +kernel))
set_option maxRecDepth 20000 in
theorem gX4_startSlot_X4_judge : GoodIn wsX4_startSlot (wsV RX4 112 RX4 yX4_judge wsX4_judge) := goodIn_app (goodIn_of _ (by decide +kernel)) ggX4_startSlot_X4_judge
set_option maxRecDepth 20000 in
theorem ggX4_startSlot_X1_addMeasure : GoodIn wsX4_startSlot wsX1_addMeasure := goodIn_ca (goodIn_r _ [19, 20, 21, 22, 23, 9, 24, 49, 50, 51, 52, 53, 54, 55] (by decide +kernel) (by decide +kernel)) (goodIn_sub (fun _ h => List.mem_cons_of_mem _ (List.mem_append_right _ h)) (by decide +kernel))
set_option maxRecDepth 20000 in
theorem gX4_startSlot_X1_addMeasure : GoodIn wsX4_startSlot (wsV RX4 274 RX1 yX1_addMeasure wsX1_addMeasure) := goodIn_app (goodIn_of _ (by decide +kernel)) ggX4_startSlot_X1_addMeasure
set_option maxRecDepth 20000 in
theorem ggX4_startSlot_X1_addRun : GoodIn wsX4_startSlot wsX1_addRun := goodIn_ca (goodIn_r _ [28, 29, 30, 31, 32, 49, 50, 51, 52, 53, 54, 55] (by decide +kernel) (by decide +kernel)) (goodIn_sub (fun _ h => List.mem_cons_of_mem _ (List.mem_append_right _ h)) (by decide +kernel))
set_option maxRecDepth 20000 in
theorem gX4_startSlot_X1_addRun : GoodIn wsX4_startSlot (wsV RX4 277 RX1 yX1_addRun wsX1_addRun) := goodIn_app (goodIn_of _ (by decide +kernel)) ggX4_startSlot_X1_addRun
theorem dX4_startSlot_0 : decode cX4_startSlot 0 = .ok (.aload_n 1, 1) := by decide +kernel
theorem dX4_startSlot_1 : decode cX4_startSlot 1 = .ok (.getfield 246, 3) := by decide +kernel
theorem dX4_startSlot_4 : decode cX4_startSlot 4 = .ok (.iload_n 2, 1) := by decide +kernel
theorem dX4_startSlot_5 : decode cX4_startSlot 5 = .ok (.aaload, 1) := by decide +kernel
theorem dX4_startSlot_6 : decode cX4_startSlot 6 = .ok (.astore 4, 2) := by decide +kernel
theorem dX4_startSlot_8 : decode cX4_startSlot 8 = .ok (.aload_n 0, 1) := by decide +kernel
theorem dX4_startSlot_9 : decode cX4_startSlot 9 = .ok (.aload_n 1, 1) := by decide +kernel
theorem dX4_startSlot_10 : decode cX4_startSlot 10 = .ok (.iload_n 2, 1) := by decide +kernel
theorem dX4_startSlot_11 : decode cX4_startSlot 11 = .ok (.invokevirtual 112, 3) := by decide +kernel
theorem dX4_startSlot_14 : decode cX4_startSlot 14 = .ok (.istore 5, 2) := by decide +kernel
theorem dX4_startSlot_16 : decode cX4_startSlot 16 = .ok (.aload 4, 2) := by decide +kernel
theorem dX4_startSlot_18 : decode cX4_startSlot 18 = .ok (.ifnull 17, 3) := by decide +kernel
theorem dX4_startSlot_21 : decode cX4_startSlot 21 = .ok (.iload 5, 2) := by decide +kernel
theorem dX4_startSlot_23 : decode cX4_startSlot 23 = .ok (.bipush 45, 2) := by decide +kernel
theorem dX4_startSlot_25 : decode cX4_startSlot 25 = .ok (.if_icmp .eq 12, 3) := by decide +kernel
theorem dX4_startSlot_28 : decode cX4_startSlot 28 = .ok (.iload 5, 2) := by decide +kernel
theorem dX4_startSlot_30 : decode cX4_startSlot 30 = .ok (.bipush 98, 2) := by decide +kernel
theorem dX4_startSlot_32 : decode cX4_startSlot 32 = .ok (.if_icmp .eq 5, 3) := by decide +kernel
theorem dX4_startSlot_35 : decode cX4_startSlot 35 = .ok (.iconst 0, 1) := by decide +kernel
theorem dX4_startSlot_36 : decode cX4_startSlot 36 = .ok (.ireturn, 1) := by decide +kernel
theorem dX4_startSlot_37 : decode cX4_startSlot 37 = .ok (.aload_n 3, 1) := by decide +kernel
theorem dX4_startSlot_38 : decode cX4_startSlot 38 = .ok (.aload_n 1, 1) := by decide +kernel
theorem dX4_startSlot_39 : decode cX4_startSlot 39 = .ok (.getfield 268, 3) := by decide +kernel
theorem dX4_startSlot_42 : decode cX4_startSlot 42 = .ok (.aload 4, 2) := by decide +kernel
theorem dX4_startSlot_44 : decode cX4_startSlot 44 = .ok (.getfield 271, 3) := by decide +kernel
theorem dX4_startSlot_47 : decode cX4_startSlot 47 = .ok (.invokevirtual 274, 3) := by decide +kernel
theorem dX4_startSlot_50 : decode cX4_startSlot 50 = .ok (.iload 5, 2) := by decide +kernel
theorem dX4_startSlot_52 : decode cX4_startSlot 52 = .ok (.bipush 98, 2) := by decide +kernel
theorem dX4_startSlot_54 : decode cX4_startSlot 54 = .ok (.if_icmp .ne 5, 3) := by decide +kernel
theorem dX4_startSlot_57 : decode cX4_startSlot 57 = .ok (.iconst 0, 1) := by decide +kernel
theorem dX4_startSlot_58 : decode cX4_startSlot 58 = .ok (.ireturn, 1) := by decide +kernel
theorem dX4_startSlot_59 : decode cX4_startSlot 59 = .ok (.aload_n 3, 1) := by decide +kernel
theorem dX4_startSlot_60 : decode cX4_startSlot 60 = .ok (.iload_n 2, 1) := by decide +kernel
theorem dX4_startSlot_61 : decode cX4_startSlot 61 = .ok (.aload 4, 2) := by decide +kernel
theorem dX4_startSlot_63 : decode cX4_startSlot 63 = .ok (.getfield 102, 3) := by decide +kernel
theorem dX4_startSlot_66 : decode cX4_startSlot 66 = .ok (.iload_n 2, 1) := by decide +kernel
theorem dX4_startSlot_67 : decode cX4_startSlot 67 = .ok (.aload_n 1, 1) := by decide +kernel
theorem dX4_startSlot_68 : decode cX4_startSlot 68 = .ok (.getfield 105, 3) := by decide +kernel
theorem dX4_startSlot_71 : decode cX4_startSlot 71 = .ok (.if_icmp .eq 7, 3) := by decide +kernel
theorem dX4_startSlot_74 : decode cX4_startSlot 74 = .ok (.iconst 1, 1) := by decide +kernel
theorem dX4_startSlot_75 : decode cX4_startSlot 75 = .ok (.goto 4, 3) := by decide +kernel
theorem dX4_startSlot_78 : decode cX4_startSlot 78 = .ok (.iconst 0, 1) := by decide +kernel
theorem dX4_startSlot_79 : decode cX4_startSlot 79 = .ok (.invokevirtual 277, 3) := by decide +kernel
theorem dX4_startSlot_82 : decode cX4_startSlot 82 = .ok (.iconst 1, 1) := by decide +kernel
theorem dX4_startSlot_83 : decode cX4_startSlot 83 = .ok (.ireturn, 1) := by decide +kernel
theorem dX4_judge_0 : decode cX4_judge 0 = .ok (.aload_n 1, 1) := by decide +kernel
theorem dX4_judge_1 : decode cX4_judge 1 = .ok (.getfield 246, 3) := by decide +kernel
theorem dX4_judge_4 : decode cX4_judge 4 = .ok (.iload_n 2, 1) := by decide +kernel
theorem dX4_judge_5 : decode cX4_judge 5 = .ok (.aaload, 1) := by decide +kernel
theorem dX4_judge_6 : decode cX4_judge 6 = .ok (.astore_n 3, 1) := by decide +kernel
theorem dX4_judge_7 : decode cX4_judge 7 = .ok (.aload_n 3, 1) := by decide +kernel
theorem dX4_judge_8 : decode cX4_judge 8 = .ok (.ifnonnull 6, 3) := by decide +kernel
theorem dX4_judge_11 : decode cX4_judge 11 = .ok (.bipush 101, 2) := by decide +kernel
theorem dX4_judge_13 : decode cX4_judge 13 = .ok (.ireturn, 1) := by decide +kernel
theorem dX4_judge_14 : decode cX4_judge 14 = .ok (.aload_n 0, 1) := by decide +kernel
theorem dX4_judge_15 : decode cX4_judge 15 = .ok (.getfield 9, 3) := by decide +kernel
theorem dX4_judge_18 : decode cX4_judge 18 = .ok (.aload_n 3, 1) := by decide +kernel
theorem dX4_judge_19 : decode cX4_judge 19 = .ok (.getfield 281, 3) := by decide +kernel
theorem dX4_judge_22 : decode cX4_judge 22 = .ok (.baload, 1) := by decide +kernel
theorem dX4_judge_23 : decode cX4_judge 23 = .ok (.ifCond .ne 6, 3) := by decide +kernel
theorem dX4_judge_26 : decode cX4_judge 26 = .ok (.bipush 107, 2) := by decide +kernel
theorem dX4_judge_28 : decode cX4_judge 28 = .ok (.ireturn, 1) := by decide +kernel
theorem dX4_judge_29 : decode cX4_judge 29 = .ok (.aload_n 3, 1) := by decide +kernel
theorem dX4_judge_30 : decode cX4_judge 30 = .ok (.getfield 102, 3) := by decide +kernel
theorem dX4_judge_33 : decode cX4_judge 33 = .ok (.aload_n 1, 1) := by decide +kernel
theorem dX4_judge_34 : decode cX4_judge 34 = .ok (.getfield 116, 3) := by decide +kernel
theorem dX4_judge_37 : decode cX4_judge 37 = .ok (.if_icmp .ge 6, 3) := by decide +kernel
theorem dX4_judge_40 : decode cX4_judge 40 = .ok (.bipush 118, 2) := by decide +kernel
theorem dX4_judge_42 : decode cX4_judge 42 = .ok (.ireturn, 1) := by decide +kernel
theorem dX4_judge_43 : decode cX4_judge 43 = .ok (.aload_n 3, 1) := by decide +kernel
theorem dX4_judge_44 : decode cX4_judge 44 = .ok (.getfield 98, 3) := by decide +kernel
theorem dX4_judge_47 : decode cX4_judge 47 = .ok (.ifCond .eq 8, 3) := by decide +kernel
theorem dX4_judge_50 : decode cX4_judge 50 = .ok (.bipush 98, 2) := by decide +kernel
theorem dX4_judge_52 : decode cX4_judge 52 = .ok (.goto 5, 3) := by decide +kernel
theorem dX4_judge_55 : decode cX4_judge 55 = .ok (.bipush 45, 2) := by decide +kernel
theorem dX4_judge_57 : decode cX4_judge 57 = .ok (.ireturn, 1) := by decide +kernel
theorem dX4_fold_0 : decode cX4_fold 0 = .ok (.bipush 31, 2) := by decide +kernel
theorem dX4_fold_2 : decode cX4_fold 2 = .ok (.iload_n 0, 1) := by decide +kernel
theorem dX4_fold_3 : decode cX4_fold 3 = .ok (.imul, 1) := by decide +kernel
theorem dX4_fold_4 : decode cX4_fold 4 = .ok (.iload_n 1, 1) := by decide +kernel
theorem dX4_fold_5 : decode cX4_fold 5 = .ok (.iadd, 1) := by decide +kernel
theorem dX4_fold_6 : decode cX4_fold 6 = .ok (.iconst 1, 1) := by decide +kernel
theorem dX4_fold_7 : decode cX4_fold 7 = .ok (.iadd, 1) := by decide +kernel
theorem dX4_fold_8 : decode cX4_fold 8 = .ok (.sipush 9973, 3) := by decide +kernel
theorem dX4_fold_11 : decode cX4_fold 11 = .ok (.irem, 1) := by decide +kernel
theorem dX4_fold_12 : decode cX4_fold 12 = .ok (.ireturn, 1) := by decide +kernel
theorem dX5_init_0 : decode cX5_init 0 = .ok (.aload_n 0, 1) := by decide +kernel
theorem dX5_init_1 : decode cX5_init 1 = .ok (.invokespecial 1, 3) := by decide +kernel
theorem dX5_init_4 : decode cX5_init 4 = .ok (.aload_n 0, 1) := by decide +kernel
theorem dX5_init_5 : decode cX5_init 5 = .ok (.bipush 10, 2) := by decide +kernel
theorem dX5_init_7 : decode cX5_init 7 = .ok (.newarray .boolean, 2) := by decide +kernel
theorem dX5_init_9 : decode cX5_init 9 = .ok (.putfield 7, 3) := by decide +kernel
theorem dX5_init_12 : decode cX5_init 12 = .ok (.aload_n 0, 1) := by decide +kernel
theorem dX5_init_13 : decode cX5_init 13 = .ok (.bipush 12, 2) := by decide +kernel
theorem dX5_init_15 : decode cX5_init 15 = .ok (.newarray .boolean, 2) := by decide +kernel
theorem dX5_init_17 : decode cX5_init 17 = .ok (.putfield 13, 3) := by decide +kernel
theorem dX5_init_20 : decode cX5_init 20 = .ok (.aload_n 0, 1) := by decide +kernel
theorem dX5_init_21 : decode cX5_init 21 = .ok (.iconst 5, 1) := by decide +kernel
theorem dX5_init_22 : decode cX5_init 22 = .ok (.newarray .boolean, 2) := by decide +kernel
theorem dX5_init_24 : decode cX5_init 24 = .ok (.putfield 16, 3) := by decide +kernel
theorem dX5_init_27 : decode cX5_init 27 = .ok (.aload_n 0, 1) := by decide +kernel
theorem dX5_init_28 : decode cX5_init 28 = .ok (.bipush 6, 2) := by decide +kernel
theorem dX5_init_30 : decode cX5_init 30 = .ok (.newarray .int, 2) := by decide +kernel
theorem dX5_init_32 : decode cX5_init 32 = .ok (.putfield 19, 3) := by decide +kernel
theorem dX5_init_35 : decode cX5_init 35 = .ok (.aload_n 0, 1) := by decide +kernel
theorem dX5_init_36 : decode cX5_init 36 = .ok (.bipush 6, 2) := by decide +kernel
theorem dX5_init_38 : decode cX5_init 38 = .ok (.newarray .int, 2) := by decide +kernel
theorem dX5_init_40 : decode cX5_init 40 = .ok (.putfield 23, 3) := by decide +kernel
theorem dX5_init_43 : decode cX5_init 43 = .ok (.aload_n 0, 1) := by decide +kernel
theorem dX5_init_44 : decode cX5_init 44 = .ok (.bipush 6, 2) := by decide +kernel
theorem dX5_init_46 : decode cX5_init 46 = .ok (.newarray .int, 2) := by decide +kernel
theorem dX5_init_48 : decode cX5_init 48 = .ok (.putfield 26, 3) := by decide +kernel
theorem dX5_init_51 : decode cX5_init 51 = .ok (.aload_n 0, 1) := by decide +kernel
theorem dX5_init_52 : decode cX5_init 52 = .ok (.bipush 12, 2) := by decide +kernel
theorem dX5_init_54 : decode cX5_init 54 = .ok (.newarray .int, 2) := by decide +kernel
theorem dX5_init_56 : decode cX5_init 56 = .ok (.putfield 29, 3) := by decide +kernel
theorem dX5_init_59 : decode cX5_init 59 = .ok (.aload_n 0, 1) := by decide +kernel
theorem dX5_init_60 : decode cX5_init 60 = .ok (.bipush 12, 2) := by decide +kernel
theorem dX5_init_62 : decode cX5_init 62 = .ok (.newarray .int, 2) := by decide +kernel
theorem dX5_init_64 : decode cX5_init 64 = .ok (.putfield 32, 3) := by decide +kernel
theorem dX5_init_67 : decode cX5_init 67 = .ok (.aload_n 0, 1) := by decide +kernel
theorem dX5_init_68 : decode cX5_init 68 = .ok (.bipush 12, 2) := by decide +kernel
theorem dX5_init_70 : decode cX5_init 70 = .ok (.newarray .int, 2) := by decide +kernel
theorem dX5_init_72 : decode cX5_init 72 = .ok (.putfield 35, 3) := by decide +kernel
theorem dX5_init_75 : decode cX5_init 75 = .ok (.aload_n 0, 1) := by decide +kernel
theorem dX5_init_76 : decode cX5_init 76 = .ok (.bipush 6, 2) := by decide +kernel
theorem dX5_init_78 : decode cX5_init 78 = .ok (.newarray .int, 2) := by decide +kernel
theorem dX5_init_80 : decode cX5_init 80 = .ok (.putfield 38, 3) := by decide +kernel
theorem dX5_init_83 : decode cX5_init 83 = .ok (.aload_n 0, 1) := by decide +kernel
theorem dX5_init_84 : decode cX5_init 84 = .ok (.bipush 6, 2) := by decide +kernel
theorem dX5_init_86 : decode cX5_init 86 = .ok (.newarray .int, 2) := by decide +kernel
theorem dX5_init_88 : decode cX5_init 88 = .ok (.putfield 41, 3) := by decide +kernel
theorem dX5_init_91 : decode cX5_init 91 = .ok (.aload_n 0, 1) := by decide +kernel
theorem dX5_init_92 : decode cX5_init 92 = .ok (.bipush 12, 2) := by decide +kernel
theorem dX5_init_94 : decode cX5_init 94 = .ok (.newarray .int, 2) := by decide +kernel
theorem dX5_init_96 : decode cX5_init 96 = .ok (.putfield 44, 3) := by decide +kernel
theorem dX5_init_99 : decode cX5_init 99 = .ok (.aload_n 0, 1) := by decide +kernel
theorem dX5_init_100 : decode cX5_init 100 = .ok (.iconst 3, 1) := by decide +kernel
theorem dX5_init_101 : decode cX5_init 101 = .ok (.newarray .int, 2) := by decide +kernel
theorem dX5_init_103 : decode cX5_init 103 = .ok (.putfield 47, 3) := by decide +kernel
theorem dX5_init_106 : decode cX5_init 106 = .ok (.aload_n 0, 1) := by decide +kernel
theorem dX5_init_107 : decode cX5_init 107 = .ok (.bipush 6, 2) := by decide +kernel
theorem dX5_init_109 : decode cX5_init 109 = .ok (.newarray .int, 2) := by decide +kernel
theorem dX5_init_111 : decode cX5_init 111 = .ok (.putfield 50, 3) := by decide +kernel
theorem dX5_init_114 : decode cX5_init 114 = .ok (.aload_n 0, 1) := by decide +kernel
theorem dX5_init_115 : decode cX5_init 115 = .ok (.bipush 12, 2) := by decide +kernel
theorem dX5_init_117 : decode cX5_init 117 = .ok (.newarray .int, 2) := by decide +kernel
theorem dX5_init_119 : decode cX5_init 119 = .ok (.putfield 53, 3) := by decide +kernel
theorem dX5_init_122 : decode cX5_init 122 = .ok (.aload_n 0, 1) := by decide +kernel
theorem dX5_init_123 : decode cX5_init 123 = .ok (.iconst 3, 1) := by decide +kernel
theorem dX5_init_124 : decode cX5_init 124 = .ok (.newarray .int, 2) := by decide +kernel
theorem dX5_init_126 : decode cX5_init 126 = .ok (.putfield 56, 3) := by decide +kernel
theorem dX5_init_129 : decode cX5_init 129 = .ok (.aload_n 0, 1) := by decide +kernel
theorem dX5_init_130 : decode cX5_init 130 = .ok (.bipush 8, 2) := by decide +kernel
theorem dX5_init_132 : decode cX5_init 132 = .ok (.newarray .int, 2) := by decide +kernel
theorem dX5_init_134 : decode cX5_init 134 = .ok (.putfield 59, 3) := by decide +kernel
theorem dX5_init_137 : decode cX5_init 137 = .ok (.aload_n 0, 1) := by decide +kernel
theorem dX5_init_138 : decode cX5_init 138 = .ok (.bipush 8, 2) := by decide +kernel
theorem dX5_init_140 : decode cX5_init 140 = .ok (.newarray .int, 2) := by decide +kernel
theorem dX5_init_142 : decode cX5_init 142 = .ok (.putfield 62, 3) := by decide +kernel
theorem dX5_init_145 : decode cX5_init 145 = .ok (.aload_n 0, 1) := by decide +kernel
theorem dX5_init_146 : decode cX5_init 146 = .ok (.bipush 24, 2) := by decide +kernel
theorem dX5_init_148 : decode cX5_init 148 = .ok (.newarray .int, 2) := by decide +kernel
theorem dX5_init_150 : decode cX5_init 150 = .ok (.putfield 65, 3) := by decide +kernel
theorem dX5_init_153 : decode cX5_init 153 = .ok (.aload_n 0, 1) := by decide +kernel
theorem dX5_init_154 : decode cX5_init 154 = .ok (.bipush 111, 2) := by decide +kernel
theorem dX5_init_156 : decode cX5_init 156 = .ok (.putfield 68, 3) := by decide +kernel
theorem dX5_init_159 : decode cX5_init 159 = .ok (.aload_n 0, 1) := by decide +kernel
theorem dX5_init_160 : decode cX5_init 160 = .ok (.iconst 0, 1) := by decide +kernel
theorem dX5_init_161 : decode cX5_init 161 = .ok (.putfield 72, 3) := by decide +kernel
theorem dX5_init_164 : decode cX5_init 164 = .ok (.aload_n 0, 1) := by decide +kernel
theorem dX5_init_165 : decode cX5_init 165 = .ok (.iconst 0, 1) := by decide +kernel
theorem dX5_init_166 : decode cX5_init 166 = .ok (.putfield 76, 3) := by decide +kernel
theorem dX5_init_169 : decode cX5_init 169 = .ok (.aload_n 0, 1) := by decide +kernel
theorem dX5_init_170 : decode cX5_init 170 = .ok (.iconst 0, 1) := by decide +kernel
theorem dX5_init_171 : decode cX5_init 171 = .ok (.putfield 79, 3) := by decide +kernel
theorem dX5_init_174 : decode cX5_init 174 = .ok (.aload_n 0, 1) := by decide +kernel
theorem dX5_init_175 : decode cX5_init 175 = .ok (.iconst 0, 1) := by decide +kernel
theorem dX5_init_176 : decode cX5_init 176 = .ok (.putfield 82, 3) := by decide +kernel
theorem dX5_init_179 : decode cX5_init 179 = .ok (.aload_n 0, 1) := by decide +kernel
theorem dX5_init_180 : decode cX5_init 180 = .ok (.iconst 0, 1) := by decide +kernel
theorem dX5_init_181 : decode cX5_init 181 = .ok (.putfield 85, 3) := by decide +kernel
theorem dX5_init_184 : decode cX5_init 184 = .ok (.aload_n 0, 1) := by decide +kernel
theorem dX5_init_185 : decode cX5_init 185 = .ok (.iconst 0, 1) := by decide +kernel
theorem dX5_init_186 : decode cX5_init 186 = .ok (.putfield 88, 3) := by decide +kernel
theorem dX5_init_189 : decode cX5_init 189 = .ok (.aload_n 0, 1) := by decide +kernel
theorem dX5_init_190 : decode cX5_init 190 = .ok (.iconst 0, 1) := by decide +kernel
theorem dX5_init_191 : decode cX5_init 191 = .ok (.putfield 91, 3) := by decide +kernel
theorem dX5_init_194 : decode cX5_init 194 = .ok (.aload_n 0, 1) := by decide +kernel
theorem dX5_init_195 : decode cX5_init 195 = .ok (.iconst 0, 1) := by decide +kernel
theorem dX5_init_196 : decode cX5_init 196 = .ok (.putfield 94, 3) := by decide +kernel
theorem dX5_init_199 : decode cX5_init 199 = .ok (.aload_n 0, 1) := by decide +kernel
theorem dX5_init_200 : decode cX5_init 200 = .ok (.iconst 0, 1) := by decide +kernel
theorem dX5_init_201 : decode cX5_init 201 = .ok (.putfield 97, 3) := by decide +kernel
theorem dX5_init_204 : decode cX5_init 204 = .ok (.return_, 1) := by decide +kernel
theorem dX5_thrown_0 : decode cX5_thrown 0 = .ok (.aload_n 0, 1) := by decide +kernel
theorem dX5_thrown_1 : decode cX5_thrown 1 = .ok (.getfield 72, 3) := by decide +kernel
theorem dX5_thrown_4 : decode cX5_thrown 4 = .ok (.ireturn, 1) := by decide +kernel
theorem dX5_in_0 : decode cX5_in 0 = .ok (.iload_n 0, 1) := by decide +kernel
theorem dX5_in_1 : decode cX5_in 1 = .ok (.iload_n 1, 1) := by decide +kernel
theorem dX5_in_2 : decode cX5_in 2 = .ok (.if_icmp .lt 12, 3) := by decide +kernel
theorem dX5_in_5 : decode cX5_in 5 = .ok (.iload_n 0, 1) := by decide +kernel
theorem dX5_in_6 : decode cX5_in 6 = .ok (.iload_n 2, 1) := by decide +kernel
theorem dX5_in_7 : decode cX5_in 7 = .ok (.if_icmp .gt 7, 3) := by decide +kernel
theorem dX5_in_10 : decode cX5_in 10 = .ok (.iconst 1, 1) := by decide +kernel
theorem dX5_in_11 : decode cX5_in 11 = .ok (.goto 4, 3) := by decide +kernel
theorem dX5_in_14 : decode cX5_in 14 = .ok (.iconst 0, 1) := by decide +kernel
theorem dX5_in_15 : decode cX5_in 15 = .ok (.ireturn, 1) := by decide +kernel
theorem dX5_plain_0 : decode cX5_plain 0 = .ok (.aload_n 0, 1) := by decide +kernel
theorem dX5_plain_1 : decode cX5_plain 1 = .ok (.iconst 0, 1) := by decide +kernel
theorem dX5_plain_2 : decode cX5_plain 2 = .ok (.putfield 72, 3) := by decide +kernel
theorem dX5_plain_5 : decode cX5_plain 5 = .ok (.iload_n 1, 1) := by decide +kernel
theorem dX5_plain_6 : decode cX5_plain 6 = .ok (.ireturn, 1) := by decide +kernel
theorem dX5_checked_0 : decode cX5_checked 0 = .ok (.aload_n 0, 1) := by decide +kernel
theorem dX5_checked_1 : decode cX5_checked 1 = .ok (.iload_n 1, 1) := by decide +kernel
theorem dX5_checked_2 : decode cX5_checked 2 = .ok (.ifCond .eq 7, 3) := by decide +kernel
theorem dX5_checked_5 : decode cX5_checked 5 = .ok (.iconst 0, 1) := by decide +kernel
theorem dX5_checked_6 : decode cX5_checked 6 = .ok (.goto 4, 3) := by decide +kernel
theorem dX5_checked_9 : decode cX5_checked 9 = .ok (.iconst 1, 1) := by decide +kernel
theorem dX5_checked_10 : decode cX5_checked 10 = .ok (.putfield 72, 3) := by decide +kernel
theorem dX5_checked_13 : decode cX5_checked 13 = .ok (.aload_n 0, 1) := by decide +kernel
theorem dX5_checked_14 : decode cX5_checked 14 = .ok (.getfield 72, 3) := by decide +kernel
theorem dX5_checked_17 : decode cX5_checked 17 = .ok (.ireturn, 1) := by decide +kernel
set_option maxRecDepth 20000 in
theorem ggX5_isStage_X5_in : GoodIn wsX5_isStage wsX5_in := goodIn_r _ [5] (by decide +kernel) (by decide +kernel)
set_option maxRecDepth 20000 in
theorem gX5_isStage_X5_in : GoodIn wsX5_isStage (va_wsS RX5 100 yX5_in wsX5_in) := goodIn_app (goodIn_of _ (by decide +kernel)) ggX5_isStage_X5_in
theorem dX5_isStage_0 : decode cX5_isStage 0 = .ok (.iload_n 1, 1) := by decide +kernel
theorem dX5_isStage_1 : decode cX5_isStage 1 = .ok (.iconst 0, 1) := by decide +kernel
theorem dX5_isStage_2 : decode cX5_isStage 2 = .ok (.aload_n 0, 1) := by decide +kernel
theorem dX5_isStage_3 : decode cX5_isStage 3 = .ok (.getfield 76, 3) := by decide +kernel
theorem dX5_isStage_6 : decode cX5_isStage 6 = .ok (.iconst 1, 1) := by decide +kernel
theorem dX5_isStage_7 : decode cX5_isStage 7 = .ok (.isub, 1) := by decide +kernel
theorem dX5_isStage_8 : decode cX5_isStage 8 = .ok (.invokestatic 100, 3) := by decide +kernel
theorem dX5_isStage_11 : decode cX5_isStage 11 = .ok (.ireturn, 1) := by decide +kernel
set_option maxRecDepth 20000 in
theorem ggX5_isSecret_X5_in : GoodIn wsX5_isSecret wsX5_in := goodIn_r _ [5] (by decide +kernel) (by decide +kernel)
set_option maxRecDepth 20000 in
theorem gX5_isSecret_X5_in : GoodIn wsX5_isSecret (va_wsS RX5 100 yX5_in wsX5_in) := goodIn_app (goodIn_of _ (by decide +kernel)) ggX5_isSecret_X5_in
theorem dX5_isSecret_0 : decode cX5_isSecret 0 = .ok (.iload_n 1, 1) := by decide +kernel
theorem dX5_isSecret_1 : decode cX5_isSecret 1 = .ok (.iconst 0, 1) := by decide +kernel
theorem dX5_isSecret_2 : decode cX5_isSecret 2 = .ok (.aload_n 0, 1) := by decide +kernel
theorem dX5_isSecret_3 : decode cX5_isSecret 3 = .ok (.getfield 79, 3) := by decide +kernel
theorem dX5_isSecret_6 : decode cX5_isSecret 6 = .ok (.iconst 1, 1) := by decide +kernel
theorem dX5_isSecret_7 : decode cX5_isSecret 7 = .ok (.isub, 1) := by decide +kernel
theorem dX5_isSecret_8 : decode cX5_isSecret 8 = .ok (.invokestatic 100, 3) := by decide +kernel
theorem dX5_isSecret_11 : decode cX5_isSecret 11 = .ok (.ireturn, 1) := by decide +kernel
set_option maxRecDepth 20000 in
theorem ggX5_isRegister_X5_in : GoodIn wsX5_isRegister wsX5_in := goodIn_r _ [4] (by decide +kernel) (by decide +kernel)
set_option maxRecDepth 20000 in
theorem gX5_isRegister_X5_in : GoodIn wsX5_isRegister (va_wsS RX5 100 yX5_in wsX5_in) := goodIn_app (goodIn_of _ (by decide +kernel)) ggX5_isRegister_X5_in
theorem dX5_isRegister_0 : decode cX5_isRegister 0 = .ok (.iload_n 0, 1) := by decide +kernel
theorem dX5_isRegister_1 : decode cX5_isRegister 1 = .ok (.iconst 0, 1) := by decide +kernel
theorem dX5_isRegister_2 : decode cX5_isRegister 2 = .ok (.iconst 2, 1) := by decide +kernel
theorem dX5_isRegister_3 : decode cX5_isRegister 3 = .ok (.invokestatic 100, 3) := by decide +kernel
theorem dX5_isRegister_6 : decode cX5_isRegister 6 = .ok (.ireturn, 1) := by decide +kernel
set_option maxRecDepth 20000 in
theorem ggX5_setTrusted_X5_in : GoodIn wsX5_setTrusted wsX5_in := goodIn_r _ [5] (by decide +kernel) (by decide +kernel)
set_option maxRecDepth 20000 in
theorem gX5_setTrusted_X5_in : GoodIn wsX5_setTrusted (va_wsS RX5 100 yX5_in wsX5_in) := goodIn_app (goodIn_of _ (by decide +kernel)) ggX5_setTrusted_X5_in
set_option maxRecDepth 20000 in
theorem ggX5_setTrusted_X5_checked : GoodIn wsX5_setTrusted wsX5_checked := goodIn_r _ [9, 10, 11, 12, 13, 14, 15, 16, 17, 18, 19, 20, 21, 22, 23, 24, 25, 26, 27, 28, 29, 30, 31, 32, 33, 34, 35, 36, 37, 38, 39] (by decide +kernel) (by decide +kernel)
set_option maxRecDepth 20000 in
theorem gX5_setTrusted_X5_checked : GoodIn wsX5_setTrusted (wsV RX5 104 RX5 yX5_checked wsX5_checked) := goodIn_app (goodIn_of _ (by decide +kernel)) ggX5_setTrusted_X5_checked
theorem dX5_setTrusted_0 : decode cX5_setTrusted 0 = .ok (.aload_n 0, 1) := by decide +kernel
theorem dX5_setTrusted_1 : decode cX5_setTrusted 1 = .ok (.iload_n 1, 1) := by decide +kernel
theorem dX5_setTrusted_2 : decode cX5_setTrusted 2 = .ok (.iconst 1, 1) := by decide +kernel
theorem dX5_setTrusted_3 : decode cX5_setTrusted 3 = .ok (.bipush 9, 2) := by decide +kernel
theorem dX5_setTrusted_5 : decode cX5_setTrusted 5 = .ok (.invokestatic 100, 3) := by decide +kernel
theorem dX5_setTrusted_8 : decode cX5_setTrusted 8 = .ok (.invokevirtual 104, 3) := by decide +kernel
theorem dX5_setTrusted_11 : decode cX5_setTrusted 11 = .ok (.ifCond .le 5, 3) := by decide +kernel
theorem dX5_setTrusted_14 : decode cX5_setTrusted 14 = .ok (.iconst 0, 1) := by decide +kernel
theorem dX5_setTrusted_15 : decode cX5_setTrusted 15 = .ok (.ireturn, 1) := by decide +kernel
theorem dX5_setTrusted_16 : decode cX5_setTrusted 16 = .ok (.aload_n 0, 1) := by decide +kernel
theorem dX5_setTrusted_17 : decode cX5_setTrusted 17 = .ok (.getfield 7, 3) := by decide +kernel
theorem dX5_setTrusted_20 : decode cX5_setTrusted 20 = .ok (.iload_n 1, 1) := by decide +kernel
theorem dX5_setTrusted_21 : decode cX5_setTrusted 21 = .ok (.baload, 1) := by decide +kernel
theorem dX5_setTrusted_22 : decode cX5_setTrusted 22 = .ok (.istore_n 3, 1) := by decide +kernel
theorem dX5_setTrusted_23 : decode cX5_setTrusted 23 = .ok (.aload_n 0, 1) := by decide +kernel
theorem dX5_setTrusted_24 : decode cX5_setTrusted 24 = .ok (.getfield 7, 3) := by decide +kernel
theorem dX5_setTrusted_27 : decode cX5_setTrusted 27 = .ok (.iload_n 1, 1) := by decide +kernel
theorem dX5_setTrusted_28 : decode cX5_setTrusted 28 = .ok (.iload_n 2, 1) := by decide +kernel
theorem dX5_setTrusted_29 : decode cX5_setTrusted 29 = .ok (.bastore, 1) := by decide +kernel
theorem dX5_setTrusted_30 : decode cX5_setTrusted 30 = .ok (.iload_n 3, 1) := by decide +kernel
theorem dX5_setTrusted_31 : decode cX5_setTrusted 31 = .ok (.ireturn, 1) := by decide +kernel
set_option maxRecDepth 20000 in
theorem ggX5_addStage_X5_isRegister : GoodIn wsX5_addStage wsX5_isRegister := goodIn_r _ [8, 9, 10, 7, 11] (by decide +kernel) (by decide +kernel)
set_option maxRecDepth 20000 in
theorem gX5_addStage_X5_isRegister : GoodIn wsX5_addStage (va_wsS RX5 108 yX5_isRegister wsX5_isRegister) := goodIn_app (goodIn_of _ (by decide +kernel)) ggX5_addStage_X5_isRegister
theorem dX5_addStage_0 : decode cX5_addStage 0 = .ok (.aload_n 0, 1) := by decide +kernel
theorem dX5_addStage_1 : decode cX5_addStage 1 = .ok (.iload_n 1, 1) := by decide +kernel
theorem dX5_addStage_2 : decode cX5_addStage 2 = .ok (.invokestatic 108, 3) := by decide +kernel
theorem dX5_addStage_5 : decode cX5_addStage 5 = .ok (.ifCond .ne 7, 3) := by decide +kernel
theorem dX5_addStage_8 : decode cX5_addStage 8 = .ok (.iconst 1, 1) := by decide +kernel
theorem dX5_addStage_9 : decode cX5_addStage 9 = .ok (.goto 26, 3) := by decide +kernel
theorem dX5_addStage_12 : decode cX5_addStage 12 = .ok (.aload_n 0, 1) := by decide +kernel
theorem dX5_addStage_13 : decode cX5_addStage 13 = .ok (.getfield 76, 3) := by decide +kernel
theorem dX5_addStage_16 : decode cX5_addStage 16 = .ok (.bipush 6, 2) := by decide +kernel
theorem dX5_addStage_18 : decode cX5_addStage 18 = .ok (.if_icmp .eq 12, 3) := by decide +kernel
theorem dX5_addStage_21 : decode cX5_addStage 21 = .ok (.aload_n 0, 1) := by decide +kernel
theorem dX5_addStage_22 : decode cX5_addStage 22 = .ok (.getfield 68, 3) := by decide +kernel
theorem dX5_addStage_25 : decode cX5_addStage 25 = .ok (.bipush 111, 2) := by decide +kernel
theorem dX5_addStage_27 : decode cX5_addStage 27 = .ok (.if_icmp .eq 7, 3) := by decide +kernel
theorem dX5_addStage_30 : decode cX5_addStage 30 = .ok (.iconst 2, 1) := by decide +kernel
theorem dX5_addStage_31 : decode cX5_addStage 31 = .ok (.goto 4, 3) := by decide +kernel
theorem dX5_addStage_34 : decode cX5_addStage 34 = .ok (.iconst 0, 1) := by decide +kernel
theorem dX5_addStage_35 : decode cX5_addStage 35 = .ok (.putfield 72, 3) := by decide +kernel
theorem dX5_addStage_38 : decode cX5_addStage 38 = .ok (.aload_n 0, 1) := by decide +kernel
theorem dX5_addStage_39 : decode cX5_addStage 39 = .ok (.getfield 72, 3) := by decide +kernel
theorem dX5_addStage_42 : decode cX5_addStage 42 = .ok (.ifCond .le 5, 3) := by decide +kernel
theorem dX5_addStage_45 : decode cX5_addStage 45 = .ok (.iconst 0, 1) := by decide +kernel
theorem dX5_addStage_46 : decode cX5_addStage 46 = .ok (.ireturn, 1) := by decide +kernel
theorem dX5_addStage_47 : decode cX5_addStage 47 = .ok (.aload_n 0, 1) := by decide +kernel
theorem dX5_addStage_48 : decode cX5_addStage 48 = .ok (.getfield 19, 3) := by decide +kernel
theorem dX5_addStage_51 : decode cX5_addStage 51 = .ok (.aload_n 0, 1) := by decide +kernel
theorem dX5_addStage_52 : decode cX5_addStage 52 = .ok (.getfield 76, 3) := by decide +kernel
theorem dX5_addStage_55 : decode cX5_addStage 55 = .ok (.iload_n 1, 1) := by decide +kernel
theorem dX5_addStage_56 : decode cX5_addStage 56 = .ok (.iastore, 1) := by decide +kernel
theorem dX5_addStage_57 : decode cX5_addStage 57 = .ok (.aload_n 0, 1) := by decide +kernel
theorem dX5_addStage_58 : decode cX5_addStage 58 = .ok (.dup, 1) := by decide +kernel
theorem dX5_addStage_59 : decode cX5_addStage 59 = .ok (.getfield 76, 3) := by decide +kernel
theorem dX5_addStage_62 : decode cX5_addStage 62 = .ok (.iconst 1, 1) := by decide +kernel
theorem dX5_addStage_63 : decode cX5_addStage 63 = .ok (.iadd, 1) := by decide +kernel
theorem dX5_addStage_64 : decode cX5_addStage 64 = .ok (.putfield 76, 3) := by decide +kernel
theorem dX5_addStage_67 : decode cX5_addStage 67 = .ok (.aload_n 0, 1) := by decide +kernel
theorem dX5_addStage_68 : decode cX5_addStage 68 = .ok (.getfield 76, 3) := by decide +kernel
theorem dX5_addStage_71 : decode cX5_addStage 71 = .ok (.iconst 1, 1) := by decide +kernel
theorem dX5_addStage_72 : decode cX5_addStage 72 = .ok (.isub, 1) := by decide +kernel
theorem dX5_addStage_73 : decode cX5_addStage 73 = .ok (.ireturn, 1) := by decide +kernel
theorem dX5_at_0 : decode cX5_at 0 = .ok (.iconst 2, 1) := by decide +kernel
theorem dX5_at_1 : decode cX5_at 1 = .ok (.iload_n 0, 1) := by decide +kernel
theorem dX5_at_2 : decode cX5_at 2 = .ok (.imul, 1) := by decide +kernel
theorem dX5_at_3 : decode cX5_at 3 = .ok (.iload_n 1, 1) := by decide +kernel
theorem dX5_at_4 : decode cX5_at 4 = .ok (.iadd, 1) := by decide +kernel
theorem dX5_at_5 : decode cX5_at 5 = .ok (.ireturn, 1) := by decide +kernel
set_option maxRecDepth 20000 in
theorem ggX5_install_X5_isStage : GoodIn wsX5_install wsX5_isStage := goodIn_r _ [11, 12, 13, 14, 10, 15, 19, 20, 21, 22, 23, 24, 25, 26, 27, 28, 29, 30, 31, 32, 33, 34, 35, 36, 37, 38, 39, 40, 41, 42, 43, 44, 45, 46, 47] (by decide +kernel) (by decide +kernel)
set_option maxRecDepth 20000 in
theorem gX5_install_X5_isStage : GoodIn wsX5_install (wsV RX5 112 RX5 yX5_isStage wsX5_isStage) := goodIn_app (goodIn_of _ (by decide +kernel)) ggX5_install_X5_isStage
set_option maxRecDepth 20000 in
theorem ggX5_install_X5_in : GoodIn wsX5_install wsX5_in := goodIn_r _ [15] (by decide +kernel) (by decide +kernel)
set_option maxRecDepth 20000 in
theorem gX5_install_X5_in : GoodIn wsX5_install (va_wsS RX5 100 yX5_in wsX5_in) := goodIn_app (goodIn_of _ (by decide +kernel)) ggX5_install_X5_in
set_option maxRecDepth 20000 in
theorem ggX5_install_X5_at : GoodIn wsX5_install wsX5_at := goodIn_r _ [18] (by decide +kernel) (by decide +kernel)
set_option maxRecDepth 20000 in
theorem gX5_install_X5_at : GoodIn wsX5_install (va_wsS RX5 115 yX5_at wsX5_at) := goodIn_app (goodIn_of _ (by decide +kernel)) ggX5_install_X5_at
theorem dX5_install_0 : decode cX5_install 0 = .ok (.aload_n 0, 1) := by decide +kernel
theorem dX5_install_1 : decode cX5_install 1 = .ok (.aload_n 0, 1) := by decide +kernel
theorem dX5_install_2 : decode cX5_install 2 = .ok (.iload_n 1, 1) := by decide +kernel
theorem dX5_install_3 : decode cX5_install 3 = .ok (.invokevirtual 112, 3) := by decide +kernel
theorem dX5_install_6 : decode cX5_install 6 = .ok (.ifCond .ne 7, 3) := by decide +kernel
theorem dX5_install_9 : decode cX5_install 9 = .ok (.iconst 1, 1) := by decide +kernel
theorem dX5_install_10 : decode cX5_install 10 = .ok (.goto 40, 3) := by decide +kernel
theorem dX5_install_13 : decode cX5_install 13 = .ok (.iload_n 2, 1) := by decide +kernel
theorem dX5_install_14 : decode cX5_install 14 = .ok (.iconst 1, 1) := by decide +kernel
theorem dX5_install_15 : decode cX5_install 15 = .ok (.bipush 9, 2) := by decide +kernel
theorem dX5_install_17 : decode cX5_install 17 = .ok (.invokestatic 100, 3) := by decide +kernel
theorem dX5_install_20 : decode cX5_install 20 = .ok (.ifCond .eq 25, 3) := by decide +kernel
theorem dX5_install_23 : decode cX5_install 23 = .ok (.iload_n 3, 1) := by decide +kernel
theorem dX5_install_24 : decode cX5_install 24 = .ok (.iconst 1, 1) := by decide +kernel
theorem dX5_install_25 : decode cX5_install 25 = .ok (.bipush 99, 2) := by decide +kernel
theorem dX5_install_27 : decode cX5_install 27 = .ok (.invokestatic 100, 3) := by decide +kernel
theorem dX5_install_30 : decode cX5_install 30 = .ok (.ifCond .eq 15, 3) := by decide +kernel
theorem dX5_install_33 : decode cX5_install 33 = .ok (.iload 4, 2) := by decide +kernel
theorem dX5_install_35 : decode cX5_install 35 = .ok (.iconst 0, 1) := by decide +kernel
theorem dX5_install_36 : decode cX5_install 36 = .ok (.sipush 999, 3) := by decide +kernel
theorem dX5_install_39 : decode cX5_install 39 = .ok (.invokestatic 100, 3) := by decide +kernel
theorem dX5_install_42 : decode cX5_install 42 = .ok (.ifCond .ne 7, 3) := by decide +kernel
theorem dX5_install_45 : decode cX5_install 45 = .ok (.iconst 2, 1) := by decide +kernel
theorem dX5_install_46 : decode cX5_install 46 = .ok (.goto 4, 3) := by decide +kernel
theorem dX5_install_49 : decode cX5_install 49 = .ok (.iconst 0, 1) := by decide +kernel
theorem dX5_install_50 : decode cX5_install 50 = .ok (.putfield 72, 3) := by decide +kernel
theorem dX5_install_53 : decode cX5_install 53 = .ok (.aload_n 0, 1) := by decide +kernel
theorem dX5_install_54 : decode cX5_install 54 = .ok (.getfield 72, 3) := by decide +kernel
theorem dX5_install_57 : decode cX5_install 57 = .ok (.ifCond .le 5, 3) := by decide +kernel
theorem dX5_install_60 : decode cX5_install 60 = .ok (.iconst 0, 1) := by decide +kernel
theorem dX5_install_61 : decode cX5_install 61 = .ok (.ireturn, 1) := by decide +kernel
theorem dX5_install_62 : decode cX5_install 62 = .ok (.aload_n 0, 1) := by decide +kernel
theorem dX5_install_63 : decode cX5_install 63 = .ok (.getfield 29, 3) := by decide +kernel
theorem dX5_install_66 : decode cX5_install 66 = .ok (.iload_n 1, 1) := by decide +kernel
theorem dX5_install_67 : decode cX5_install 67 = .ok (.aload_n 0, 1) := by decide +kernel
theorem dX5_install_68 : decode cX5_install 68 = .ok (.getfield 23, 3) := by decide +kernel
theorem dX5_install_71 : decode cX5_install 71 = .ok (.iload_n 1, 1) := by decide +kernel
theorem dX5_install_72 : decode cX5_install 72 = .ok (.iaload, 1) := by decide +kernel
theorem dX5_install_73 : decode cX5_install 73 = .ok (.invokestatic 115, 3) := by decide +kernel
theorem dX5_install_76 : decode cX5_install 76 = .ok (.iaload, 1) := by decide +kernel
theorem dX5_install_77 : decode cX5_install 77 = .ok (.ifCond .ne 12, 3) := by decide +kernel
theorem dX5_install_80 : decode cX5_install 80 = .ok (.aload_n 0, 1) := by decide +kernel
theorem dX5_install_81 : decode cX5_install 81 = .ok (.getfield 23, 3) := by decide +kernel
theorem dX5_install_84 : decode cX5_install 84 = .ok (.iload_n 1, 1) := by decide +kernel
theorem dX5_install_85 : decode cX5_install 85 = .ok (.iaload, 1) := by decide +kernel
theorem dX5_install_86 : decode cX5_install 86 = .ok (.goto 11, 3) := by decide +kernel
theorem dX5_install_89 : decode cX5_install 89 = .ok (.iconst 1, 1) := by decide +kernel
theorem dX5_install_90 : decode cX5_install 90 = .ok (.aload_n 0, 1) := by decide +kernel
theorem dX5_install_91 : decode cX5_install 91 = .ok (.getfield 23, 3) := by decide +kernel
theorem dX5_install_94 : decode cX5_install 94 = .ok (.iload_n 1, 1) := by decide +kernel
theorem dX5_install_95 : decode cX5_install 95 = .ok (.iaload, 1) := by decide +kernel
theorem dX5_install_96 : decode cX5_install 96 = .ok (.isub, 1) := by decide +kernel
theorem dX5_install_97 : decode cX5_install 97 = .ok (.istore 5, 2) := by decide +kernel
theorem dX5_install_99 : decode cX5_install 99 = .ok (.aload_n 0, 1) := by decide +kernel
theorem dX5_install_100 : decode cX5_install 100 = .ok (.getfield 29, 3) := by decide +kernel
theorem dX5_install_103 : decode cX5_install 103 = .ok (.iload_n 1, 1) := by decide +kernel
theorem dX5_install_104 : decode cX5_install 104 = .ok (.iload 5, 2) := by decide +kernel
theorem dX5_install_106 : decode cX5_install 106 = .ok (.invokestatic 115, 3) := by decide +kernel
theorem dX5_install_109 : decode cX5_install 109 = .ok (.iload_n 2, 1) := by decide +kernel
theorem dX5_install_110 : decode cX5_install 110 = .ok (.iastore, 1) := by decide +kernel
theorem dX5_install_111 : decode cX5_install 111 = .ok (.aload_n 0, 1) := by decide +kernel
theorem dX5_install_112 : decode cX5_install 112 = .ok (.getfield 32, 3) := by decide +kernel
theorem dX5_install_115 : decode cX5_install 115 = .ok (.iload_n 1, 1) := by decide +kernel
theorem dX5_install_116 : decode cX5_install 116 = .ok (.iload 5, 2) := by decide +kernel
theorem dX5_install_118 : decode cX5_install 118 = .ok (.invokestatic 115, 3) := by decide +kernel
theorem dX5_install_121 : decode cX5_install 121 = .ok (.iload_n 3, 1) := by decide +kernel
theorem dX5_install_122 : decode cX5_install 122 = .ok (.iastore, 1) := by decide +kernel
theorem dX5_install_123 : decode cX5_install 123 = .ok (.aload_n 0, 1) := by decide +kernel
theorem dX5_install_124 : decode cX5_install 124 = .ok (.getfield 35, 3) := by decide +kernel
theorem dX5_install_127 : decode cX5_install 127 = .ok (.iload_n 1, 1) := by decide +kernel
theorem dX5_install_128 : decode cX5_install 128 = .ok (.iload 5, 2) := by decide +kernel
theorem dX5_install_130 : decode cX5_install 130 = .ok (.invokestatic 115, 3) := by decide +kernel
theorem dX5_install_133 : decode cX5_install 133 = .ok (.iload 4, 2) := by decide +kernel
theorem dX5_install_135 : decode cX5_install 135 = .ok (.iastore, 1) := by decide +kernel
theorem dX5_install_136 : decode cX5_install 136 = .ok (.aload_n 0, 1) := by decide +kernel
theorem dX5_install_137 : decode cX5_install 137 = .ok (.getfield 13, 3) := by decide +kernel
theorem dX5_install_140 : decode cX5_install 140 = .ok (.iload_n 1, 1) := by decide +kernel
theorem dX5_install_141 : decode cX5_install 141 = .ok (.iload 5, 2) := by decide +kernel
theorem dX5_install_143 : decode cX5_install 143 = .ok (.invokestatic 115, 3) := by decide +kernel
theorem dX5_install_146 : decode cX5_install 146 = .ok (.iconst 0, 1) := by decide +kernel
theorem dX5_install_147 : decode cX5_install 147 = .ok (.bastore, 1) := by decide +kernel
theorem dX5_install_148 : decode cX5_install 148 = .ok (.aload_n 0, 1) := by decide +kernel
theorem dX5_install_149 : decode cX5_install 149 = .ok (.getfield 23, 3) := by decide +kernel
theorem dX5_install_152 : decode cX5_install 152 = .ok (.iload_n 1, 1) := by decide +kernel
theorem dX5_install_153 : decode cX5_install 153 = .ok (.iload 5, 2) := by decide +kernel
theorem dX5_install_155 : decode cX5_install 155 = .ok (.iastore, 1) := by decide +kernel
theorem dX5_install_156 : decode cX5_install 156 = .ok (.iload 5, 2) := by decide +kernel
theorem dX5_install_158 : decode cX5_install 158 = .ok (.ireturn, 1) := by decide +kernel
set_option maxRecDepth 20000 in
theorem ggX5_wrongSlot_X5_isStage : GoodIn wsX5_wrongSlot wsX5_isStage := goodIn_r _ [6, 7, 8, 9, 5, 10, 14, 15, 16, 17, 18, 19, 20, 21, 22, 23, 24, 25, 26, 27, 28, 29, 30, 31, 32, 33, 34, 35, 36, 37, 38, 39, 40, 41, 42] (by decide +kernel) (by decide +kernel)
set_option maxRecDepth 20000 in
theorem gX5_wrongSlot_X5_isStage : GoodIn wsX5_wrongSlot (wsV RX5 112 RX5 yX5_isStage wsX5_isStage) := goodIn_app (goodIn_of _ (by decide +kernel)) ggX5_wrongSlot_X5_isStage
set_option maxRecDepth 20000 in
theorem ggX5_wrongSlot_X5_in : GoodIn wsX5_wrongSlot wsX5_in := goodIn_r _ [10] (by decide +kernel) (by decide +kernel)
set_option maxRecDepth 20000 in
theorem gX5_wrongSlot_X5_in : GoodIn wsX5_wrongSlot (va_wsS RX5 100 yX5_in wsX5_in) := goodIn_app (goodIn_of _ (by decide +kernel)) ggX5_wrongSlot_X5_in
set_option maxRecDepth 20000 in
theorem ggX5_wrongSlot_X5_at : GoodIn wsX5_wrongSlot wsX5_at := goodIn_r _ [13] (by decide +kernel) (by decide +kernel)
set_option maxRecDepth 20000 in
theorem gX5_wrongSlot_X5_at : GoodIn wsX5_wrongSlot (va_wsS RX5 115 yX5_at wsX5_at) := goodIn_app (goodIn_of _ (by decide +kernel)) ggX5_wrongSlot_X5_at
theorem dX5_wrongSlot_0 : decode cX5_wrongSlot 0 = .ok (.aload_n 0, 1) := by decide +kernel
theorem dX5_wrongSlot_1 : decode cX5_wrongSlot 1 = .ok (.iload_n 1, 1) := by decide +kernel
theorem dX5_wrongSlot_2 : decode cX5_wrongSlot 2 = .ok (.invokevirtual 112, 3) := by decide +kernel
theorem dX5_wrongSlot_5 : decode cX5_wrongSlot 5 = .ok (.ifCond .eq 12, 3) := by decide +kernel
theorem dX5_wrongSlot_8 : decode cX5_wrongSlot 8 = .ok (.iload_n 2, 1) := by decide +kernel
theorem dX5_wrongSlot_9 : decode cX5_wrongSlot 9 = .ok (.iconst 0, 1) := by decide +kernel
theorem dX5_wrongSlot_10 : decode cX5_wrongSlot 10 = .ok (.iconst 1, 1) := by decide +kernel
theorem dX5_wrongSlot_11 : decode cX5_wrongSlot 11 = .ok (.invokestatic 100, 3) := by decide +kernel
theorem dX5_wrongSlot_14 : decode cX5_wrongSlot 14 = .ok (.ifCond .ne 7, 3) := by decide +kernel
theorem dX5_wrongSlot_17 : decode cX5_wrongSlot 17 = .ok (.iconst 1, 1) := by decide +kernel
theorem dX5_wrongSlot_18 : decode cX5_wrongSlot 18 = .ok (.goto 21, 3) := by decide +kernel
theorem dX5_wrongSlot_21 : decode cX5_wrongSlot 21 = .ok (.aload_n 0, 1) := by decide +kernel
theorem dX5_wrongSlot_22 : decode cX5_wrongSlot 22 = .ok (.getfield 29, 3) := by decide +kernel
theorem dX5_wrongSlot_25 : decode cX5_wrongSlot 25 = .ok (.iload_n 1, 1) := by decide +kernel
theorem dX5_wrongSlot_26 : decode cX5_wrongSlot 26 = .ok (.iload_n 2, 1) := by decide +kernel
theorem dX5_wrongSlot_27 : decode cX5_wrongSlot 27 = .ok (.invokestatic 115, 3) := by decide +kernel
theorem dX5_wrongSlot_30 : decode cX5_wrongSlot 30 = .ok (.iaload, 1) := by decide +kernel
theorem dX5_wrongSlot_31 : decode cX5_wrongSlot 31 = .ok (.ifCond .ne 7, 3) := by decide +kernel
theorem dX5_wrongSlot_34 : decode cX5_wrongSlot 34 = .ok (.iconst 2, 1) := by decide +kernel
theorem dX5_wrongSlot_35 : decode cX5_wrongSlot 35 = .ok (.goto 4, 3) := by decide +kernel
theorem dX5_wrongSlot_38 : decode cX5_wrongSlot 38 = .ok (.iconst 0, 1) := by decide +kernel
theorem dX5_wrongSlot_39 : decode cX5_wrongSlot 39 = .ok (.ireturn, 1) := by decide +kernel
set_option maxRecDepth 20000 in
theorem ggX5_setBad_X5_wrongSlot : GoodIn wsX5_setBad wsX5_wrongSlot := goodIn_ca (goodIn_r _ [7, 8, 9, 10, 11, 6, 12, 13, 14, 15, 16, 17, 18, 19, 20, 21, 22, 23, 24, 25, 26, 27, 28, 29, 30, 31, 32, 33, 34, 35, 36, 37, 38, 39, 40, 41, 42, 43, 44, 45, 46, 47, 48] (by decide +kernel) (by decide +kernel)) (goodIn_sub (fun _ h => List.mem_cons_of_mem _ (List.mem_append_right _ h)) (by decide +kernel))
set_option maxRecDepth 20000 in
theorem gX5_setBad_X5_wrongSlot : GoodIn wsX5_setBad (wsV RX5 119 RX5 yX5_wrongSlot wsX5_wrongSlot) := goodIn_app (goodIn_of _ (by decide +kernel)) ggX5_setBad_X5_wrongSlot
set_option maxRecDepth 20000 in
theorem ggX5_setBad_X5_at : GoodIn wsX5_setBad wsX5_at := goodIn_r _ [19] (by decide +kernel) (by decide +kernel)
set_option maxRecDepth 20000 in
theorem gX5_setBad_X5_at : GoodIn wsX5_setBad (va_wsS RX5 115 yX5_at wsX5_at) := goodIn_app (goodIn_of _ (by decide +kernel)) ggX5_setBad_X5_at
theorem dX5_setBad_0 : decode cX5_setBad 0 = .ok (.aload_n 0, 1) := by decide +kernel
theorem dX5_setBad_1 : decode cX5_setBad 1 = .ok (.aload_n 0, 1) := by decide +kernel
theorem dX5_setBad_2 : decode cX5_setBad 2 = .ok (.iload_n 1, 1) := by decide +kernel
theorem dX5_setBad_3 : decode cX5_setBad 3 = .ok (.iload_n 2, 1) := by decide +kernel
theorem dX5_setBad_4 : decode cX5_setBad 4 = .ok (.invokevirtual 119, 3) := by decide +kernel
theorem dX5_setBad_7 : decode cX5_setBad 7 = .ok (.putfield 72, 3) := by decide +kernel
theorem dX5_setBad_10 : decode cX5_setBad 10 = .ok (.aload_n 0, 1) := by decide +kernel
theorem dX5_setBad_11 : decode cX5_setBad 11 = .ok (.getfield 72, 3) := by decide +kernel
theorem dX5_setBad_14 : decode cX5_setBad 14 = .ok (.ifCond .le 5, 3) := by decide +kernel
theorem dX5_setBad_17 : decode cX5_setBad 17 = .ok (.iconst 0, 1) := by decide +kernel
theorem dX5_setBad_18 : decode cX5_setBad 18 = .ok (.ireturn, 1) := by decide +kernel
theorem dX5_setBad_19 : decode cX5_setBad 19 = .ok (.aload_n 0, 1) := by decide +kernel
theorem dX5_setBad_20 : decode cX5_setBad 20 = .ok (.getfield 13, 3) := by decide +kernel
theorem dX5_setBad_23 : decode cX5_setBad 23 = .ok (.iload_n 1, 1) := by decide +kernel
theorem dX5_setBad_24 : decode cX5_setBad 24 = .ok (.iload_n 2, 1) := by decide +kernel
theorem dX5_setBad_25 : decode cX5_setBad 25 = .ok (.invokestatic 115, 3) := by decide +kernel
theorem dX5_setBad_28 : decode cX5_setBad 28 = .ok (.baload, 1) := by decide +kernel
theorem dX5_setBad_29 : decode cX5_setBad 29 = .ok (.istore 4, 2) := by decide +kernel
theorem dX5_setBad_31 : decode cX5_setBad 31 = .ok (.aload_n 0, 1) := by decide +kernel
theorem dX5_setBad_32 : decode cX5_setBad 32 = .ok (.getfield 13, 3) := by decide +kernel
theorem dX5_setBad_35 : decode cX5_setBad 35 = .ok (.iload_n 1, 1) := by decide +kernel
theorem dX5_setBad_36 : decode cX5_setBad 36 = .ok (.iload_n 2, 1) := by decide +kernel
theorem dX5_setBad_37 : decode cX5_setBad 37 = .ok (.invokestatic 115, 3) := by decide +kernel
theorem dX5_setBad_40 : decode cX5_setBad 40 = .ok (.iload_n 3, 1) := by decide +kernel
theorem dX5_setBad_41 : decode cX5_setBad 41 = .ok (.bastore, 1) := by decide +kernel
theorem dX5_setBad_42 : decode cX5_setBad 42 = .ok (.iload 4, 2) := by decide +kernel
theorem dX5_setBad_44 : decode cX5_setBad 44 = .ok (.ireturn, 1) := by decide +kernel
set_option maxRecDepth 20000 in
theorem ggX5_version_X5_wrongSlot : GoodIn wsX5_version wsX5_wrongSlot := goodIn_ca (goodIn_r _ [7, 8, 9, 10, 11, 6, 12, 13, 14, 15, 16, 17, 18, 19, 20, 21, 22, 23, 24, 25, 26, 27, 28, 29, 30, 31, 32, 33, 34, 35, 36, 37, 38, 39, 40, 41, 42, 43, 44, 45, 46, 47, 48] (by decide +kernel) (by decide +kernel)) (goodIn_sub (fun _ h => List.mem_cons_of_mem _ (List.mem_append_right _ h)) (by decide +kernel))
set_option maxRecDepth 20000 in
theorem gX5_version_X5_wrongSlot : GoodIn wsX5_version (wsV RX5 119 RX5 yX5_wrongSlot wsX5_wrongSlot) := goodIn_app (goodIn_of _ (by decide +kernel)) ggX5_version_X5_wrongSlot
set_option maxRecDepth 20000 in
theorem ggX5_version_X5_at : GoodIn wsX5_version wsX5_at := goodIn_r _ [19] (by decide +kernel) (by decide +kernel)
set_option maxRecDepth 20000 in
theorem gX5_version_X5_at : GoodIn wsX5_version (va_wsS RX5 115 yX5_at wsX5_at) := goodIn_app (goodIn_of _ (by decide +kernel)) ggX5_version_X5_at
theorem dX5_version_0 : decode cX5_version 0 = .ok (.aload_n 0, 1) := by decide +kernel
theorem dX5_version_1 : decode cX5_version 1 = .ok (.aload_n 0, 1) := by decide +kernel
theorem dX5_version_2 : decode cX5_version 2 = .ok (.iload_n 1, 1) := by decide +kernel
theorem dX5_version_3 : decode cX5_version 3 = .ok (.iload_n 2, 1) := by decide +kernel
theorem dX5_version_4 : decode cX5_version 4 = .ok (.invokevirtual 119, 3) := by decide +kernel
theorem dX5_version_7 : decode cX5_version 7 = .ok (.putfield 72, 3) := by decide +kernel
theorem dX5_version_10 : decode cX5_version 10 = .ok (.aload_n 0, 1) := by decide +kernel
theorem dX5_version_11 : decode cX5_version 11 = .ok (.getfield 72, 3) := by decide +kernel
