theorem dX0_init_0 : decode cX0_init 0 = .ok (.aload_n 0, 1) := by decide +kernel
theorem dX0_init_1 : decode cX0_init 1 = .ok (.invokespecial 3, 3) := by decide +kernel
theorem dX0_init_4 : decode cX0_init 4 = .ok (.aload_n 0, 1) := by decide +kernel
theorem dX0_init_5 : decode cX0_init 5 = .ok (.bipush 20, 2) := by decide +kernel
theorem dX0_init_7 : decode cX0_init 7 = .ok (.newarray .int, 2) := by decide +kernel
theorem dX0_init_9 : decode cX0_init 9 = .ok (.putfield 11, 3) := by decide +kernel
theorem dX0_init_12 : decode cX0_init 12 = .ok (.aload_n 0, 1) := by decide +kernel
theorem dX0_init_13 : decode cX0_init 13 = .ok (.bipush 20, 2) := by decide +kernel
theorem dX0_init_15 : decode cX0_init 15 = .ok (.newarray .int, 2) := by decide +kernel
theorem dX0_init_17 : decode cX0_init 17 = .ok (.putfield 15, 3) := by decide +kernel
theorem dX0_init_20 : decode cX0_init 20 = .ok (.return_, 1) := by decide +kernel
theorem dX0_add_0 : decode cX0_add 0 = .ok (.aload_n 0, 1) := by decide +kernel
theorem dX0_add_1 : decode cX0_add 1 = .ok (.getfield 18, 3) := by decide +kernel
theorem dX0_add_4 : decode cX0_add 4 = .ok (.ifCond .lt 12, 3) := by decide +kernel
theorem dX0_add_7 : decode cX0_add 7 = .ok (.aload_n 0, 1) := by decide +kernel
theorem dX0_add_8 : decode cX0_add 8 = .ok (.getfield 18, 3) := by decide +kernel
theorem dX0_add_11 : decode cX0_add 11 = .ok (.bipush 20, 2) := by decide +kernel
theorem dX0_add_13 : decode cX0_add 13 = .ok (.if_icmp .lt 4, 3) := by decide +kernel
theorem dX0_add_16 : decode cX0_add 16 = .ok (.return_, 1) := by decide +kernel
theorem dX0_add_17 : decode cX0_add 17 = .ok (.aload_n 0, 1) := by decide +kernel
theorem dX0_add_18 : decode cX0_add 18 = .ok (.getfield 11, 3) := by decide +kernel
theorem dX0_add_21 : decode cX0_add 21 = .ok (.aload_n 0, 1) := by decide +kernel
theorem dX0_add_22 : decode cX0_add 22 = .ok (.getfield 18, 3) := by decide +kernel
theorem dX0_add_25 : decode cX0_add 25 = .ok (.iload_n 1, 1) := by decide +kernel
theorem dX0_add_26 : decode cX0_add 26 = .ok (.iastore, 1) := by decide +kernel
theorem dX0_add_27 : decode cX0_add 27 = .ok (.aload_n 0, 1) := by decide +kernel
theorem dX0_add_28 : decode cX0_add 28 = .ok (.getfield 15, 3) := by decide +kernel
theorem dX0_add_31 : decode cX0_add 31 = .ok (.aload_n 0, 1) := by decide +kernel
theorem dX0_add_32 : decode cX0_add 32 = .ok (.getfield 18, 3) := by decide +kernel
theorem dX0_add_35 : decode cX0_add 35 = .ok (.iload_n 2, 1) := by decide +kernel
theorem dX0_add_36 : decode cX0_add 36 = .ok (.iastore, 1) := by decide +kernel
theorem dX0_add_37 : decode cX0_add 37 = .ok (.aload_n 0, 1) := by decide +kernel
theorem dX0_add_38 : decode cX0_add 38 = .ok (.dup, 1) := by decide +kernel
theorem dX0_add_39 : decode cX0_add 39 = .ok (.getfield 18, 3) := by decide +kernel
theorem dX0_add_42 : decode cX0_add 42 = .ok (.iconst 1, 1) := by decide +kernel
theorem dX0_add_43 : decode cX0_add 43 = .ok (.iadd, 1) := by decide +kernel
theorem dX0_add_44 : decode cX0_add 44 = .ok (.putfield 18, 3) := by decide +kernel
theorem dX0_add_47 : decode cX0_add 47 = .ok (.return_, 1) := by decide +kernel
set_option maxRecDepth 20000 in
theorem ggX0_firstWrong_X3_hasSection : GoodIn wsX0_firstWrong wsX3_hasSection := goodIn_r _ [9, 10, 14, 15, 16, 17, 18, 19, 20, 21, 22, 23, 24, 25, 26, 27, 28] (by decide +kernel) (by decide +kernel)
set_option maxRecDepth 20000 in
theorem gX0_firstWrong_X3_hasSection : GoodIn wsX0_firstWrong (wsV RX0 22 RX3 yX3_hasSection wsX3_hasSection) := goodIn_app (goodIn_of _ (by decide +kernel)) ggX0_firstWrong_X3_hasSection
theorem dX0_firstWrong_0 : decode cX0_firstWrong 0 = .ok (.iconst 0, 1) := by decide +kernel
theorem dX0_firstWrong_1 : decode cX0_firstWrong 1 = .ok (.istore_n 2, 1) := by decide +kernel
theorem dX0_firstWrong_2 : decode cX0_firstWrong 2 = .ok (.iload_n 2, 1) := by decide +kernel
theorem dX0_firstWrong_3 : decode cX0_firstWrong 3 = .ok (.aload_n 0, 1) := by decide +kernel
theorem dX0_firstWrong_4 : decode cX0_firstWrong 4 = .ok (.getfield 18, 3) := by decide +kernel
theorem dX0_firstWrong_7 : decode cX0_firstWrong 7 = .ok (.if_icmp .ge 47, 3) := by decide +kernel
theorem dX0_firstWrong_10 : decode cX0_firstWrong 10 = .ok (.iload_n 2, 1) := by decide +kernel
theorem dX0_firstWrong_11 : decode cX0_firstWrong 11 = .ok (.bipush 20, 2) := by decide +kernel
theorem dX0_firstWrong_13 : decode cX0_firstWrong 13 = .ok (.if_icmp .ge 41, 3) := by decide +kernel
theorem dX0_firstWrong_16 : decode cX0_firstWrong 16 = .ok (.aload_n 0, 1) := by decide +kernel
theorem dX0_firstWrong_17 : decode cX0_firstWrong 17 = .ok (.getfield 11, 3) := by decide +kernel
theorem dX0_firstWrong_20 : decode cX0_firstWrong 20 = .ok (.iload_n 2, 1) := by decide +kernel
theorem dX0_firstWrong_21 : decode cX0_firstWrong 21 = .ok (.iaload, 1) := by decide +kernel
theorem dX0_firstWrong_22 : decode cX0_firstWrong 22 = .ok (.istore_n 3, 1) := by decide +kernel
theorem dX0_firstWrong_23 : decode cX0_firstWrong 23 = .ok (.aload_n 1, 1) := by decide +kernel
theorem dX0_firstWrong_24 : decode cX0_firstWrong 24 = .ok (.iload_n 3, 1) := by decide +kernel
theorem dX0_firstWrong_25 : decode cX0_firstWrong 25 = .ok (.invokevirtual 22, 3) := by decide +kernel
theorem dX0_firstWrong_28 : decode cX0_firstWrong 28 = .ok (.ifCond .eq 18, 3) := by decide +kernel
theorem dX0_firstWrong_31 : decode cX0_firstWrong 31 = .ok (.aload_n 1, 1) := by decide +kernel
theorem dX0_firstWrong_32 : decode cX0_firstWrong 32 = .ok (.getfield 28, 3) := by decide +kernel
theorem dX0_firstWrong_35 : decode cX0_firstWrong 35 = .ok (.iload_n 3, 1) := by decide +kernel
theorem dX0_firstWrong_36 : decode cX0_firstWrong 36 = .ok (.iaload, 1) := by decide +kernel
theorem dX0_firstWrong_37 : decode cX0_firstWrong 37 = .ok (.aload_n 0, 1) := by decide +kernel
theorem dX0_firstWrong_38 : decode cX0_firstWrong 38 = .ok (.getfield 15, 3) := by decide +kernel
theorem dX0_firstWrong_41 : decode cX0_firstWrong 41 = .ok (.iload_n 2, 1) := by decide +kernel
theorem dX0_firstWrong_42 : decode cX0_firstWrong 42 = .ok (.iaload, 1) := by decide +kernel
theorem dX0_firstWrong_43 : decode cX0_firstWrong 43 = .ok (.if_icmp .eq 5, 3) := by decide +kernel
theorem dX0_firstWrong_46 : decode cX0_firstWrong 46 = .ok (.iload_n 2, 1) := by decide +kernel
theorem dX0_firstWrong_47 : decode cX0_firstWrong 47 = .ok (.ireturn, 1) := by decide +kernel
theorem dX0_firstWrong_48 : decode cX0_firstWrong 48 = .ok (.iinc 2 1, 3) := by decide +kernel
theorem dX0_firstWrong_51 : decode cX0_firstWrong 51 = .ok (.goto (-49), 3) := by decide +kernel
theorem dX0_firstWrong_54 : decode cX0_firstWrong 54 = .ok (.iconst (-1), 1) := by decide +kernel
theorem dX0_firstWrong_55 : decode cX0_firstWrong 55 = .ok (.ireturn, 1) := by decide +kernel
theorem dX1_init_0 : decode cX1_init 0 = .ok (.aload_n 0, 1) := by decide +kernel
theorem dX1_init_1 : decode cX1_init 1 = .ok (.invokespecial 1, 3) := by decide +kernel
theorem dX1_init_4 : decode cX1_init 4 = .ok (.return_, 1) := by decide +kernel
theorem dX1_next_0 : decode cX1_next 0 = .ok (.aload_n 0, 1) := by decide +kernel
theorem dX1_next_1 : decode cX1_next 1 = .ok (.aload_n 0, 1) := by decide +kernel
theorem dX1_next_2 : decode cX1_next 2 = .ok (.getfield 7, 3) := by decide +kernel
theorem dX1_next_5 : decode cX1_next 5 = .ok (.ldc 13, 2) := by decide +kernel
theorem dX1_next_7 : decode cX1_next 7 = .ok (.imul, 1) := by decide +kernel
theorem dX1_next_8 : decode cX1_next 8 = .ok (.sipush 12345, 3) := by decide +kernel
theorem dX1_next_11 : decode cX1_next 11 = .ok (.iadd, 1) := by decide +kernel
theorem dX1_next_12 : decode cX1_next 12 = .ok (.ldc 14, 2) := by decide +kernel
theorem dX1_next_14 : decode cX1_next 14 = .ok (.iand, 1) := by decide +kernel
theorem dX1_next_15 : decode cX1_next 15 = .ok (.putfield 7, 3) := by decide +kernel
theorem dX1_next_18 : decode cX1_next 18 = .ok (.iload_n 1, 1) := by decide +kernel
theorem dX1_next_19 : decode cX1_next 19 = .ok (.iconst 1, 1) := by decide +kernel
theorem dX1_next_20 : decode cX1_next 20 = .ok (.if_icmp .ge 7, 3) := by decide +kernel
theorem dX1_next_23 : decode cX1_next 23 = .ok (.iconst 0, 1) := by decide +kernel
theorem dX1_next_24 : decode cX1_next 24 = .ok (.goto 12, 3) := by decide +kernel
theorem dX1_next_27 : decode cX1_next 27 = .ok (.aload_n 0, 1) := by decide +kernel
theorem dX1_next_28 : decode cX1_next 28 = .ok (.getfield 7, 3) := by decide +kernel
theorem dX1_next_31 : decode cX1_next 31 = .ok (.ldc 15, 2) := by decide +kernel
theorem dX1_next_33 : decode cX1_next 33 = .ok (.idiv, 1) := by decide +kernel
theorem dX1_next_34 : decode cX1_next 34 = .ok (.iload_n 1, 1) := by decide +kernel
theorem dX1_next_35 : decode cX1_next 35 = .ok (.irem, 1) := by decide +kernel
theorem dX1_next_36 : decode cX1_next 36 = .ok (.ireturn, 1) := by decide +kernel
theorem dX2_init_0 : decode cX2_init 0 = .ok (.aload_n 0, 1) := by decide +kernel
theorem dX2_init_1 : decode cX2_init 1 = .ok (.invokespecial 1, 3) := by decide +kernel
theorem dX2_init_4 : decode cX2_init 4 = .ok (.aload_n 0, 1) := by decide +kernel
theorem dX2_init_5 : decode cX2_init 5 = .ok (.iconst 2, 1) := by decide +kernel
theorem dX2_init_6 : decode cX2_init 6 = .ok (.bipush 83, 2) := by decide +kernel
theorem dX2_init_8 : decode cX2_init 8 = .ok (.multianewarray 11 2, 4) := by decide +kernel
theorem dX2_init_12 : decode cX2_init 12 = .ok (.putfield 13, 3) := by decide +kernel
theorem dX2_init_15 : decode cX2_init 15 = .ok (.aload_n 0, 1) := by decide +kernel
theorem dX2_init_16 : decode cX2_init 16 = .ok (.iconst 2, 1) := by decide +kernel
theorem dX2_init_17 : decode cX2_init 17 = .ok (.newarray .int, 2) := by decide +kernel
theorem dX2_init_19 : decode cX2_init 19 = .ok (.putfield 16, 3) := by decide +kernel
theorem dX2_init_22 : decode cX2_init 22 = .ok (.aload_n 0, 1) := by decide +kernel
theorem dX2_init_23 : decode cX2_init 23 = .ok (.iconst 2, 1) := by decide +kernel
theorem dX2_init_24 : decode cX2_init 24 = .ok (.newarray .boolean, 2) := by decide +kernel
theorem dX2_init_26 : decode cX2_init 26 = .ok (.putfield 20, 3) := by decide +kernel
theorem dX2_init_29 : decode cX2_init 29 = .ok (.return_, 1) := by decide +kernel
theorem dX2_hasPlace_0 : decode cX2_hasPlace 0 = .ok (.iload_n 1, 1) := by decide +kernel
theorem dX2_hasPlace_1 : decode cX2_hasPlace 1 = .ok (.ifCond .lt 12, 3) := by decide +kernel
theorem dX2_hasPlace_4 : decode cX2_hasPlace 4 = .ok (.iload_n 1, 1) := by decide +kernel
theorem dX2_hasPlace_5 : decode cX2_hasPlace 5 = .ok (.iconst 2, 1) := by decide +kernel
theorem dX2_hasPlace_6 : decode cX2_hasPlace 6 = .ok (.if_icmp .ge 7, 3) := by decide +kernel
theorem dX2_hasPlace_9 : decode cX2_hasPlace 9 = .ok (.iconst 1, 1) := by decide +kernel
theorem dX2_hasPlace_10 : decode cX2_hasPlace 10 = .ok (.goto 4, 3) := by decide +kernel
theorem dX2_hasPlace_13 : decode cX2_hasPlace 13 = .ok (.iconst 0, 1) := by decide +kernel
theorem dX2_hasPlace_14 : decode cX2_hasPlace 14 = .ok (.ireturn, 1) := by decide +kernel
set_option maxRecDepth 20000 in
theorem ggX2_take_X3_save : GoodIn wsX2_take wsX3_save := goodIn_r _ [9, 10, 11, 12, 13, 14, 15, 16, 17, 18, 19, 20, 21, 22, 23, 24, 25, 26, 8, 27, 28, 29, 30, 31, 36, 37, 38, 39, 40, 41, 42, 43, 44, 45, 46, 47, 48, 49, 50] (by decide +kernel) (by decide +kernel)
set_option maxRecDepth 20000 in
theorem gX2_take_X3_save : GoodIn wsX2_take (wsV RX2 24 RX3 yX3_save wsX3_save) := goodIn_app (goodIn_of _ (by decide +kernel)) ggX2_take_X3_save
theorem dX2_take_0 : decode cX2_take 0 = .ok (.aload_n 2, 1) := by decide +kernel
theorem dX2_take_1 : decode cX2_take 1 = .ok (.aload_n 0, 1) := by decide +kernel
theorem dX2_take_2 : decode cX2_take 2 = .ok (.getfield 13, 3) := by decide +kernel
theorem dX2_take_5 : decode cX2_take 5 = .ok (.iload_n 1, 1) := by decide +kernel
theorem dX2_take_6 : decode cX2_take 6 = .ok (.aaload, 1) := by decide +kernel
theorem dX2_take_7 : decode cX2_take 7 = .ok (.invokevirtual 24, 3) := by decide +kernel
theorem dX2_take_10 : decode cX2_take 10 = .ok (.aload_n 0, 1) := by decide +kernel
theorem dX2_take_11 : decode cX2_take 11 = .ok (.getfield 16, 3) := by decide +kernel
theorem dX2_take_14 : decode cX2_take 14 = .ok (.iload_n 1, 1) := by decide +kernel
theorem dX2_take_15 : decode cX2_take 15 = .ok (.aload_n 3, 1) := by decide +kernel
theorem dX2_take_16 : decode cX2_take 16 = .ok (.getfield 28, 3) := by decide +kernel
theorem dX2_take_19 : decode cX2_take 19 = .ok (.iastore, 1) := by decide +kernel
theorem dX2_take_20 : decode cX2_take 20 = .ok (.aload_n 0, 1) := by decide +kernel
theorem dX2_take_21 : decode cX2_take 21 = .ok (.getfield 20, 3) := by decide +kernel
theorem dX2_take_24 : decode cX2_take 24 = .ok (.iload_n 1, 1) := by decide +kernel
theorem dX2_take_25 : decode cX2_take 25 = .ok (.iconst 1, 1) := by decide +kernel
theorem dX2_take_26 : decode cX2_take 26 = .ok (.bastore, 1) := by decide +kernel
theorem dX2_take_27 : decode cX2_take 27 = .ok (.return_, 1) := by decide +kernel
set_option maxRecDepth 20000 in
theorem ggX2_giveBack_X3_load : GoodIn wsX2_giveBack wsX3_load := goodIn_r _ [8, 9, 10, 11, 12, 13, 14, 15, 16, 17, 18, 19, 20, 21, 22, 23, 24, 25, 7, 26, 27, 28, 29, 30, 35, 36, 37, 38, 39, 40, 41, 42, 43, 44, 45, 46, 47, 48, 49] (by decide +kernel) (by decide +kernel)
set_option maxRecDepth 20000 in
theorem gX2_giveBack_X3_load : GoodIn wsX2_giveBack (wsV RX2 34 RX3 yX3_load wsX3_load) := goodIn_app (goodIn_of _ (by decide +kernel)) ggX2_giveBack_X3_load
theorem dX2_giveBack_0 : decode cX2_giveBack 0 = .ok (.aload_n 2, 1) := by decide +kernel
theorem dX2_giveBack_1 : decode cX2_giveBack 1 = .ok (.aload_n 0, 1) := by decide +kernel
theorem dX2_giveBack_2 : decode cX2_giveBack 2 = .ok (.getfield 13, 3) := by decide +kernel
theorem dX2_giveBack_5 : decode cX2_giveBack 5 = .ok (.iload_n 1, 1) := by decide +kernel
theorem dX2_giveBack_6 : decode cX2_giveBack 6 = .ok (.aaload, 1) := by decide +kernel
theorem dX2_giveBack_7 : decode cX2_giveBack 7 = .ok (.invokevirtual 34, 3) := by decide +kernel
theorem dX2_giveBack_10 : decode cX2_giveBack 10 = .ok (.aload_n 3, 1) := by decide +kernel
theorem dX2_giveBack_11 : decode cX2_giveBack 11 = .ok (.aload_n 0, 1) := by decide +kernel
theorem dX2_giveBack_12 : decode cX2_giveBack 12 = .ok (.getfield 16, 3) := by decide +kernel
theorem dX2_giveBack_15 : decode cX2_giveBack 15 = .ok (.iload_n 1, 1) := by decide +kernel
theorem dX2_giveBack_16 : decode cX2_giveBack 16 = .ok (.iaload, 1) := by decide +kernel
theorem dX2_giveBack_17 : decode cX2_giveBack 17 = .ok (.putfield 28, 3) := by decide +kernel
theorem dX2_giveBack_20 : decode cX2_giveBack 20 = .ok (.return_, 1) := by decide +kernel
theorem dX3_init_0 : decode cX3_init 0 = .ok (.aload_n 0, 1) := by decide +kernel
theorem dX3_init_1 : decode cX3_init 1 = .ok (.invokespecial 5, 3) := by decide +kernel
theorem dX3_init_4 : decode cX3_init 4 = .ok (.aload_n 0, 1) := by decide +kernel
theorem dX3_init_5 : decode cX3_init 5 = .ok (.bipush 7, 2) := by decide +kernel
theorem dX3_init_7 : decode cX3_init 7 = .ok (.newarray .int, 2) := by decide +kernel
theorem dX3_init_9 : decode cX3_init 9 = .ok (.putfield 11, 3) := by decide +kernel
theorem dX3_init_12 : decode cX3_init 12 = .ok (.aload_n 0, 1) := by decide +kernel
theorem dX3_init_13 : decode cX3_init 13 = .ok (.bipush 7, 2) := by decide +kernel
theorem dX3_init_15 : decode cX3_init 15 = .ok (.newarray .int, 2) := by decide +kernel
theorem dX3_init_17 : decode cX3_init 17 = .ok (.putfield 15, 3) := by decide +kernel
theorem dX3_init_20 : decode cX3_init 20 = .ok (.aload_n 0, 1) := by decide +kernel
theorem dX3_init_21 : decode cX3_init 21 = .ok (.bipush 7, 2) := by decide +kernel
theorem dX3_init_23 : decode cX3_init 23 = .ok (.newarray .int, 2) := by decide +kernel
theorem dX3_init_25 : decode cX3_init 25 = .ok (.putfield 18, 3) := by decide +kernel
theorem dX3_init_28 : decode cX3_init 28 = .ok (.aload_n 0, 1) := by decide +kernel
theorem dX3_init_29 : decode cX3_init 29 = .ok (.bipush 7, 2) := by decide +kernel
theorem dX3_init_31 : decode cX3_init 31 = .ok (.newarray .int, 2) := by decide +kernel
theorem dX3_init_33 : decode cX3_init 33 = .ok (.putfield 21, 3) := by decide +kernel
theorem dX3_init_36 : decode cX3_init 36 = .ok (.aload_n 0, 1) := by decide +kernel
theorem dX3_init_37 : decode cX3_init 37 = .ok (.bipush 7, 2) := by decide +kernel
theorem dX3_init_39 : decode cX3_init 39 = .ok (.newarray .int, 2) := by decide +kernel
theorem dX3_init_41 : decode cX3_init 41 = .ok (.putfield 24, 3) := by decide +kernel
theorem dX3_init_44 : decode cX3_init 44 = .ok (.aload_n 0, 1) := by decide +kernel
theorem dX3_init_45 : decode cX3_init 45 = .ok (.bipush 7, 2) := by decide +kernel
theorem dX3_init_47 : decode cX3_init 47 = .ok (.newarray .int, 2) := by decide +kernel
theorem dX3_init_49 : decode cX3_init 49 = .ok (.putfield 27, 3) := by decide +kernel
theorem dX3_init_52 : decode cX3_init 52 = .ok (.aload_n 0, 1) := by decide +kernel
theorem dX3_init_53 : decode cX3_init 53 = .ok (.bipush 7, 2) := by decide +kernel
theorem dX3_init_55 : decode cX3_init 55 = .ok (.newarray .int, 2) := by decide +kernel
theorem dX3_init_57 : decode cX3_init 57 = .ok (.putfield 30, 3) := by decide +kernel
theorem dX3_init_60 : decode cX3_init 60 = .ok (.aload_n 0, 1) := by decide +kernel
theorem dX3_init_61 : decode cX3_init 61 = .ok (.bipush 7, 2) := by decide +kernel
theorem dX3_init_63 : decode cX3_init 63 = .ok (.newarray .int, 2) := by decide +kernel
theorem dX3_init_65 : decode cX3_init 65 = .ok (.putfield 33, 3) := by decide +kernel
theorem dX3_init_68 : decode cX3_init 68 = .ok (.aload_n 0, 1) := by decide +kernel
theorem dX3_init_69 : decode cX3_init 69 = .ok (.bipush 6, 2) := by decide +kernel
theorem dX3_init_71 : decode cX3_init 71 = .ok (.newarray .int, 2) := by decide +kernel
theorem dX3_init_73 : decode cX3_init 73 = .ok (.putfield 36, 3) := by decide +kernel
theorem dX3_init_76 : decode cX3_init 76 = .ok (.aload_n 0, 1) := by decide +kernel
theorem dX3_init_77 : decode cX3_init 77 = .ok (.bipush 6, 2) := by decide +kernel
theorem dX3_init_79 : decode cX3_init 79 = .ok (.newarray .int, 2) := by decide +kernel
theorem dX3_init_81 : decode cX3_init 81 = .ok (.putfield 39, 3) := by decide +kernel
theorem dX3_init_84 : decode cX3_init 84 = .ok (.aload_n 0, 1) := by decide +kernel
theorem dX3_init_85 : decode cX3_init 85 = .ok (.bipush 6, 2) := by decide +kernel
theorem dX3_init_87 : decode cX3_init 87 = .ok (.newarray .int, 2) := by decide +kernel
theorem dX3_init_89 : decode cX3_init 89 = .ok (.putfield 42, 3) := by decide +kernel
theorem dX3_init_92 : decode cX3_init 92 = .ok (.aload_n 0, 1) := by decide +kernel
theorem dX3_init_93 : decode cX3_init 93 = .ok (.bipush 6, 2) := by decide +kernel
theorem dX3_init_95 : decode cX3_init 95 = .ok (.newarray .int, 2) := by decide +kernel
theorem dX3_init_97 : decode cX3_init 97 = .ok (.putfield 45, 3) := by decide +kernel
theorem dX3_init_100 : decode cX3_init 100 = .ok (.return_, 1) := by decide +kernel
set_option maxRecDepth 20000 in
theorem ggX3_begin_J7_fill_53178 : GoodIn wsX3_begin wsJ7_fill_53178 := goodIn_r _ [19] (by decide +kernel) (by decide +kernel)
set_option maxRecDepth 20000 in
theorem gX3_begin_J7_fill_53178 : GoodIn wsX3_begin (va_wsS RX3 59 yJ7_fill_53178 wsJ7_fill_53178) := goodIn_app (goodIn_of _ (by decide +kernel)) ggX3_begin_J7_fill_53178
theorem dX3_begin_0 : decode cX3_begin 0 = .ok (.aload_n 0, 1) := by decide +kernel
theorem dX3_begin_1 : decode cX3_begin 1 = .ok (.iload_n 1, 1) := by decide +kernel
theorem dX3_begin_2 : decode cX3_begin 2 = .ok (.putfield 48, 3) := by decide +kernel
theorem dX3_begin_5 : decode cX3_begin 5 = .ok (.aload_n 0, 1) := by decide +kernel
theorem dX3_begin_6 : decode cX3_begin 6 = .ok (.iload_n 2, 1) := by decide +kernel
theorem dX3_begin_7 : decode cX3_begin 7 = .ok (.putfield 52, 3) := by decide +kernel
theorem dX3_begin_10 : decode cX3_begin 10 = .ok (.aload_n 0, 1) := by decide +kernel
theorem dX3_begin_11 : decode cX3_begin 11 = .ok (.iconst 0, 1) := by decide +kernel
theorem dX3_begin_12 : decode cX3_begin 12 = .ok (.putfield 56, 3) := by decide +kernel
theorem dX3_begin_15 : decode cX3_begin 15 = .ok (.aload_n 0, 1) := by decide +kernel
theorem dX3_begin_16 : decode cX3_begin 16 = .ok (.getfield 11, 3) := by decide +kernel
theorem dX3_begin_19 : decode cX3_begin 19 = .ok (.iconst 0, 1) := by decide +kernel
theorem dX3_begin_20 : decode cX3_begin 20 = .ok (.invokestatic 59, 3) := by decide +kernel
theorem dX3_begin_23 : decode cX3_begin 23 = .ok (.aload_n 0, 1) := by decide +kernel
theorem dX3_begin_24 : decode cX3_begin 24 = .ok (.getfield 15, 3) := by decide +kernel
theorem dX3_begin_27 : decode cX3_begin 27 = .ok (.iconst 0, 1) := by decide +kernel
theorem dX3_begin_28 : decode cX3_begin 28 = .ok (.invokestatic 59, 3) := by decide +kernel
theorem dX3_begin_31 : decode cX3_begin 31 = .ok (.aload_n 0, 1) := by decide +kernel
theorem dX3_begin_32 : decode cX3_begin 32 = .ok (.getfield 18, 3) := by decide +kernel
theorem dX3_begin_35 : decode cX3_begin 35 = .ok (.iconst 0, 1) := by decide +kernel
theorem dX3_begin_36 : decode cX3_begin 36 = .ok (.invokestatic 59, 3) := by decide +kernel
theorem dX3_begin_39 : decode cX3_begin 39 = .ok (.aload_n 0, 1) := by decide +kernel
theorem dX3_begin_40 : decode cX3_begin 40 = .ok (.getfield 21, 3) := by decide +kernel
theorem dX3_begin_43 : decode cX3_begin 43 = .ok (.iconst 0, 1) := by decide +kernel
theorem dX3_begin_44 : decode cX3_begin 44 = .ok (.invokestatic 59, 3) := by decide +kernel
theorem dX3_begin_47 : decode cX3_begin 47 = .ok (.aload_n 0, 1) := by decide +kernel
theorem dX3_begin_48 : decode cX3_begin 48 = .ok (.getfield 24, 3) := by decide +kernel
theorem dX3_begin_51 : decode cX3_begin 51 = .ok (.iconst 0, 1) := by decide +kernel
theorem dX3_begin_52 : decode cX3_begin 52 = .ok (.invokestatic 59, 3) := by decide +kernel
theorem dX3_begin_55 : decode cX3_begin 55 = .ok (.aload_n 0, 1) := by decide +kernel
theorem dX3_begin_56 : decode cX3_begin 56 = .ok (.getfield 27, 3) := by decide +kernel
theorem dX3_begin_59 : decode cX3_begin 59 = .ok (.iconst 0, 1) := by decide +kernel
theorem dX3_begin_60 : decode cX3_begin 60 = .ok (.invokestatic 59, 3) := by decide +kernel
theorem dX3_begin_63 : decode cX3_begin 63 = .ok (.aload_n 0, 1) := by decide +kernel
theorem dX3_begin_64 : decode cX3_begin 64 = .ok (.getfield 30, 3) := by decide +kernel
theorem dX3_begin_67 : decode cX3_begin 67 = .ok (.iconst 0, 1) := by decide +kernel
theorem dX3_begin_68 : decode cX3_begin 68 = .ok (.invokestatic 59, 3) := by decide +kernel
theorem dX3_begin_71 : decode cX3_begin 71 = .ok (.aload_n 0, 1) := by decide +kernel
theorem dX3_begin_72 : decode cX3_begin 72 = .ok (.getfield 33, 3) := by decide +kernel
theorem dX3_begin_75 : decode cX3_begin 75 = .ok (.iconst 0, 1) := by decide +kernel
theorem dX3_begin_76 : decode cX3_begin 76 = .ok (.invokestatic 59, 3) := by decide +kernel
theorem dX3_begin_79 : decode cX3_begin 79 = .ok (.aload_n 0, 1) := by decide +kernel
theorem dX3_begin_80 : decode cX3_begin 80 = .ok (.getfield 36, 3) := by decide +kernel
theorem dX3_begin_83 : decode cX3_begin 83 = .ok (.iconst 0, 1) := by decide +kernel
theorem dX3_begin_84 : decode cX3_begin 84 = .ok (.invokestatic 59, 3) := by decide +kernel
theorem dX3_begin_87 : decode cX3_begin 87 = .ok (.aload_n 0, 1) := by decide +kernel
theorem dX3_begin_88 : decode cX3_begin 88 = .ok (.getfield 39, 3) := by decide +kernel
theorem dX3_begin_91 : decode cX3_begin 91 = .ok (.iconst 0, 1) := by decide +kernel
theorem dX3_begin_92 : decode cX3_begin 92 = .ok (.invokestatic 59, 3) := by decide +kernel
theorem dX3_begin_95 : decode cX3_begin 95 = .ok (.aload_n 0, 1) := by decide +kernel
theorem dX3_begin_96 : decode cX3_begin 96 = .ok (.getfield 42, 3) := by decide +kernel
theorem dX3_begin_99 : decode cX3_begin 99 = .ok (.iconst 0, 1) := by decide +kernel
theorem dX3_begin_100 : decode cX3_begin 100 = .ok (.invokestatic 59, 3) := by decide +kernel
theorem dX3_begin_103 : decode cX3_begin 103 = .ok (.aload_n 0, 1) := by decide +kernel
theorem dX3_begin_104 : decode cX3_begin 104 = .ok (.getfield 45, 3) := by decide +kernel
theorem dX3_begin_107 : decode cX3_begin 107 = .ok (.iconst 0, 1) := by decide +kernel
theorem dX3_begin_108 : decode cX3_begin 108 = .ok (.invokestatic 59, 3) := by decide +kernel
theorem dX3_begin_111 : decode cX3_begin 111 = .ok (.return_, 1) := by decide +kernel
theorem dX3_heads_0 : decode cX3_heads 0 = .ok (.aload_n 0, 1) := by decide +kernel
theorem dX3_heads_1 : decode cX3_heads 1 = .ok (.getfield 52, 3) := by decide +kernel
theorem dX3_heads_4 : decode cX3_heads 4 = .ok (.ifCond .eq 10, 3) := by decide +kernel
theorem dX3_heads_7 : decode cX3_heads 7 = .ok (.aload_n 0, 1) := by decide +kernel
theorem dX3_heads_8 : decode cX3_heads 8 = .ok (.getfield 48, 3) := by decide +kernel
theorem dX3_heads_11 : decode cX3_heads 11 = .ok (.goto 9, 3) := by decide +kernel
theorem dX3_heads_14 : decode cX3_heads 14 = .ok (.aload_n 0, 1) := by decide +kernel
theorem dX3_heads_15 : decode cX3_heads 15 = .ok (.getfield 48, 3) := by decide +kernel
theorem dX3_heads_18 : decode cX3_heads 18 = .ok (.iconst 1, 1) := by decide +kernel
theorem dX3_heads_19 : decode cX3_heads 19 = .ok (.iadd, 1) := by decide +kernel
theorem dX3_heads_20 : decode cX3_heads 20 = .ok (.ireturn, 1) := by decide +kernel
theorem dX3_hasSection_0 : decode cX3_hasSection 0 = .ok (.iload_n 1, 1) := by decide +kernel
theorem dX3_hasSection_1 : decode cX3_hasSection 1 = .ok (.ifCond .lt 15, 3) := by decide +kernel
theorem dX3_hasSection_4 : decode cX3_hasSection 4 = .ok (.iload_n 1, 1) := by decide +kernel
theorem dX3_hasSection_5 : decode cX3_hasSection 5 = .ok (.aload_n 0, 1) := by decide +kernel
theorem dX3_hasSection_6 : decode cX3_hasSection 6 = .ok (.getfield 48, 3) := by decide +kernel
theorem dX3_hasSection_9 : decode cX3_hasSection 9 = .ok (.if_icmp .ge 7, 3) := by decide +kernel
theorem dX3_hasSection_12 : decode cX3_hasSection 12 = .ok (.iconst 1, 1) := by decide +kernel
theorem dX3_hasSection_13 : decode cX3_hasSection 13 = .ok (.goto 4, 3) := by decide +kernel
theorem dX3_hasSection_16 : decode cX3_hasSection 16 = .ok (.iconst 0, 1) := by decide +kernel
theorem dX3_hasSection_17 : decode cX3_hasSection 17 = .ok (.ireturn, 1) := by decide +kernel
set_option maxRecDepth 20000 in
theorem ggX3_hasHead_X3_heads : GoodIn wsX3_hasHead wsX3_heads := goodIn_r _ [5, 6, 7, 8, 9, 10, 11, 12, 13, 14, 15, 16, 17, 18, 19, 20, 21, 22] (by decide +kernel) (by decide +kernel)
set_option maxRecDepth 20000 in
theorem gX3_hasHead_X3_heads : GoodIn wsX3_hasHead (wsV RX3 65 RX3 yX3_heads wsX3_heads) := goodIn_app (goodIn_of _ (by decide +kernel)) ggX3_hasHead_X3_heads
theorem dX3_hasHead_0 : decode cX3_hasHead 0 = .ok (.iload_n 1, 1) := by decide +kernel
theorem dX3_hasHead_1 : decode cX3_hasHead 1 = .ok (.ifCond .lt 15, 3) := by decide +kernel
theorem dX3_hasHead_4 : decode cX3_hasHead 4 = .ok (.iload_n 1, 1) := by decide +kernel
theorem dX3_hasHead_5 : decode cX3_hasHead 5 = .ok (.aload_n 0, 1) := by decide +kernel
theorem dX3_hasHead_6 : decode cX3_hasHead 6 = .ok (.invokevirtual 65, 3) := by decide +kernel
theorem dX3_hasHead_9 : decode cX3_hasHead 9 = .ok (.if_icmp .ge 7, 3) := by decide +kernel
theorem dX3_hasHead_12 : decode cX3_hasHead 12 = .ok (.iconst 1, 1) := by decide +kernel
theorem dX3_hasHead_13 : decode cX3_hasHead 13 = .ok (.goto 4, 3) := by decide +kernel
theorem dX3_hasHead_16 : decode cX3_hasHead 16 = .ok (.iconst 0, 1) := by decide +kernel
theorem dX3_hasHead_17 : decode cX3_hasHead 17 = .ok (.ireturn, 1) := by decide +kernel
set_option maxRecDepth 20000 in
theorem ggX3_hasHeads_X3_heads : GoodIn wsX3_hasHeads wsX3_heads := goodIn_r _ [5, 6, 7, 8, 9, 10, 11, 12, 13, 14, 15, 16, 17, 18, 19, 20, 21, 22] (by decide +kernel) (by decide +kernel)
set_option maxRecDepth 20000 in
theorem gX3_hasHeads_X3_heads : GoodIn wsX3_hasHeads (wsV RX3 65 RX3 yX3_heads wsX3_heads) := goodIn_app (goodIn_of _ (by decide +kernel)) ggX3_hasHeads_X3_heads
theorem dX3_hasHeads_0 : decode cX3_hasHeads 0 = .ok (.iload_n 1, 1) := by decide +kernel
theorem dX3_hasHeads_1 : decode cX3_hasHeads 1 = .ok (.aload_n 0, 1) := by decide +kernel
theorem dX3_hasHeads_2 : decode cX3_hasHeads 2 = .ok (.invokevirtual 65, 3) := by decide +kernel
theorem dX3_hasHeads_5 : decode cX3_hasHeads 5 = .ok (.iushr, 1) := by decide +kernel
theorem dX3_hasHeads_6 : decode cX3_hasHeads 6 = .ok (.ifCond .ne 7, 3) := by decide +kernel
theorem dX3_hasHeads_9 : decode cX3_hasHeads 9 = .ok (.iconst 1, 1) := by decide +kernel
theorem dX3_hasHeads_10 : decode cX3_hasHeads 10 = .ok (.goto 4, 3) := by decide +kernel
theorem dX3_hasHeads_13 : decode cX3_hasHeads 13 = .ok (.iconst 0, 1) := by decide +kernel
theorem dX3_hasHeads_14 : decode cX3_hasHeads 14 = .ok (.ireturn, 1) := by decide +kernel
theorem dX3_leftOf_0 : decode cX3_leftOf 0 = .ok (.iload_n 1, 1) := by decide +kernel
theorem dX3_leftOf_1 : decode cX3_leftOf 1 = .ok (.ifCond .le 7, 3) := by decide +kernel
theorem dX3_leftOf_4 : decode cX3_leftOf 4 = .ok (.iload_n 1, 1) := by decide +kernel
theorem dX3_leftOf_5 : decode cX3_leftOf 5 = .ok (.iconst 1, 1) := by decide +kernel
theorem dX3_leftOf_6 : decode cX3_leftOf 6 = .ok (.isub, 1) := by decide +kernel
theorem dX3_leftOf_7 : decode cX3_leftOf 7 = .ok (.ireturn, 1) := by decide +kernel
theorem dX3_leftOf_8 : decode cX3_leftOf 8 = .ok (.aload_n 0, 1) := by decide +kernel
theorem dX3_leftOf_9 : decode cX3_leftOf 9 = .ok (.getfield 52, 3) := by decide +kernel
theorem dX3_leftOf_12 : decode cX3_leftOf 12 = .ok (.ifCond .eq 12, 3) := by decide +kernel
theorem dX3_leftOf_15 : decode cX3_leftOf 15 = .ok (.aload_n 0, 1) := by decide +kernel
theorem dX3_leftOf_16 : decode cX3_leftOf 16 = .ok (.getfield 48, 3) := by decide +kernel
theorem dX3_leftOf_19 : decode cX3_leftOf 19 = .ok (.iconst 1, 1) := by decide +kernel
theorem dX3_leftOf_20 : decode cX3_leftOf 20 = .ok (.isub, 1) := by decide +kernel
theorem dX3_leftOf_21 : decode cX3_leftOf 21 = .ok (.goto 4, 3) := by decide +kernel
theorem dX3_leftOf_24 : decode cX3_leftOf 24 = .ok (.iconst (-1), 1) := by decide +kernel
theorem dX3_leftOf_25 : decode cX3_leftOf 25 = .ok (.ireturn, 1) := by decide +kernel
theorem dX3_rightOf_0 : decode cX3_rightOf 0 = .ok (.iload_n 1, 1) := by decide +kernel
theorem dX3_rightOf_1 : decode cX3_rightOf 1 = .ok (.aload_n 0, 1) := by decide +kernel
theorem dX3_rightOf_2 : decode cX3_rightOf 2 = .ok (.getfield 48, 3) := by decide +kernel
theorem dX3_rightOf_5 : decode cX3_rightOf 5 = .ok (.if_icmp .ge 7, 3) := by decide +kernel
theorem dX3_rightOf_8 : decode cX3_rightOf 8 = .ok (.iload_n 1, 1) := by decide +kernel
theorem dX3_rightOf_9 : decode cX3_rightOf 9 = .ok (.goto 4, 3) := by decide +kernel
theorem dX3_rightOf_12 : decode cX3_rightOf 12 = .ok (.iconst (-1), 1) := by decide +kernel
theorem dX3_rightOf_13 : decode cX3_rightOf 13 = .ok (.ireturn, 1) := by decide +kernel
theorem dX3_rightHead_0 : decode cX3_rightHead 0 = .ok (.aload_n 0, 1) := by decide +kernel
theorem dX3_rightHead_1 : decode cX3_rightHead 1 = .ok (.getfield 52, 3) := by decide +kernel
theorem dX3_rightHead_4 : decode cX3_rightHead 4 = .ok (.ifCond .eq 17, 3) := by decide +kernel
theorem dX3_rightHead_7 : decode cX3_rightHead 7 = .ok (.iload_n 1, 1) := by decide +kernel
theorem dX3_rightHead_8 : decode cX3_rightHead 8 = .ok (.iconst 1, 1) := by decide +kernel
theorem dX3_rightHead_9 : decode cX3_rightHead 9 = .ok (.iadd, 1) := by decide +kernel
theorem dX3_rightHead_10 : decode cX3_rightHead 10 = .ok (.aload_n 0, 1) := by decide +kernel
theorem dX3_rightHead_11 : decode cX3_rightHead 11 = .ok (.getfield 48, 3) := by decide +kernel
theorem dX3_rightHead_14 : decode cX3_rightHead 14 = .ok (.if_icmp .ne 7, 3) := by decide +kernel
theorem dX3_rightHead_17 : decode cX3_rightHead 17 = .ok (.iconst 0, 1) := by decide +kernel
theorem dX3_rightHead_18 : decode cX3_rightHead 18 = .ok (.goto 6, 3) := by decide +kernel
theorem dX3_rightHead_21 : decode cX3_rightHead 21 = .ok (.iload_n 1, 1) := by decide +kernel
theorem dX3_rightHead_22 : decode cX3_rightHead 22 = .ok (.iconst 1, 1) := by decide +kernel
theorem dX3_rightHead_23 : decode cX3_rightHead 23 = .ok (.iadd, 1) := by decide +kernel
theorem dX3_rightHead_24 : decode cX3_rightHead 24 = .ok (.ireturn, 1) := by decide +kernel
set_option maxRecDepth 20000 in
theorem ggX3_joins_X3_leftOf : GoodIn wsX3_joins wsX3_leftOf := goodIn_r _ [5, 6, 7, 16, 17, 18, 19, 20, 21, 22, 23, 24, 25, 26, 27, 28, 29, 30] (by decide +kernel) (by decide +kernel)
set_option maxRecDepth 20000 in
theorem gX3_joins_X3_leftOf : GoodIn wsX3_joins (wsV RX3 69 RX3 yX3_leftOf wsX3_leftOf) := goodIn_app (goodIn_of _ (by decide +kernel)) ggX3_joins_X3_leftOf
set_option maxRecDepth 20000 in
theorem ggX3_joins_X3_rightOf : GoodIn wsX3_joins wsX3_rightOf := goodIn_r _ [11, 7, 16, 17, 18, 19, 20, 21, 22, 23, 24, 25, 26, 27, 28, 29, 30] (by decide +kernel) (by decide +kernel)
set_option maxRecDepth 20000 in
theorem gX3_joins_X3_rightOf : GoodIn wsX3_joins (wsV RX3 73 RX3 yX3_rightOf wsX3_rightOf) := goodIn_app (goodIn_of _ (by decide +kernel)) ggX3_joins_X3_rightOf
set_option maxRecDepth 20000 in
theorem ggX3_joins_X3_hasSection : GoodIn wsX3_joins wsX3_hasSection := goodIn_r _ [15, 7, 16, 17, 18, 19, 20, 21, 22, 23, 24, 25, 26, 27, 28, 29, 30] (by decide +kernel) (by decide +kernel)
set_option maxRecDepth 20000 in
theorem gX3_joins_X3_hasSection : GoodIn wsX3_joins (wsV RX3 76 RX3 yX3_hasSection wsX3_hasSection) := goodIn_app (goodIn_of _ (by decide +kernel)) ggX3_joins_X3_hasSection
theorem dX3_joins_0 : decode cX3_joins 0 = .ok (.aload_n 0, 1) := by decide +kernel
theorem dX3_joins_1 : decode cX3_joins 1 = .ok (.iload_n 1, 1) := by decide +kernel
theorem dX3_joins_2 : decode cX3_joins 2 = .ok (.invokevirtual 69, 3) := by decide +kernel
theorem dX3_joins_5 : decode cX3_joins 5 = .ok (.istore_n 2, 1) := by decide +kernel
theorem dX3_joins_6 : decode cX3_joins 6 = .ok (.aload_n 0, 1) := by decide +kernel
theorem dX3_joins_7 : decode cX3_joins 7 = .ok (.iload_n 1, 1) := by decide +kernel
theorem dX3_joins_8 : decode cX3_joins 8 = .ok (.invokevirtual 73, 3) := by decide +kernel
theorem dX3_joins_11 : decode cX3_joins 11 = .ok (.istore_n 3, 1) := by decide +kernel
theorem dX3_joins_12 : decode cX3_joins 12 = .ok (.aload_n 0, 1) := by decide +kernel
theorem dX3_joins_13 : decode cX3_joins 13 = .ok (.iload_n 2, 1) := by decide +kernel
theorem dX3_joins_14 : decode cX3_joins 14 = .ok (.invokevirtual 76, 3) := by decide +kernel
theorem dX3_joins_17 : decode cX3_joins 17 = .ok (.ifCond .eq 20, 3) := by decide +kernel
theorem dX3_joins_20 : decode cX3_joins 20 = .ok (.aload_n 0, 1) := by decide +kernel
theorem dX3_joins_21 : decode cX3_joins 21 = .ok (.iload_n 3, 1) := by decide +kernel
theorem dX3_joins_22 : decode cX3_joins 22 = .ok (.invokevirtual 76, 3) := by decide +kernel
theorem dX3_joins_25 : decode cX3_joins 25 = .ok (.ifCond .eq 12, 3) := by decide +kernel
theorem dX3_joins_28 : decode cX3_joins 28 = .ok (.iload_n 2, 1) := by decide +kernel
theorem dX3_joins_29 : decode cX3_joins 29 = .ok (.iload_n 3, 1) := by decide +kernel
theorem dX3_joins_30 : decode cX3_joins 30 = .ok (.if_icmp .eq 7, 3) := by decide +kernel
theorem dX3_joins_33 : decode cX3_joins 33 = .ok (.iconst 1, 1) := by decide +kernel
theorem dX3_joins_34 : decode cX3_joins 34 = .ok (.goto 4, 3) := by decide +kernel
theorem dX3_joins_37 : decode cX3_joins 37 = .ok (.iconst 0, 1) := by decide +kernel
theorem dX3_joins_38 : decode cX3_joins 38 = .ok (.ireturn, 1) := by decide +kernel
set_option maxRecDepth 20000 in
theorem ggX3_stepTo_X3_countWheel : GoodIn wsX3_stepTo wsX3_countWheel := goodIn_r _ [9, 4, 10, 11, 12, 13, 14, 15, 16, 17, 18, 19, 20, 21, 22, 23, 24, 25] (by decide +kernel) (by decide +kernel)
set_option maxRecDepth 20000 in
theorem gX3_stepTo_X3_countWheel : GoodIn wsX3_stepTo (wsV RX3 83 RX3 yX3_countWheel wsX3_countWheel) := goodIn_app (goodIn_of _ (by decide +kernel)) ggX3_stepTo_X3_countWheel
theorem dX3_stepTo_0 : decode cX3_stepTo 0 = .ok (.getstatic 80, 3) := by decide +kernel
theorem dX3_stepTo_3 : decode cX3_stepTo 3 = .ok (.iload_n 2, 1) := by decide +kernel
theorem dX3_stepTo_4 : decode cX3_stepTo 4 = .ok (.iconst 3, 1) := by decide +kernel
theorem dX3_stepTo_5 : decode cX3_stepTo 5 = .ok (.iand, 1) := by decide +kernel
theorem dX3_stepTo_6 : decode cX3_stepTo 6 = .ok (.iaload, 1) := by decide +kernel
theorem dX3_stepTo_7 : decode cX3_stepTo 7 = .ok (.getstatic 80, 3) := by decide +kernel
theorem dX3_stepTo_10 : decode cX3_stepTo 10 = .ok (.aload_n 0, 1) := by decide +kernel
theorem dX3_stepTo_11 : decode cX3_stepTo 11 = .ok (.getfield 11, 3) := by decide +kernel
theorem dX3_stepTo_14 : decode cX3_stepTo 14 = .ok (.iload_n 1, 1) := by decide +kernel
theorem dX3_stepTo_15 : decode cX3_stepTo 15 = .ok (.iaload, 1) := by decide +kernel
theorem dX3_stepTo_16 : decode cX3_stepTo 16 = .ok (.iconst 3, 1) := by decide +kernel
theorem dX3_stepTo_17 : decode cX3_stepTo 17 = .ok (.iand, 1) := by decide +kernel
theorem dX3_stepTo_18 : decode cX3_stepTo 18 = .ok (.iaload, 1) := by decide +kernel
theorem dX3_stepTo_19 : decode cX3_stepTo 19 = .ok (.isub, 1) := by decide +kernel
theorem dX3_stepTo_20 : decode cX3_stepTo 20 = .ok (.iconst 3, 1) := by decide +kernel
theorem dX3_stepTo_21 : decode cX3_stepTo 21 = .ok (.iand, 1) := by decide +kernel
theorem dX3_stepTo_22 : decode cX3_stepTo 22 = .ok (.istore_n 3, 1) := by decide +kernel
theorem dX3_stepTo_23 : decode cX3_stepTo 23 = .ok (.iload_n 3, 1) := by decide +kernel
theorem dX3_stepTo_24 : decode cX3_stepTo 24 = .ok (.iconst 2, 1) := by decide +kernel
theorem dX3_stepTo_25 : decode cX3_stepTo 25 = .ok (.if_icmp .ne 12, 3) := by decide +kernel
theorem dX3_stepTo_28 : decode cX3_stepTo 28 = .ok (.aload_n 0, 1) := by decide +kernel
theorem dX3_stepTo_29 : decode cX3_stepTo 29 = .ok (.getfield 21, 3) := by decide +kernel
theorem dX3_stepTo_32 : decode cX3_stepTo 32 = .ok (.iload_n 1, 1) := by decide +kernel
theorem dX3_stepTo_33 : decode cX3_stepTo 33 = .ok (.iconst 1, 1) := by decide +kernel
theorem dX3_stepTo_34 : decode cX3_stepTo 34 = .ok (.iastore, 1) := by decide +kernel
theorem dX3_stepTo_35 : decode cX3_stepTo 35 = .ok (.iconst 3, 1) := by decide +kernel
theorem dX3_stepTo_36 : decode cX3_stepTo 36 = .ok (.ireturn, 1) := by decide +kernel
theorem dX3_stepTo_37 : decode cX3_stepTo 37 = .ok (.aload_n 0, 1) := by decide +kernel
theorem dX3_stepTo_38 : decode cX3_stepTo 38 = .ok (.getfield 11, 3) := by decide +kernel
theorem dX3_stepTo_41 : decode cX3_stepTo 41 = .ok (.iload_n 1, 1) := by decide +kernel
theorem dX3_stepTo_42 : decode cX3_stepTo 42 = .ok (.iload_n 2, 1) := by decide +kernel
theorem dX3_stepTo_43 : decode cX3_stepTo 43 = .ok (.iastore, 1) := by decide +kernel
theorem dX3_stepTo_44 : decode cX3_stepTo 44 = .ok (.aload_n 0, 1) := by decide +kernel
theorem dX3_stepTo_45 : decode cX3_stepTo 45 = .ok (.getfield 15, 3) := by decide +kernel
theorem dX3_stepTo_48 : decode cX3_stepTo 48 = .ok (.iload_n 1, 1) := by decide +kernel
theorem dX3_stepTo_49 : decode cX3_stepTo 49 = .ok (.dup2, 1) := by decide +kernel
theorem dX3_stepTo_50 : decode cX3_stepTo 50 = .ok (.iaload, 1) := by decide +kernel
theorem dX3_stepTo_51 : decode cX3_stepTo 51 = .ok (.iload_n 3, 1) := by decide +kernel
theorem dX3_stepTo_52 : decode cX3_stepTo 52 = .ok (.iconst 1, 1) := by decide +kernel
theorem dX3_stepTo_53 : decode cX3_stepTo 53 = .ok (.if_icmp .ne 7, 3) := by decide +kernel
theorem dX3_stepTo_56 : decode cX3_stepTo 56 = .ok (.iconst 1, 1) := by decide +kernel
theorem dX3_stepTo_57 : decode cX3_stepTo 57 = .ok (.goto 4, 3) := by decide +kernel
theorem dX3_stepTo_60 : decode cX3_stepTo 60 = .ok (.iconst (-1), 1) := by decide +kernel
theorem dX3_stepTo_61 : decode cX3_stepTo 61 = .ok (.iadd, 1) := by decide +kernel
theorem dX3_stepTo_62 : decode cX3_stepTo 62 = .ok (.iastore, 1) := by decide +kernel
theorem dX3_stepTo_63 : decode cX3_stepTo 63 = .ok (.aload_n 0, 1) := by decide +kernel
theorem dX3_stepTo_64 : decode cX3_stepTo 64 = .ok (.iload_n 1, 1) := by decide +kernel
theorem dX3_stepTo_65 : decode cX3_stepTo 65 = .ok (.invokevirtual 83, 3) := by decide +kernel
theorem dX3_stepTo_68 : decode cX3_stepTo 68 = .ok (.ireturn, 1) := by decide +kernel
theorem dX3_countWheel_0 : decode cX3_countWheel 0 = .ok (.aload_n 0, 1) := by decide +kernel
theorem dX3_countWheel_1 : decode cX3_countWheel 1 = .ok (.getfield 15, 3) := by decide +kernel
theorem dX3_countWheel_4 : decode cX3_countWheel 4 = .ok (.iload_n 1, 1) := by decide +kernel
theorem dX3_countWheel_5 : decode cX3_countWheel 5 = .ok (.iaload, 1) := by decide +kernel
theorem dX3_countWheel_6 : decode cX3_countWheel 6 = .ok (.iconst 4, 1) := by decide +kernel
theorem dX3_countWheel_7 : decode cX3_countWheel 7 = .ok (.if_icmp .ne 22, 3) := by decide +kernel
theorem dX3_countWheel_10 : decode cX3_countWheel 10 = .ok (.aload_n 0, 1) := by decide +kernel
theorem dX3_countWheel_11 : decode cX3_countWheel 11 = .ok (.getfield 15, 3) := by decide +kernel
theorem dX3_countWheel_14 : decode cX3_countWheel 14 = .ok (.iload_n 1, 1) := by decide +kernel
theorem dX3_countWheel_15 : decode cX3_countWheel 15 = .ok (.iconst 0, 1) := by decide +kernel
theorem dX3_countWheel_16 : decode cX3_countWheel 16 = .ok (.iastore, 1) := by decide +kernel
theorem dX3_countWheel_17 : decode cX3_countWheel 17 = .ok (.aload_n 0, 1) := by decide +kernel
theorem dX3_countWheel_18 : decode cX3_countWheel 18 = .ok (.getfield 18, 3) := by decide +kernel
theorem dX3_countWheel_21 : decode cX3_countWheel 21 = .ok (.iload_n 1, 1) := by decide +kernel
theorem dX3_countWheel_22 : decode cX3_countWheel 22 = .ok (.dup2, 1) := by decide +kernel
theorem dX3_countWheel_23 : decode cX3_countWheel 23 = .ok (.iaload, 1) := by decide +kernel
theorem dX3_countWheel_24 : decode cX3_countWheel 24 = .ok (.iconst 1, 1) := by decide +kernel
theorem dX3_countWheel_25 : decode cX3_countWheel 25 = .ok (.iadd, 1) := by decide +kernel
theorem dX3_countWheel_26 : decode cX3_countWheel 26 = .ok (.iastore, 1) := by decide +kernel
theorem dX3_countWheel_27 : decode cX3_countWheel 27 = .ok (.iconst 1, 1) := by decide +kernel
theorem dX3_countWheel_28 : decode cX3_countWheel 28 = .ok (.ireturn, 1) := by decide +kernel
theorem dX3_countWheel_29 : decode cX3_countWheel 29 = .ok (.aload_n 0, 1) := by decide +kernel
theorem dX3_countWheel_30 : decode cX3_countWheel 30 = .ok (.getfield 15, 3) := by decide +kernel
theorem dX3_countWheel_33 : decode cX3_countWheel 33 = .ok (.iload_n 1, 1) := by decide +kernel
theorem dX3_countWheel_34 : decode cX3_countWheel 34 = .ok (.iaload, 1) := by decide +kernel
theorem dX3_countWheel_35 : decode cX3_countWheel 35 = .ok (.bipush (-4), 2) := by decide +kernel
theorem dX3_countWheel_37 : decode cX3_countWheel 37 = .ok (.if_icmp .ne 22, 3) := by decide +kernel
theorem dX3_countWheel_40 : decode cX3_countWheel 40 = .ok (.aload_n 0, 1) := by decide +kernel
theorem dX3_countWheel_41 : decode cX3_countWheel 41 = .ok (.getfield 15, 3) := by decide +kernel
theorem dX3_countWheel_44 : decode cX3_countWheel 44 = .ok (.iload_n 1, 1) := by decide +kernel
theorem dX3_countWheel_45 : decode cX3_countWheel 45 = .ok (.iconst 0, 1) := by decide +kernel
theorem dX3_countWheel_46 : decode cX3_countWheel 46 = .ok (.iastore, 1) := by decide +kernel
theorem dX3_countWheel_47 : decode cX3_countWheel 47 = .ok (.aload_n 0, 1) := by decide +kernel
theorem dX3_countWheel_48 : decode cX3_countWheel 48 = .ok (.getfield 18, 3) := by decide +kernel
theorem dX3_countWheel_51 : decode cX3_countWheel 51 = .ok (.iload_n 1, 1) := by decide +kernel
theorem dX3_countWheel_52 : decode cX3_countWheel 52 = .ok (.dup2, 1) := by decide +kernel
theorem dX3_countWheel_53 : decode cX3_countWheel 53 = .ok (.iaload, 1) := by decide +kernel
theorem dX3_countWheel_54 : decode cX3_countWheel 54 = .ok (.iconst 1, 1) := by decide +kernel
theorem dX3_countWheel_55 : decode cX3_countWheel 55 = .ok (.isub, 1) := by decide +kernel
theorem dX3_countWheel_56 : decode cX3_countWheel 56 = .ok (.iastore, 1) := by decide +kernel
theorem dX3_countWheel_57 : decode cX3_countWheel 57 = .ok (.iconst 2, 1) := by decide +kernel
theorem dX3_countWheel_58 : decode cX3_countWheel 58 = .ok (.ireturn, 1) := by decide +kernel
theorem dX3_countWheel_59 : decode cX3_countWheel 59 = .ok (.iconst 0, 1) := by decide +kernel
theorem dX3_countWheel_60 : decode cX3_countWheel 60 = .ok (.ireturn, 1) := by decide +kernel
theorem dX3_feelsAll_0 : decode cX3_feelsAll 0 = .ok (.aload_n 0, 1) := by decide +kernel
theorem dX3_feelsAll_1 : decode cX3_feelsAll 1 = .ok (.getfield 21, 3) := by decide +kernel
theorem dX3_feelsAll_4 : decode cX3_feelsAll 4 = .ok (.iload_n 1, 1) := by decide +kernel
theorem dX3_feelsAll_5 : decode cX3_feelsAll 5 = .ok (.iaload, 1) := by decide +kernel
theorem dX3_feelsAll_6 : decode cX3_feelsAll 6 = .ok (.ifCond .ne 16, 3) := by decide +kernel
theorem dX3_feelsAll_9 : decode cX3_feelsAll 9 = .ok (.aload_n 0, 1) := by decide +kernel
theorem dX3_feelsAll_10 : decode cX3_feelsAll 10 = .ok (.getfield 11, 3) := by decide +kernel
theorem dX3_feelsAll_13 : decode cX3_feelsAll 13 = .ok (.iload_n 1, 1) := by decide +kernel
theorem dX3_feelsAll_14 : decode cX3_feelsAll 14 = .ok (.iaload, 1) := by decide +kernel
theorem dX3_feelsAll_15 : decode cX3_feelsAll 15 = .ok (.ifCond .ne 7, 3) := by decide +kernel
theorem dX3_feelsAll_18 : decode cX3_feelsAll 18 = .ok (.iconst 1, 1) := by decide +kernel
theorem dX3_feelsAll_19 : decode cX3_feelsAll 19 = .ok (.goto 4, 3) := by decide +kernel
theorem dX3_feelsAll_22 : decode cX3_feelsAll 22 = .ok (.iconst 0, 1) := by decide +kernel
theorem dX3_feelsAll_23 : decode cX3_feelsAll 23 = .ok (.ireturn, 1) := by decide +kernel
set_option maxRecDepth 20000 in
theorem ggX3_from_X3_leftOf : GoodIn wsX3_from wsX3_leftOf := goodIn_r _ [5, 6, 7, 12, 13, 14, 15, 16, 17, 18, 19, 20, 21, 22, 23, 24, 25, 26] (by decide +kernel) (by decide +kernel)
set_option maxRecDepth 20000 in
theorem gX3_from_X3_leftOf : GoodIn wsX3_from (wsV RX3 69 RX3 yX3_leftOf wsX3_leftOf) := goodIn_app (goodIn_of _ (by decide +kernel)) ggX3_from_X3_leftOf
set_option maxRecDepth 20000 in
theorem ggX3_from_X3_rightOf : GoodIn wsX3_from wsX3_rightOf := goodIn_r _ [11, 7, 12, 13, 14, 15, 16, 17, 18, 19, 20, 21, 22, 23, 24, 25, 26] (by decide +kernel) (by decide +kernel)
set_option maxRecDepth 20000 in
theorem gX3_from_X3_rightOf : GoodIn wsX3_from (wsV RX3 73 RX3 yX3_rightOf wsX3_rightOf) := goodIn_app (goodIn_of _ (by decide +kernel)) ggX3_from_X3_rightOf
theorem dX3_from_0 : decode cX3_from 0 = .ok (.iload_n 2, 1) := by decide +kernel
theorem dX3_from_1 : decode cX3_from 1 = .ok (.ifCond .ne 11, 3) := by decide +kernel
theorem dX3_from_4 : decode cX3_from 4 = .ok (.aload_n 0, 1) := by decide +kernel
theorem dX3_from_5 : decode cX3_from 5 = .ok (.iload_n 1, 1) := by decide +kernel
theorem dX3_from_6 : decode cX3_from 6 = .ok (.invokevirtual 69, 3) := by decide +kernel
theorem dX3_from_9 : decode cX3_from 9 = .ok (.goto 8, 3) := by decide +kernel
theorem dX3_from_12 : decode cX3_from 12 = .ok (.aload_n 0, 1) := by decide +kernel
theorem dX3_from_13 : decode cX3_from 13 = .ok (.iload_n 1, 1) := by decide +kernel
theorem dX3_from_14 : decode cX3_from 14 = .ok (.invokevirtual 73, 3) := by decide +kernel
theorem dX3_from_17 : decode cX3_from 17 = .ok (.ireturn, 1) := by decide +kernel
set_option maxRecDepth 20000 in
theorem ggX3_canCarry_X3_from : GoodIn wsX3_canCarry wsX3_from := goodIn_r _ [6, 7, 8, 9, 5, 10, 11, 12, 13, 14, 15, 16, 21, 22, 23, 24, 25, 26, 27, 28, 29, 30, 31, 32, 33, 34, 35] (by decide +kernel) (by decide +kernel)
set_option maxRecDepth 20000 in
theorem gX3_canCarry_X3_from : GoodIn wsX3_canCarry (wsV RX3 86 RX3 yX3_from wsX3_from) := goodIn_app (goodIn_of _ (by decide +kernel)) ggX3_canCarry_X3_from
set_option maxRecDepth 20000 in
theorem ggX3_canCarry_X3_hasSection : GoodIn wsX3_canCarry wsX3_hasSection := goodIn_r _ [20, 12, 21, 22, 23, 24, 25, 26, 27, 28, 29, 30, 31, 32, 33, 34, 35] (by decide +kernel) (by decide +kernel)
set_option maxRecDepth 20000 in
theorem gX3_canCarry_X3_hasSection : GoodIn wsX3_canCarry (wsV RX3 76 RX3 yX3_hasSection wsX3_hasSection) := goodIn_app (goodIn_of _ (by decide +kernel)) ggX3_canCarry_X3_hasSection
theorem dX3_canCarry_0 : decode cX3_canCarry 0 = .ok (.aload_n 0, 1) := by decide +kernel
theorem dX3_canCarry_1 : decode cX3_canCarry 1 = .ok (.iload_n 1, 1) := by decide +kernel
theorem dX3_canCarry_2 : decode cX3_canCarry 2 = .ok (.iload_n 2, 1) := by decide +kernel
theorem dX3_canCarry_3 : decode cX3_canCarry 3 = .ok (.invokevirtual 86, 3) := by decide +kernel
theorem dX3_canCarry_6 : decode cX3_canCarry 6 = .ok (.istore 4, 2) := by decide +kernel
theorem dX3_canCarry_8 : decode cX3_canCarry 8 = .ok (.aload_n 0, 1) := by decide +kernel
theorem dX3_canCarry_9 : decode cX3_canCarry 9 = .ok (.iload 4, 2) := by decide +kernel
theorem dX3_canCarry_11 : decode cX3_canCarry 11 = .ok (.invokevirtual 76, 3) := by decide +kernel
theorem dX3_canCarry_14 : decode cX3_canCarry 14 = .ok (.ifCond .eq 14, 3) := by decide +kernel
theorem dX3_canCarry_17 : decode cX3_canCarry 17 = .ok (.aload_n 0, 1) := by decide +kernel
theorem dX3_canCarry_18 : decode cX3_canCarry 18 = .ok (.getfield 45, 3) := by decide +kernel
theorem dX3_canCarry_21 : decode cX3_canCarry 21 = .ok (.iload 4, 2) := by decide +kernel
theorem dX3_canCarry_23 : decode cX3_canCarry 23 = .ok (.iaload, 1) := by decide +kernel
theorem dX3_canCarry_24 : decode cX3_canCarry 24 = .ok (.iload_n 3, 1) := by decide +kernel
theorem dX3_canCarry_25 : decode cX3_canCarry 25 = .ok (.if_icmp .lt 7, 3) := by decide +kernel
theorem dX3_canCarry_28 : decode cX3_canCarry 28 = .ok (.iconst 1, 1) := by decide +kernel
theorem dX3_canCarry_29 : decode cX3_canCarry 29 = .ok (.goto 4, 3) := by decide +kernel
theorem dX3_canCarry_32 : decode cX3_canCarry 32 = .ok (.iconst 0, 1) := by decide +kernel
theorem dX3_canCarry_33 : decode cX3_canCarry 33 = .ok (.ireturn, 1) := by decide +kernel
set_option maxRecDepth 20000 in
theorem ggX3_carry_X3_from : GoodIn wsX3_carry wsX3_from := goodIn_r _ [7, 8, 9, 10, 6, 11, 12, 13, 14, 15, 16, 17, 22, 23, 24, 25, 26, 27, 28, 29, 30, 31, 32, 33, 34, 35, 36] (by decide +kernel) (by decide +kernel)
set_option maxRecDepth 20000 in
theorem gX3_carry_X3_from : GoodIn wsX3_carry (wsV RX3 86 RX3 yX3_from wsX3_from) := goodIn_app (goodIn_of _ (by decide +kernel)) ggX3_carry_X3_from
set_option maxRecDepth 20000 in
theorem ggX3_carry_X3_rightOf : GoodIn wsX3_carry wsX3_rightOf := goodIn_r _ [17, 13, 22, 23, 24, 25, 26, 27, 28, 29, 30, 31, 32, 33, 34, 35, 36] (by decide +kernel) (by decide +kernel)
set_option maxRecDepth 20000 in
theorem gX3_carry_X3_rightOf : GoodIn wsX3_carry (wsV RX3 73 RX3 yX3_rightOf wsX3_rightOf) := goodIn_app (goodIn_of _ (by decide +kernel)) ggX3_carry_X3_rightOf
set_option maxRecDepth 20000 in
theorem ggX3_carry_X3_leftOf : GoodIn wsX3_carry wsX3_leftOf := goodIn_r _ [11, 12, 13, 22, 23, 24, 25, 26, 27, 28, 29, 30, 31, 32, 33, 34, 35, 36] (by decide +kernel) (by decide +kernel)
set_option maxRecDepth 20000 in
theorem gX3_carry_X3_leftOf : GoodIn wsX3_carry (wsV RX3 69 RX3 yX3_leftOf wsX3_leftOf) := goodIn_app (goodIn_of _ (by decide +kernel)) ggX3_carry_X3_leftOf
set_option maxRecDepth 20000 in
theorem ggX3_carry_X3_hasSection : GoodIn wsX3_carry wsX3_hasSection := goodIn_r _ [21, 13, 22, 23, 24, 25, 26, 27, 28, 29, 30, 31, 32, 33, 34, 35, 36] (by decide +kernel) (by decide +kernel)
set_option maxRecDepth 20000 in
theorem gX3_carry_X3_hasSection : GoodIn wsX3_carry (wsV RX3 76 RX3 yX3_hasSection wsX3_hasSection) := goodIn_app (goodIn_of _ (by decide +kernel)) ggX3_carry_X3_hasSection
theorem dX3_carry_0 : decode cX3_carry 0 = .ok (.aload_n 0, 1) := by decide +kernel
theorem dX3_carry_1 : decode cX3_carry 1 = .ok (.iload_n 1, 1) := by decide +kernel
theorem dX3_carry_2 : decode cX3_carry 2 = .ok (.iload_n 2, 1) := by decide +kernel
theorem dX3_carry_3 : decode cX3_carry 3 = .ok (.invokevirtual 86, 3) := by decide +kernel
theorem dX3_carry_6 : decode cX3_carry 6 = .ok (.istore 5, 2) := by decide +kernel
theorem dX3_carry_8 : decode cX3_carry 8 = .ok (.iload_n 2, 1) := by decide +kernel
theorem dX3_carry_9 : decode cX3_carry 9 = .ok (.ifCond .ne 11, 3) := by decide +kernel
theorem dX3_carry_12 : decode cX3_carry 12 = .ok (.aload_n 0, 1) := by decide +kernel
theorem dX3_carry_13 : decode cX3_carry 13 = .ok (.iload_n 1, 1) := by decide +kernel
theorem dX3_carry_14 : decode cX3_carry 14 = .ok (.invokevirtual 73, 3) := by decide +kernel
theorem dX3_carry_17 : decode cX3_carry 17 = .ok (.goto 8, 3) := by decide +kernel
theorem dX3_carry_20 : decode cX3_carry 20 = .ok (.aload_n 0, 1) := by decide +kernel
theorem dX3_carry_21 : decode cX3_carry 21 = .ok (.iload_n 1, 1) := by decide +kernel
theorem dX3_carry_22 : decode cX3_carry 22 = .ok (.invokevirtual 69, 3) := by decide +kernel
theorem dX3_carry_25 : decode cX3_carry 25 = .ok (.istore 6, 2) := by decide +kernel
theorem dX3_carry_27 : decode cX3_carry 27 = .ok (.iload 4, 2) := by decide +kernel
theorem dX3_carry_29 : decode cX3_carry 29 = .ok (.ifCond .eq 22, 3) := by decide +kernel
theorem dX3_carry_32 : decode cX3_carry 32 = .ok (.aload_n 0, 1) := by decide +kernel
theorem dX3_carry_33 : decode cX3_carry 33 = .ok (.getfield 18, 3) := by decide +kernel
theorem dX3_carry_36 : decode cX3_carry 36 = .ok (.iload_n 1, 1) := by decide +kernel
theorem dX3_carry_37 : decode cX3_carry 37 = .ok (.dup2, 1) := by decide +kernel
theorem dX3_carry_38 : decode cX3_carry 38 = .ok (.iaload, 1) := by decide +kernel
theorem dX3_carry_39 : decode cX3_carry 39 = .ok (.iload_n 2, 1) := by decide +kernel
theorem dX3_carry_40 : decode cX3_carry 40 = .ok (.ifCond .ne 7, 3) := by decide +kernel
theorem dX3_carry_43 : decode cX3_carry 43 = .ok (.iload_n 3, 1) := by decide +kernel
theorem dX3_carry_44 : decode cX3_carry 44 = .ok (.goto 5, 3) := by decide +kernel
theorem dX3_carry_47 : decode cX3_carry 47 = .ok (.iload_n 3, 1) := by decide +kernel
theorem dX3_carry_48 : decode cX3_carry 48 = .ok (.ineg, 1) := by decide +kernel
theorem dX3_carry_49 : decode cX3_carry 49 = .ok (.iadd, 1) := by decide +kernel
theorem dX3_carry_50 : decode cX3_carry 50 = .ok (.iastore, 1) := by decide +kernel
theorem dX3_carry_51 : decode cX3_carry 51 = .ok (.aload_n 0, 1) := by decide +kernel
theorem dX3_carry_52 : decode cX3_carry 52 = .ok (.iload 5, 2) := by decide +kernel
theorem dX3_carry_54 : decode cX3_carry 54 = .ok (.invokevirtual 76, 3) := by decide +kernel
theorem dX3_carry_57 : decode cX3_carry 57 = .ok (.ifCond .eq 14, 3) := by decide +kernel
theorem dX3_carry_60 : decode cX3_carry 60 = .ok (.aload_n 0, 1) := by decide +kernel
theorem dX3_carry_61 : decode cX3_carry 61 = .ok (.getfield 45, 3) := by decide +kernel
theorem dX3_carry_64 : decode cX3_carry 64 = .ok (.iload 5, 2) := by decide +kernel
theorem dX3_carry_66 : decode cX3_carry 66 = .ok (.dup2, 1) := by decide +kernel
theorem dX3_carry_67 : decode cX3_carry 67 = .ok (.iaload, 1) := by decide +kernel
theorem dX3_carry_68 : decode cX3_carry 68 = .ok (.iload_n 3, 1) := by decide +kernel
theorem dX3_carry_69 : decode cX3_carry 69 = .ok (.isub, 1) := by decide +kernel
theorem dX3_carry_70 : decode cX3_carry 70 = .ok (.iastore, 1) := by decide +kernel
theorem dX3_carry_71 : decode cX3_carry 71 = .ok (.aload_n 0, 1) := by decide +kernel
theorem dX3_carry_72 : decode cX3_carry 72 = .ok (.iload 6, 2) := by decide +kernel
theorem dX3_carry_74 : decode cX3_carry 74 = .ok (.invokevirtual 76, 3) := by decide +kernel
theorem dX3_carry_77 : decode cX3_carry 77 = .ok (.ifCond .ne 5, 3) := by decide +kernel
theorem dX3_carry_80 : decode cX3_carry 80 = .ok (.iconst 0, 1) := by decide +kernel
theorem dX3_carry_81 : decode cX3_carry 81 = .ok (.ireturn, 1) := by decide +kernel
theorem dX3_carry_82 : decode cX3_carry 82 = .ok (.aload_n 0, 1) := by decide +kernel
theorem dX3_carry_83 : decode cX3_carry 83 = .ok (.getfield 45, 3) := by decide +kernel
theorem dX3_carry_86 : decode cX3_carry 86 = .ok (.iload 6, 2) := by decide +kernel
theorem dX3_carry_88 : decode cX3_carry 88 = .ok (.dup2, 1) := by decide +kernel
theorem dX3_carry_89 : decode cX3_carry 89 = .ok (.iaload, 1) := by decide +kernel
theorem dX3_carry_90 : decode cX3_carry 90 = .ok (.iload_n 3, 1) := by decide +kernel
theorem dX3_carry_91 : decode cX3_carry 91 = .ok (.iadd, 1) := by decide +kernel
theorem dX3_carry_92 : decode cX3_carry 92 = .ok (.iastore, 1) := by decide +kernel
theorem dX3_carry_93 : decode cX3_carry 93 = .ok (.aload_n 0, 1) := by decide +kernel
theorem dX3_carry_94 : decode cX3_carry 94 = .ok (.getfield 45, 3) := by decide +kernel
theorem dX3_carry_97 : decode cX3_carry 97 = .ok (.iload 6, 2) := by decide +kernel
theorem dX3_carry_99 : decode cX3_carry 99 = .ok (.iaload, 1) := by decide +kernel
theorem dX3_carry_100 : decode cX3_carry 100 = .ok (.ireturn, 1) := by decide +kernel
theorem dX3_mend_0 : decode cX3_mend 0 = .ok (.aload_n 0, 1) := by decide +kernel
theorem dX3_mend_1 : decode cX3_mend 1 = .ok (.getfield 21, 3) := by decide +kernel
theorem dX3_mend_4 : decode cX3_mend 4 = .ok (.iload_n 1, 1) := by decide +kernel
theorem dX3_mend_5 : decode cX3_mend 5 = .ok (.iconst 0, 1) := by decide +kernel
theorem dX3_mend_6 : decode cX3_mend 6 = .ok (.iastore, 1) := by decide +kernel
theorem dX3_mend_7 : decode cX3_mend 7 = .ok (.aload_n 0, 1) := by decide +kernel
theorem dX3_mend_8 : decode cX3_mend 8 = .ok (.getfield 11, 3) := by decide +kernel
theorem dX3_mend_11 : decode cX3_mend 11 = .ok (.iload_n 1, 1) := by decide +kernel
theorem dX3_mend_12 : decode cX3_mend 12 = .ok (.iconst 0, 1) := by decide +kernel
theorem dX3_mend_13 : decode cX3_mend 13 = .ok (.iastore, 1) := by decide +kernel
theorem dX3_mend_14 : decode cX3_mend 14 = .ok (.aload_n 0, 1) := by decide +kernel
theorem dX3_mend_15 : decode cX3_mend 15 = .ok (.getfield 15, 3) := by decide +kernel
theorem dX3_mend_18 : decode cX3_mend 18 = .ok (.iload_n 1, 1) := by decide +kernel
theorem dX3_mend_19 : decode cX3_mend 19 = .ok (.iconst 0, 1) := by decide +kernel
theorem dX3_mend_20 : decode cX3_mend 20 = .ok (.iastore, 1) := by decide +kernel
theorem dX3_mend_21 : decode cX3_mend 21 = .ok (.return_, 1) := by decide +kernel
set_option maxRecDepth 20000 in
theorem ggX3_pass_X3_hear : GoodIn wsX3_pass wsX3_hear := goodIn_r _ [7, 8, 9, 10, 11, 6, 12, 13, 1, 14, 15, 16, 17, 18, 19, 20, 21, 22, 23, 24, 25, 26, 27, 28, 29, 30, 31, 32, 33, 34, 35, 36, 37, 38, 86, 87, 88, 89, 90, 91, 92, 93, 94, 95, 96, 97, 98, 99, 100] (by decide +kernel) (by decide +kernel)
set_option maxRecDepth 20000 in
theorem gX3_pass_X3_hear : GoodIn wsX3_pass (wsV RX3 90 RX3 yX3_hear wsX3_hear) := goodIn_app (goodIn_of _ (by decide +kernel)) ggX3_pass_X3_hear
set_option maxRecDepth 20000 in
theorem ggX3_pass_X3_judge : GoodIn wsX3_pass wsX3_judge := goodIn_r _ [42, 43, 30, 44, 45, 46, 6, 47, 48, 49, 50, 51, 52, 53, 54, 55, 20, 8, 56, 57, 58, 59, 13, 1, 60, 61, 62, 63, 64, 86, 87, 88, 89, 90, 91, 92, 93, 94, 95, 96, 97, 98, 99, 100] (by decide +kernel) (by decide +kernel)
set_option maxRecDepth 20000 in
theorem gX3_pass_X3_judge : GoodIn wsX3_pass (wsV RX3 94 RX3 yX3_judge wsX3_judge) := goodIn_app (goodIn_of _ (by decide +kernel)) ggX3_pass_X3_judge
set_option maxRecDepth 20000 in
theorem ggX3_pass_X3_heads : GoodIn wsX3_pass wsX3_heads := goodIn_r _ [12, 13, 1, 86, 87, 88, 89, 90, 91, 92, 93, 94, 95, 96, 97, 98, 99, 100] (by decide +kernel) (by decide +kernel)
set_option maxRecDepth 20000 in
theorem gX3_pass_X3_heads : GoodIn wsX3_pass (wsV RX3 65 RX3 yX3_heads wsX3_heads) := goodIn_app (goodIn_of _ (by decide +kernel)) ggX3_pass_X3_heads
set_option maxRecDepth 20000 in
theorem ggX3_pass_X3_joins : GoodIn wsX3_pass wsX3_joins := goodIn_r _ [68, 35, 36, 37, 6, 38, 13, 1, 22, 23, 24, 25, 31, 32, 33, 34, 86, 87, 88, 89, 90, 91, 92, 93, 94, 95, 96, 97, 98, 99, 100] (by decide +kernel) (by decide +kernel)
set_option maxRecDepth 20000 in
theorem gX3_pass_X3_joins : GoodIn wsX3_pass (wsV RX3 97 RX3 yX3_joins wsX3_joins) := goodIn_app (goodIn_of _ (by decide +kernel)) ggX3_pass_X3_joins
set_option maxRecDepth 20000 in
theorem ggX3_pass_X3_leftOf : GoodIn wsX3_pass wsX3_leftOf := goodIn_r _ [38, 13, 1, 86, 87, 88, 89, 90, 91, 92, 93, 94, 95, 96, 97, 98, 99, 100] (by decide +kernel) (by decide +kernel)
set_option maxRecDepth 20000 in
theorem gX3_pass_X3_leftOf : GoodIn wsX3_pass (wsV RX3 69 RX3 yX3_leftOf wsX3_leftOf) := goodIn_app (goodIn_of _ (by decide +kernel)) ggX3_pass_X3_leftOf
set_option maxRecDepth 20000 in
theorem ggX3_pass_X3_rightOf : GoodIn wsX3_pass wsX3_rightOf := goodIn_r _ [25, 1, 86, 87, 88, 89, 90, 91, 92, 93, 94, 95, 96, 97, 98, 99, 100] (by decide +kernel) (by decide +kernel)
set_option maxRecDepth 20000 in
theorem gX3_pass_X3_rightOf : GoodIn wsX3_pass (wsV RX3 73 RX3 yX3_rightOf wsX3_rightOf) := goodIn_app (goodIn_of _ (by decide +kernel)) ggX3_pass_X3_rightOf
set_option maxRecDepth 20000 in
theorem ggX3_pass_X3_judgeJoint : GoodIn wsX3_pass wsX3_judgeJoint := goodIn_r _ [72, 43, 73, 74, 75, 76, 6, 77, 30, 35, 36, 37, 38, 13, 1, 22, 23, 24, 25, 31, 32, 33, 34, 78, 79, 80, 81, 48, 49, 50, 51, 52, 53, 54, 55, 20, 8, 56, 57, 58, 59, 82, 83, 84, 85, 86, 87, 88, 89, 90, 91, 92, 93, 94, 95, 96, 97, 98, 99, 100] (by decide +kernel) (by decide +kernel)
set_option maxRecDepth 20000 in
theorem gX3_pass_X3_judgeJoint : GoodIn wsX3_pass (wsV RX3 100 RX3 yX3_judgeJoint wsX3_judgeJoint) := goodIn_app (goodIn_of _ (by decide +kernel)) ggX3_pass_X3_judgeJoint
theorem dX3_pass_0 : decode cX3_pass 0 = .ok (.aload_n 0, 1) := by decide +kernel
theorem dX3_pass_1 : decode cX3_pass 1 = .ok (.iload_n 1, 1) := by decide +kernel
theorem dX3_pass_2 : decode cX3_pass 2 = .ok (.invokevirtual 90, 3) := by decide +kernel
theorem dX3_pass_5 : decode cX3_pass 5 = .ok (.iconst 0, 1) := by decide +kernel
theorem dX3_pass_6 : decode cX3_pass 6 = .ok (.istore_n 2, 1) := by decide +kernel
theorem dX3_pass_7 : decode cX3_pass 7 = .ok (.iload_n 2, 1) := by decide +kernel
theorem dX3_pass_8 : decode cX3_pass 8 = .ok (.aload_n 0, 1) := by decide +kernel
theorem dX3_pass_9 : decode cX3_pass 9 = .ok (.getfield 48, 3) := by decide +kernel
theorem dX3_pass_12 : decode cX3_pass 12 = .ok (.if_icmp .ge 14, 3) := by decide +kernel
theorem dX3_pass_15 : decode cX3_pass 15 = .ok (.aload_n 0, 1) := by decide +kernel
theorem dX3_pass_16 : decode cX3_pass 16 = .ok (.iload_n 2, 1) := by decide +kernel
theorem dX3_pass_17 : decode cX3_pass 17 = .ok (.invokevirtual 94, 3) := by decide +kernel
theorem dX3_pass_20 : decode cX3_pass 20 = .ok (.iinc 2 1, 3) := by decide +kernel
theorem dX3_pass_23 : decode cX3_pass 23 = .ok (.goto (-16), 3) := by decide +kernel
theorem dX3_pass_26 : decode cX3_pass 26 = .ok (.iconst 0, 1) := by decide +kernel
theorem dX3_pass_27 : decode cX3_pass 27 = .ok (.istore_n 2, 1) := by decide +kernel
theorem dX3_pass_28 : decode cX3_pass 28 = .ok (.iload_n 2, 1) := by decide +kernel
theorem dX3_pass_29 : decode cX3_pass 29 = .ok (.aload_n 0, 1) := by decide +kernel
theorem dX3_pass_30 : decode cX3_pass 30 = .ok (.invokevirtual 65, 3) := by decide +kernel
theorem dX3_pass_33 : decode cX3_pass 33 = .ok (.if_icmp .ge 32, 3) := by decide +kernel
theorem dX3_pass_36 : decode cX3_pass 36 = .ok (.aload_n 0, 1) := by decide +kernel
theorem dX3_pass_37 : decode cX3_pass 37 = .ok (.iload_n 2, 1) := by decide +kernel
theorem dX3_pass_38 : decode cX3_pass 38 = .ok (.invokevirtual 97, 3) := by decide +kernel
theorem dX3_pass_41 : decode cX3_pass 41 = .ok (.ifCond .eq 18, 3) := by decide +kernel
theorem dX3_pass_44 : decode cX3_pass 44 = .ok (.aload_n 0, 1) := by decide +kernel
theorem dX3_pass_45 : decode cX3_pass 45 = .ok (.iload_n 2, 1) := by decide +kernel
theorem dX3_pass_46 : decode cX3_pass 46 = .ok (.aload_n 0, 1) := by decide +kernel
theorem dX3_pass_47 : decode cX3_pass 47 = .ok (.iload_n 2, 1) := by decide +kernel
theorem dX3_pass_48 : decode cX3_pass 48 = .ok (.invokevirtual 69, 3) := by decide +kernel
theorem dX3_pass_51 : decode cX3_pass 51 = .ok (.aload_n 0, 1) := by decide +kernel
theorem dX3_pass_52 : decode cX3_pass 52 = .ok (.iload_n 2, 1) := by decide +kernel
theorem dX3_pass_53 : decode cX3_pass 53 = .ok (.invokevirtual 73, 3) := by decide +kernel
theorem dX3_pass_56 : decode cX3_pass 56 = .ok (.invokevirtual 100, 3) := by decide +kernel
theorem dX3_pass_59 : decode cX3_pass 59 = .ok (.iinc 2 1, 3) := by decide +kernel
theorem dX3_pass_62 : decode cX3_pass 62 = .ok (.goto (-34), 3) := by decide +kernel
theorem dX3_pass_65 : decode cX3_pass 65 = .ok (.aload_n 0, 1) := by decide +kernel
theorem dX3_pass_66 : decode cX3_pass 66 = .ok (.getfield 56, 3) := by decide +kernel
theorem dX3_pass_69 : decode cX3_pass 69 = .ok (.sipush 9999, 3) := by decide +kernel
theorem dX3_pass_72 : decode cX3_pass 72 = .ok (.if_icmp .ge 13, 3) := by decide +kernel
theorem dX3_pass_75 : decode cX3_pass 75 = .ok (.aload_n 0, 1) := by decide +kernel
theorem dX3_pass_76 : decode cX3_pass 76 = .ok (.dup, 1) := by decide +kernel
theorem dX3_pass_77 : decode cX3_pass 77 = .ok (.getfield 56, 3) := by decide +kernel
theorem dX3_pass_80 : decode cX3_pass 80 = .ok (.iconst 1, 1) := by decide +kernel
theorem dX3_pass_81 : decode cX3_pass 81 = .ok (.iadd, 1) := by decide +kernel
theorem dX3_pass_82 : decode cX3_pass 82 = .ok (.putfield 56, 3) := by decide +kernel
theorem dX3_pass_85 : decode cX3_pass 85 = .ok (.return_, 1) := by decide +kernel
set_option maxRecDepth 20000 in
theorem ggX3_hear_X3_heads : GoodIn wsX3_hear wsX3_heads := goodIn_r _ [6, 7, 8, 34, 35, 36, 37, 38, 39, 40, 41, 42, 43, 44, 45, 46, 47, 48] (by decide +kernel) (by decide +kernel)
set_option maxRecDepth 20000 in
theorem gX3_hear_X3_heads : GoodIn wsX3_hear (wsV RX3 65 RX3 yX3_heads wsX3_heads) := goodIn_app (goodIn_of _ (by decide +kernel)) ggX3_hear_X3_heads
set_option maxRecDepth 20000 in
theorem ggX3_hear_X3_receive : GoodIn wsX3_hear wsX3_receive := goodIn_r _ [12, 13, 14, 15, 16, 1, 17, 18, 19, 5, 20, 8, 21, 22, 23, 24, 25, 26, 27, 28, 29, 30, 31, 32, 33, 7, 34, 35, 36, 37, 38, 39, 40, 41, 42, 43, 44, 45, 46, 47, 48] (by decide +kernel) (by decide +kernel)
set_option maxRecDepth 20000 in
theorem gX3_hear_X3_receive : GoodIn wsX3_hear (wsV RX3 104 RX3 yX3_receive wsX3_receive) := goodIn_app (goodIn_of _ (by decide +kernel)) ggX3_hear_X3_receive
theorem dX3_hear_0 : decode cX3_hear 0 = .ok (.iconst 0, 1) := by decide +kernel
theorem dX3_hear_1 : decode cX3_hear 1 = .ok (.istore_n 2, 1) := by decide +kernel
theorem dX3_hear_2 : decode cX3_hear 2 = .ok (.iload_n 2, 1) := by decide +kernel
theorem dX3_hear_3 : decode cX3_hear 3 = .ok (.aload_n 0, 1) := by decide +kernel
theorem dX3_hear_4 : decode cX3_hear 4 = .ok (.invokevirtual 65, 3) := by decide +kernel
theorem dX3_hear_7 : decode cX3_hear 7 = .ok (.if_icmp .ge 46, 3) := by decide +kernel
theorem dX3_hear_10 : decode cX3_hear 10 = .ok (.iload_n 1, 1) := by decide +kernel
theorem dX3_hear_11 : decode cX3_hear 11 = .ok (.iload_n 2, 1) := by decide +kernel
theorem dX3_hear_12 : decode cX3_hear 12 = .ok (.ishr, 1) := by decide +kernel
theorem dX3_hear_13 : decode cX3_hear 13 = .ok (.iconst 1, 1) := by decide +kernel
theorem dX3_hear_14 : decode cX3_hear 14 = .ok (.iand, 1) := by decide +kernel
theorem dX3_hear_15 : decode cX3_hear 15 = .ok (.ifCond .ne 11, 3) := by decide +kernel
theorem dX3_hear_18 : decode cX3_hear 18 = .ok (.aload_n 0, 1) := by decide +kernel
theorem dX3_hear_19 : decode cX3_hear 19 = .ok (.iload_n 2, 1) := by decide +kernel
theorem dX3_hear_20 : decode cX3_hear 20 = .ok (.invokevirtual 104, 3) := by decide +kernel
theorem dX3_hear_23 : decode cX3_hear 23 = .ok (.goto 24, 3) := by decide +kernel
theorem dX3_hear_26 : decode cX3_hear 26 = .ok (.aload_n 0, 1) := by decide +kernel
theorem dX3_hear_27 : decode cX3_hear 27 = .ok (.getfield 30, 3) := by decide +kernel
theorem dX3_hear_30 : decode cX3_hear 30 = .ok (.iload_n 2, 1) := by decide +kernel
theorem dX3_hear_31 : decode cX3_hear 31 = .ok (.iaload, 1) := by decide +kernel
theorem dX3_hear_32 : decode cX3_hear 32 = .ok (.bipush 99, 2) := by decide +kernel
theorem dX3_hear_34 : decode cX3_hear 34 = .ok (.if_icmp .ge 13, 3) := by decide +kernel
theorem dX3_hear_37 : decode cX3_hear 37 = .ok (.aload_n 0, 1) := by decide +kernel
theorem dX3_hear_38 : decode cX3_hear 38 = .ok (.getfield 30, 3) := by decide +kernel
theorem dX3_hear_41 : decode cX3_hear 41 = .ok (.iload_n 2, 1) := by decide +kernel
theorem dX3_hear_42 : decode cX3_hear 42 = .ok (.dup2, 1) := by decide +kernel
theorem dX3_hear_43 : decode cX3_hear 43 = .ok (.iaload, 1) := by decide +kernel
theorem dX3_hear_44 : decode cX3_hear 44 = .ok (.iconst 1, 1) := by decide +kernel
theorem dX3_hear_45 : decode cX3_hear 45 = .ok (.iadd, 1) := by decide +kernel
theorem dX3_hear_46 : decode cX3_hear 46 = .ok (.iastore, 1) := by decide +kernel
theorem dX3_hear_47 : decode cX3_hear 47 = .ok (.iinc 2 1, 3) := by decide +kernel
theorem dX3_hear_50 : decode cX3_hear 50 = .ok (.goto (-48), 3) := by decide +kernel
theorem dX3_hear_53 : decode cX3_hear 53 = .ok (.return_, 1) := by decide +kernel
set_option maxRecDepth 20000 in
theorem ggX3_receive_X3_rightOf : GoodIn wsX3_receive wsX3_rightOf := goodIn_r _ [10, 11, 26, 27, 28, 29, 30, 31, 32, 33, 34, 35, 36, 37, 38, 39, 40] (by decide +kernel) (by decide +kernel)
set_option maxRecDepth 20000 in
theorem gX3_receive_X3_rightOf : GoodIn wsX3_receive (wsV RX3 73 RX3 yX3_rightOf wsX3_rightOf) := goodIn_app (goodIn_of _ (by decide +kernel)) ggX3_receive_X3_rightOf
set_option maxRecDepth 20000 in
theorem ggX3_receive_X3_addToSum : GoodIn wsX3_receive wsX3_addToSum := goodIn_r _ [15, 16, 17, 18, 19, 9, 20, 11, 26, 27, 28, 29, 30, 31, 32, 33, 34, 35, 36, 37, 38, 39, 40] (by decide +kernel) (by decide +kernel)
set_option maxRecDepth 20000 in
theorem gX3_receive_X3_addToSum : GoodIn wsX3_receive (wsV RX3 107 RX3 yX3_addToSum wsX3_addToSum) := goodIn_app (goodIn_of _ (by decide +kernel)) ggX3_receive_X3_addToSum
set_option maxRecDepth 20000 in
theorem ggX3_receive_X3_leftOf : GoodIn wsX3_receive wsX3_leftOf := goodIn_r _ [24, 25, 11, 26, 27, 28, 29, 30, 31, 32, 33, 34, 35, 36, 37, 38, 39, 40] (by decide +kernel) (by decide +kernel)
set_option maxRecDepth 20000 in
theorem gX3_receive_X3_leftOf : GoodIn wsX3_receive (wsV RX3 69 RX3 yX3_leftOf wsX3_leftOf) := goodIn_app (goodIn_of _ (by decide +kernel)) ggX3_receive_X3_leftOf
theorem dX3_receive_0 : decode cX3_receive 0 = .ok (.aload_n 0, 1) := by decide +kernel
theorem dX3_receive_1 : decode cX3_receive 1 = .ok (.getfield 18, 3) := by decide +kernel
theorem dX3_receive_4 : decode cX3_receive 4 = .ok (.iload_n 1, 1) := by decide +kernel
theorem dX3_receive_5 : decode cX3_receive 5 = .ok (.iaload, 1) := by decide +kernel
theorem dX3_receive_6 : decode cX3_receive 6 = .ok (.bipush 15, 2) := by decide +kernel
theorem dX3_receive_8 : decode cX3_receive 8 = .ok (.iand, 1) := by decide +kernel
theorem dX3_receive_9 : decode cX3_receive 9 = .ok (.istore_n 2, 1) := by decide +kernel
theorem dX3_receive_10 : decode cX3_receive 10 = .ok (.iload_n 2, 1) := by decide +kernel
theorem dX3_receive_11 : decode cX3_receive 11 = .ok (.aload_n 0, 1) := by decide +kernel
theorem dX3_receive_12 : decode cX3_receive 12 = .ok (.getfield 24, 3) := by decide +kernel
theorem dX3_receive_15 : decode cX3_receive 15 = .ok (.iload_n 1, 1) := by decide +kernel
theorem dX3_receive_16 : decode cX3_receive 16 = .ok (.iaload, 1) := by decide +kernel
theorem dX3_receive_17 : decode cX3_receive 17 = .ok (.isub, 1) := by decide +kernel
theorem dX3_receive_18 : decode cX3_receive 18 = .ok (.bipush 15, 2) := by decide +kernel
theorem dX3_receive_20 : decode cX3_receive 20 = .ok (.iand, 1) := by decide +kernel
theorem dX3_receive_21 : decode cX3_receive 21 = .ok (.istore_n 3, 1) := by decide +kernel
theorem dX3_receive_22 : decode cX3_receive 22 = .ok (.iload_n 3, 1) := by decide +kernel
theorem dX3_receive_23 : decode cX3_receive 23 = .ok (.bipush 8, 2) := by decide +kernel
theorem dX3_receive_25 : decode cX3_receive 25 = .ok (.if_icmp .le 6, 3) := by decide +kernel
theorem dX3_receive_28 : decode cX3_receive 28 = .ok (.iinc 3 (-16), 3) := by decide +kernel
theorem dX3_receive_31 : decode cX3_receive 31 = .ok (.aload_n 0, 1) := by decide +kernel
theorem dX3_receive_32 : decode cX3_receive 32 = .ok (.aload_n 0, 1) := by decide +kernel
theorem dX3_receive_33 : decode cX3_receive 33 = .ok (.iload_n 1, 1) := by decide +kernel
theorem dX3_receive_34 : decode cX3_receive 34 = .ok (.invokevirtual 73, 3) := by decide +kernel
theorem dX3_receive_37 : decode cX3_receive 37 = .ok (.iload_n 3, 1) := by decide +kernel
theorem dX3_receive_38 : decode cX3_receive 38 = .ok (.invokevirtual 107, 3) := by decide +kernel
theorem dX3_receive_41 : decode cX3_receive 41 = .ok (.aload_n 0, 1) := by decide +kernel
theorem dX3_receive_42 : decode cX3_receive 42 = .ok (.aload_n 0, 1) := by decide +kernel
theorem dX3_receive_43 : decode cX3_receive 43 = .ok (.iload_n 1, 1) := by decide +kernel
theorem dX3_receive_44 : decode cX3_receive 44 = .ok (.invokevirtual 69, 3) := by decide +kernel
theorem dX3_receive_47 : decode cX3_receive 47 = .ok (.iload_n 3, 1) := by decide +kernel
theorem dX3_receive_48 : decode cX3_receive 48 = .ok (.ineg, 1) := by decide +kernel
theorem dX3_receive_49 : decode cX3_receive 49 = .ok (.invokevirtual 107, 3) := by decide +kernel
theorem dX3_receive_52 : decode cX3_receive 52 = .ok (.aload_n 0, 1) := by decide +kernel
theorem dX3_receive_53 : decode cX3_receive 53 = .ok (.getfield 24, 3) := by decide +kernel
theorem dX3_receive_56 : decode cX3_receive 56 = .ok (.iload_n 1, 1) := by decide +kernel
theorem dX3_receive_57 : decode cX3_receive 57 = .ok (.iload_n 2, 1) := by decide +kernel
theorem dX3_receive_58 : decode cX3_receive 58 = .ok (.iastore, 1) := by decide +kernel
theorem dX3_receive_59 : decode cX3_receive 59 = .ok (.aload_n 0, 1) := by decide +kernel
theorem dX3_receive_60 : decode cX3_receive 60 = .ok (.getfield 27, 3) := by decide +kernel
theorem dX3_receive_63 : decode cX3_receive 63 = .ok (.iload_n 1, 1) := by decide +kernel
theorem dX3_receive_64 : decode cX3_receive 64 = .ok (.aload_n 0, 1) := by decide +kernel
theorem dX3_receive_65 : decode cX3_receive 65 = .ok (.getfield 21, 3) := by decide +kernel
theorem dX3_receive_68 : decode cX3_receive 68 = .ok (.iload_n 1, 1) := by decide +kernel
theorem dX3_receive_69 : decode cX3_receive 69 = .ok (.iaload, 1) := by decide +kernel
theorem dX3_receive_70 : decode cX3_receive 70 = .ok (.iastore, 1) := by decide +kernel
theorem dX3_receive_71 : decode cX3_receive 71 = .ok (.aload_n 0, 1) := by decide +kernel
theorem dX3_receive_72 : decode cX3_receive 72 = .ok (.getfield 30, 3) := by decide +kernel
theorem dX3_receive_75 : decode cX3_receive 75 = .ok (.iload_n 1, 1) := by decide +kernel
theorem dX3_receive_76 : decode cX3_receive 76 = .ok (.iconst 0, 1) := by decide +kernel
theorem dX3_receive_77 : decode cX3_receive 77 = .ok (.iastore, 1) := by decide +kernel
theorem dX3_receive_78 : decode cX3_receive 78 = .ok (.return_, 1) := by decide +kernel
set_option maxRecDepth 20000 in
theorem ggX3_addToSum_X3_hasSection : GoodIn wsX3_addToSum wsX3_hasSection := goodIn_r _ [6, 7, 8, 9, 10, 11, 12, 13, 14, 15, 16, 17, 18, 19, 20, 21, 22] (by decide +kernel) (by decide +kernel)
set_option maxRecDepth 20000 in
theorem gX3_addToSum_X3_hasSection : GoodIn wsX3_addToSum (wsV RX3 76 RX3 yX3_hasSection wsX3_hasSection) := goodIn_app (goodIn_of _ (by decide +kernel)) ggX3_addToSum_X3_hasSection
theorem dX3_addToSum_0 : decode cX3_addToSum 0 = .ok (.aload_n 0, 1) := by decide +kernel
theorem dX3_addToSum_1 : decode cX3_addToSum 1 = .ok (.iload_n 1, 1) := by decide +kernel
theorem dX3_addToSum_2 : decode cX3_addToSum 2 = .ok (.invokevirtual 76, 3) := by decide +kernel
theorem dX3_addToSum_5 : decode cX3_addToSum 5 = .ok (.ifCond .eq 13, 3) := by decide +kernel
theorem dX3_addToSum_8 : decode cX3_addToSum 8 = .ok (.aload_n 0, 1) := by decide +kernel
theorem dX3_addToSum_9 : decode cX3_addToSum 9 = .ok (.getfield 36, 3) := by decide +kernel
theorem dX3_addToSum_12 : decode cX3_addToSum 12 = .ok (.iload_n 1, 1) := by decide +kernel
theorem dX3_addToSum_13 : decode cX3_addToSum 13 = .ok (.dup2, 1) := by decide +kernel
theorem dX3_addToSum_14 : decode cX3_addToSum 14 = .ok (.iaload, 1) := by decide +kernel
theorem dX3_addToSum_15 : decode cX3_addToSum 15 = .ok (.iload_n 2, 1) := by decide +kernel
theorem dX3_addToSum_16 : decode cX3_addToSum 16 = .ok (.iadd, 1) := by decide +kernel
theorem dX3_addToSum_17 : decode cX3_addToSum 17 = .ok (.iastore, 1) := by decide +kernel
theorem dX3_addToSum_18 : decode cX3_addToSum 18 = .ok (.return_, 1) := by decide +kernel
set_option maxRecDepth 20000 in
theorem ggX3_judge_X3_hasTrouble : GoodIn wsX3_judge wsX3_hasTrouble := goodIn_r _ [7, 2, 8, 9, 10, 6, 11, 12, 13, 14, 15, 16, 17, 18, 19, 20, 21, 22, 23, 29, 30, 31, 32, 33, 34, 35, 36, 37, 38, 39, 40, 41, 42, 43] (by decide +kernel) (by decide +kernel)
set_option maxRecDepth 20000 in
theorem gX3_judge_X3_hasTrouble : GoodIn wsX3_judge (wsV RX3 111 RX3 yX3_hasTrouble wsX3_hasTrouble) := goodIn_app (goodIn_of _ (by decide +kernel)) ggX3_judge_X3_hasTrouble
set_option maxRecDepth 20000 in
theorem ggX3_judge_X3_judgeSweep : GoodIn wsX3_judge wsX3_judgeSweep := goodIn_r _ [27, 2, 28, 1, 29, 30, 31, 32, 33, 34, 35, 36, 37, 38, 39, 40, 41, 42, 43] (by decide +kernel) (by decide +kernel)
set_option maxRecDepth 20000 in
theorem gX3_judge_X3_judgeSweep : GoodIn wsX3_judge (wsV RX3 114 RX3 yX3_judgeSweep wsX3_judgeSweep) := goodIn_app (goodIn_of _ (by decide +kernel)) ggX3_judge_X3_judgeSweep
theorem dX3_judge_0 : decode cX3_judge 0 = .ok (.aload_n 0, 1) := by decide +kernel
theorem dX3_judge_1 : decode cX3_judge 1 = .ok (.iload_n 1, 1) := by decide +kernel
theorem dX3_judge_2 : decode cX3_judge 2 = .ok (.invokevirtual 111, 3) := by decide +kernel
theorem dX3_judge_5 : decode cX3_judge 5 = .ok (.ifCond .eq 13, 3) := by decide +kernel
theorem dX3_judge_8 : decode cX3_judge 8 = .ok (.aload_n 0, 1) := by decide +kernel
theorem dX3_judge_9 : decode cX3_judge 9 = .ok (.getfield 39, 3) := by decide +kernel
theorem dX3_judge_12 : decode cX3_judge 12 = .ok (.iload_n 1, 1) := by decide +kernel
theorem dX3_judge_13 : decode cX3_judge 13 = .ok (.iconst 2, 1) := by decide +kernel
theorem dX3_judge_14 : decode cX3_judge 14 = .ok (.iastore, 1) := by decide +kernel
theorem dX3_judge_15 : decode cX3_judge 15 = .ok (.goto 51, 3) := by decide +kernel
theorem dX3_judge_18 : decode cX3_judge 18 = .ok (.aload_n 0, 1) := by decide +kernel
theorem dX3_judge_19 : decode cX3_judge 19 = .ok (.getfield 39, 3) := by decide +kernel
theorem dX3_judge_22 : decode cX3_judge 22 = .ok (.iload_n 1, 1) := by decide +kernel
theorem dX3_judge_23 : decode cX3_judge 23 = .ok (.iaload, 1) := by decide +kernel
theorem dX3_judge_24 : decode cX3_judge 24 = .ok (.iconst 3, 1) := by decide +kernel
theorem dX3_judge_25 : decode cX3_judge 25 = .ok (.if_icmp .ne 11, 3) := by decide +kernel
theorem dX3_judge_28 : decode cX3_judge 28 = .ok (.aload_n 0, 1) := by decide +kernel
theorem dX3_judge_29 : decode cX3_judge 29 = .ok (.iload_n 1, 1) := by decide +kernel
theorem dX3_judge_30 : decode cX3_judge 30 = .ok (.invokevirtual 114, 3) := by decide +kernel
theorem dX3_judge_33 : decode cX3_judge 33 = .ok (.goto 33, 3) := by decide +kernel
theorem dX3_judge_36 : decode cX3_judge 36 = .ok (.aload_n 0, 1) := by decide +kernel
theorem dX3_judge_37 : decode cX3_judge 37 = .ok (.getfield 39, 3) := by decide +kernel
theorem dX3_judge_40 : decode cX3_judge 40 = .ok (.iload_n 1, 1) := by decide +kernel
theorem dX3_judge_41 : decode cX3_judge 41 = .ok (.iaload, 1) := by decide +kernel
theorem dX3_judge_42 : decode cX3_judge 42 = .ok (.iconst 2, 1) := by decide +kernel
theorem dX3_judge_43 : decode cX3_judge 43 = .ok (.if_icmp .eq 23, 3) := by decide +kernel
theorem dX3_judge_46 : decode cX3_judge 46 = .ok (.aload_n 0, 1) := by decide +kernel
theorem dX3_judge_47 : decode cX3_judge 47 = .ok (.getfield 39, 3) := by decide +kernel
theorem dX3_judge_50 : decode cX3_judge 50 = .ok (.iload_n 1, 1) := by decide +kernel
theorem dX3_judge_51 : decode cX3_judge 51 = .ok (.aload_n 0, 1) := by decide +kernel
theorem dX3_judge_52 : decode cX3_judge 52 = .ok (.getfield 36, 3) := by decide +kernel
theorem dX3_judge_55 : decode cX3_judge 55 = .ok (.iload_n 1, 1) := by decide +kernel
theorem dX3_judge_56 : decode cX3_judge 56 = .ok (.iaload, 1) := by decide +kernel
theorem dX3_judge_57 : decode cX3_judge 57 = .ok (.ifCond .le 7, 3) := by decide +kernel
theorem dX3_judge_60 : decode cX3_judge 60 = .ok (.iconst 1, 1) := by decide +kernel
theorem dX3_judge_61 : decode cX3_judge 61 = .ok (.goto 4, 3) := by decide +kernel
theorem dX3_judge_64 : decode cX3_judge 64 = .ok (.iconst 0, 1) := by decide +kernel
theorem dX3_judge_65 : decode cX3_judge 65 = .ok (.iastore, 1) := by decide +kernel
theorem dX3_judge_66 : decode cX3_judge 66 = .ok (.return_, 1) := by decide +kernel
theorem dX3_judgeSweep_0 : decode cX3_judgeSweep 0 = .ok (.aload_n 0, 1) := by decide +kernel
theorem dX3_judgeSweep_1 : decode cX3_judgeSweep 1 = .ok (.getfield 36, 3) := by decide +kernel
theorem dX3_judgeSweep_4 : decode cX3_judgeSweep 4 = .ok (.iload_n 1, 1) := by decide +kernel
theorem dX3_judgeSweep_5 : decode cX3_judgeSweep 5 = .ok (.iaload, 1) := by decide +kernel
theorem dX3_judgeSweep_6 : decode cX3_judgeSweep 6 = .ok (.ifCond .le 13, 3) := by decide +kernel
theorem dX3_judgeSweep_9 : decode cX3_judgeSweep 9 = .ok (.aload_n 0, 1) := by decide +kernel
theorem dX3_judgeSweep_10 : decode cX3_judgeSweep 10 = .ok (.getfield 42, 3) := by decide +kernel
theorem dX3_judgeSweep_13 : decode cX3_judgeSweep 13 = .ok (.iload_n 1, 1) := by decide +kernel
theorem dX3_judgeSweep_14 : decode cX3_judgeSweep 14 = .ok (.iconst 1, 1) := by decide +kernel
theorem dX3_judgeSweep_15 : decode cX3_judgeSweep 15 = .ok (.iastore, 1) := by decide +kernel
theorem dX3_judgeSweep_16 : decode cX3_judgeSweep 16 = .ok (.goto 20, 3) := by decide +kernel
theorem dX3_judgeSweep_19 : decode cX3_judgeSweep 19 = .ok (.aload_n 0, 1) := by decide +kernel
theorem dX3_judgeSweep_20 : decode cX3_judgeSweep 20 = .ok (.getfield 42, 3) := by decide +kernel
theorem dX3_judgeSweep_23 : decode cX3_judgeSweep 23 = .ok (.iload_n 1, 1) := by decide +kernel
theorem dX3_judgeSweep_24 : decode cX3_judgeSweep 24 = .ok (.iaload, 1) := by decide +kernel
theorem dX3_judgeSweep_25 : decode cX3_judgeSweep 25 = .ok (.iconst 1, 1) := by decide +kernel
theorem dX3_judgeSweep_26 : decode cX3_judgeSweep 26 = .ok (.if_icmp .ne 10, 3) := by decide +kernel
theorem dX3_judgeSweep_29 : decode cX3_judgeSweep 29 = .ok (.aload_n 0, 1) := by decide +kernel
theorem dX3_judgeSweep_30 : decode cX3_judgeSweep 30 = .ok (.getfield 39, 3) := by decide +kernel
theorem dX3_judgeSweep_33 : decode cX3_judgeSweep 33 = .ok (.iload_n 1, 1) := by decide +kernel
theorem dX3_judgeSweep_34 : decode cX3_judgeSweep 34 = .ok (.iconst 0, 1) := by decide +kernel
theorem dX3_judgeSweep_35 : decode cX3_judgeSweep 35 = .ok (.iastore, 1) := by decide +kernel
theorem dX3_judgeSweep_36 : decode cX3_judgeSweep 36 = .ok (.return_, 1) := by decide +kernel
set_option maxRecDepth 20000 in
theorem ggX3_hasTrouble_X3_hasBadHead : GoodIn wsX3_hasTrouble wsX3_hasBadHead := goodIn_r _ [6, 7, 8, 9, 5, 10, 11, 12, 13, 14, 15, 16, 17, 18, 19, 20, 21, 22, 23, 24, 25, 26, 27, 28, 29, 30, 31, 32, 33] (by decide +kernel) (by decide +kernel)
set_option maxRecDepth 20000 in
theorem gX3_hasTrouble_X3_hasBadHead : GoodIn wsX3_hasTrouble (wsV RX3 117 RX3 yX3_hasBadHead wsX3_hasBadHead) := goodIn_app (goodIn_of _ (by decide +kernel)) ggX3_hasTrouble_X3_hasBadHead
theorem dX3_hasTrouble_0 : decode cX3_hasTrouble 0 = .ok (.aload_n 0, 1) := by decide +kernel
theorem dX3_hasTrouble_1 : decode cX3_hasTrouble 1 = .ok (.getfield 36, 3) := by decide +kernel
theorem dX3_hasTrouble_4 : decode cX3_hasTrouble 4 = .ok (.iload_n 1, 1) := by decide +kernel
theorem dX3_hasTrouble_5 : decode cX3_hasTrouble 5 = .ok (.iaload, 1) := by decide +kernel
theorem dX3_hasTrouble_6 : decode cX3_hasTrouble 6 = .ok (.ifCond .lt 11, 3) := by decide +kernel
theorem dX3_hasTrouble_9 : decode cX3_hasTrouble 9 = .ok (.aload_n 0, 1) := by decide +kernel
theorem dX3_hasTrouble_10 : decode cX3_hasTrouble 10 = .ok (.iload_n 1, 1) := by decide +kernel
theorem dX3_hasTrouble_11 : decode cX3_hasTrouble 11 = .ok (.invokevirtual 117, 3) := by decide +kernel
theorem dX3_hasTrouble_14 : decode cX3_hasTrouble 14 = .ok (.ifCond .eq 7, 3) := by decide +kernel
theorem dX3_hasTrouble_17 : decode cX3_hasTrouble 17 = .ok (.iconst 1, 1) := by decide +kernel
theorem dX3_hasTrouble_18 : decode cX3_hasTrouble 18 = .ok (.goto 4, 3) := by decide +kernel
theorem dX3_hasTrouble_21 : decode cX3_hasTrouble 21 = .ok (.iconst 0, 1) := by decide +kernel
theorem dX3_hasTrouble_22 : decode cX3_hasTrouble 22 = .ok (.ireturn, 1) := by decide +kernel
set_option maxRecDepth 20000 in
theorem ggX3_hasBadHead_X3_isBad : GoodIn wsX3_hasBadHead wsX3_isBad := goodIn_r _ [5, 6, 7, 14, 15, 16, 17, 18, 19, 20, 21, 22, 23, 24, 25, 26, 27, 28] (by decide +kernel) (by decide +kernel)
set_option maxRecDepth 20000 in
theorem gX3_hasBadHead_X3_isBad : GoodIn wsX3_hasBadHead (wsV RX3 120 RX3 yX3_isBad wsX3_isBad) := goodIn_app (goodIn_of _ (by decide +kernel)) ggX3_hasBadHead_X3_isBad
set_option maxRecDepth 20000 in
theorem ggX3_hasBadHead_X3_rightHead : GoodIn wsX3_hasBadHead wsX3_rightHead := goodIn_r _ [11, 12, 13, 14, 15, 16, 17, 18, 19, 20, 21, 22, 23, 24, 25, 26, 27, 28] (by decide +kernel) (by decide +kernel)
set_option maxRecDepth 20000 in
theorem gX3_hasBadHead_X3_rightHead : GoodIn wsX3_hasBadHead (wsV RX3 123 RX3 yX3_rightHead wsX3_rightHead) := goodIn_app (goodIn_of _ (by decide +kernel)) ggX3_hasBadHead_X3_rightHead
theorem dX3_hasBadHead_0 : decode cX3_hasBadHead 0 = .ok (.aload_n 0, 1) := by decide +kernel
theorem dX3_hasBadHead_1 : decode cX3_hasBadHead 1 = .ok (.iload_n 1, 1) := by decide +kernel
theorem dX3_hasBadHead_2 : decode cX3_hasBadHead 2 = .ok (.invokevirtual 120, 3) := by decide +kernel
theorem dX3_hasBadHead_5 : decode cX3_hasBadHead 5 = .ok (.ifCond .ne 15, 3) := by decide +kernel
theorem dX3_hasBadHead_8 : decode cX3_hasBadHead 8 = .ok (.aload_n 0, 1) := by decide +kernel
theorem dX3_hasBadHead_9 : decode cX3_hasBadHead 9 = .ok (.aload_n 0, 1) := by decide +kernel
theorem dX3_hasBadHead_10 : decode cX3_hasBadHead 10 = .ok (.iload_n 1, 1) := by decide +kernel
theorem dX3_hasBadHead_11 : decode cX3_hasBadHead 11 = .ok (.invokevirtual 123, 3) := by decide +kernel
theorem dX3_hasBadHead_14 : decode cX3_hasBadHead 14 = .ok (.invokevirtual 120, 3) := by decide +kernel
theorem dX3_hasBadHead_17 : decode cX3_hasBadHead 17 = .ok (.ifCond .eq 7, 3) := by decide +kernel
theorem dX3_hasBadHead_20 : decode cX3_hasBadHead 20 = .ok (.iconst 1, 1) := by decide +kernel
theorem dX3_hasBadHead_21 : decode cX3_hasBadHead 21 = .ok (.goto 4, 3) := by decide +kernel
theorem dX3_hasBadHead_24 : decode cX3_hasBadHead 24 = .ok (.iconst 0, 1) := by decide +kernel
theorem dX3_hasBadHead_25 : decode cX3_hasBadHead 25 = .ok (.ireturn, 1) := by decide +kernel
theorem dX3_isBad_0 : decode cX3_isBad 0 = .ok (.aload_n 0, 1) := by decide +kernel
theorem dX3_isBad_1 : decode cX3_isBad 1 = .ok (.getfield 27, 3) := by decide +kernel
theorem dX3_isBad_4 : decode cX3_isBad 4 = .ok (.iload_n 1, 1) := by decide +kernel
theorem dX3_isBad_5 : decode cX3_isBad 5 = .ok (.iaload, 1) := by decide +kernel
theorem dX3_isBad_6 : decode cX3_isBad 6 = .ok (.iconst 1, 1) := by decide +kernel
theorem dX3_isBad_7 : decode cX3_isBad 7 = .ok (.if_icmp .eq 13, 3) := by decide +kernel
theorem dX3_isBad_10 : decode cX3_isBad 10 = .ok (.aload_n 0, 1) := by decide +kernel
theorem dX3_isBad_11 : decode cX3_isBad 11 = .ok (.getfield 30, 3) := by decide +kernel
theorem dX3_isBad_14 : decode cX3_isBad 14 = .ok (.iload_n 1, 1) := by decide +kernel
theorem dX3_isBad_15 : decode cX3_isBad 15 = .ok (.iaload, 1) := by decide +kernel
theorem dX3_isBad_16 : decode cX3_isBad 16 = .ok (.iconst 3, 1) := by decide +kernel
theorem dX3_isBad_17 : decode cX3_isBad 17 = .ok (.if_icmp .le 7, 3) := by decide +kernel
theorem dX3_isBad_20 : decode cX3_isBad 20 = .ok (.iconst 1, 1) := by decide +kernel
theorem dX3_isBad_21 : decode cX3_isBad 21 = .ok (.goto 4, 3) := by decide +kernel
theorem dX3_isBad_24 : decode cX3_isBad 24 = .ok (.iconst 0, 1) := by decide +kernel
theorem dX3_isBad_25 : decode cX3_isBad 25 = .ok (.ireturn, 1) := by decide +kernel
set_option maxRecDepth 20000 in
theorem ggX3_judgeJoint_X3_joint : GoodIn wsX3_judgeJoint wsX3_joint := goodIn_r _ [7, 8, 9, 10, 11, 6, 12, 13, 14, 15, 16, 17, 18, 19, 20, 21, 22, 45, 46, 47, 48, 49, 50, 51, 52, 53, 54, 55, 56, 57, 58, 59] (by decide +kernel) (by decide +kernel)
set_option maxRecDepth 20000 in
theorem gX3_judgeJoint_X3_joint : GoodIn wsX3_judgeJoint (wsV RX3 126 RX3 yX3_joint wsX3_joint) := goodIn_app (goodIn_of _ (by decide +kernel)) ggX3_judgeJoint_X3_joint
set_option maxRecDepth 20000 in
theorem ggX3_judgeJoint_X3_canHeal : GoodIn wsX3_judgeJoint wsX3_canHeal := goodIn_r _ [26, 2, 3, 4, 5, 6, 7, 8, 9, 10, 11, 12, 13, 14, 15, 16, 17, 18, 19, 20, 21, 22, 27, 28, 29, 30, 31, 32, 33, 34, 35, 36, 37, 38, 39, 40, 45, 46, 47, 48, 49, 50, 51, 52, 53, 54, 55, 56, 57, 58, 59] (by decide +kernel) (by decide +kernel)
set_option maxRecDepth 20000 in
theorem gX3_judgeJoint_X3_canHeal : GoodIn wsX3_judgeJoint (wsV RX3 129 RX3 yX3_canHeal wsX3_canHeal) := goodIn_app (goodIn_of _ (by decide +kernel)) ggX3_judgeJoint_X3_canHeal
set_option maxRecDepth 20000 in
theorem ggX3_judgeJoint_X3_heal : GoodIn wsX3_judgeJoint wsX3_heal := goodIn_r _ [44, 8, 1, 2, 45, 46, 47, 48, 49, 50, 51, 52, 53, 54, 55, 56, 57, 58, 59] (by decide +kernel) (by decide +kernel)
set_option maxRecDepth 20000 in
theorem gX3_judgeJoint_X3_heal : GoodIn wsX3_judgeJoint (wsV RX3 133 RX3 yX3_heal wsX3_heal) := goodIn_app (goodIn_of _ (by decide +kernel)) ggX3_judgeJoint_X3_heal
theorem dX3_judgeJoint_0 : decode cX3_judgeJoint 0 = .ok (.aload_n 0, 1) := by decide +kernel
theorem dX3_judgeJoint_1 : decode cX3_judgeJoint 1 = .ok (.getfield 39, 3) := by decide +kernel
theorem dX3_judgeJoint_4 : decode cX3_judgeJoint 4 = .ok (.iload_n 2, 1) := by decide +kernel
theorem dX3_judgeJoint_5 : decode cX3_judgeJoint 5 = .ok (.iaload, 1) := by decide +kernel
theorem dX3_judgeJoint_6 : decode cX3_judgeJoint 6 = .ok (.iconst 2, 1) := by decide +kernel
theorem dX3_judgeJoint_7 : decode cX3_judgeJoint 7 = .ok (.if_icmp .eq 23, 3) := by decide +kernel
theorem dX3_judgeJoint_10 : decode cX3_judgeJoint 10 = .ok (.aload_n 0, 1) := by decide +kernel
theorem dX3_judgeJoint_11 : decode cX3_judgeJoint 11 = .ok (.getfield 39, 3) := by decide +kernel
theorem dX3_judgeJoint_14 : decode cX3_judgeJoint 14 = .ok (.iload_n 3, 1) := by decide +kernel
theorem dX3_judgeJoint_15 : decode cX3_judgeJoint 15 = .ok (.iaload, 1) := by decide +kernel
theorem dX3_judgeJoint_16 : decode cX3_judgeJoint 16 = .ok (.iconst 2, 1) := by decide +kernel
theorem dX3_judgeJoint_17 : decode cX3_judgeJoint 17 = .ok (.if_icmp .eq 13, 3) := by decide +kernel
theorem dX3_judgeJoint_20 : decode cX3_judgeJoint 20 = .ok (.aload_n 0, 1) := by decide +kernel
theorem dX3_judgeJoint_21 : decode cX3_judgeJoint 21 = .ok (.getfield 33, 3) := by decide +kernel
theorem dX3_judgeJoint_24 : decode cX3_judgeJoint 24 = .ok (.iload_n 1, 1) := by decide +kernel
theorem dX3_judgeJoint_25 : decode cX3_judgeJoint 25 = .ok (.iconst 0, 1) := by decide +kernel
theorem dX3_judgeJoint_26 : decode cX3_judgeJoint 26 = .ok (.iastore, 1) := by decide +kernel
theorem dX3_judgeJoint_27 : decode cX3_judgeJoint 27 = .ok (.goto 38, 3) := by decide +kernel
theorem dX3_judgeJoint_30 : decode cX3_judgeJoint 30 = .ok (.aload_n 0, 1) := by decide +kernel
theorem dX3_judgeJoint_31 : decode cX3_judgeJoint 31 = .ok (.iload_n 1, 1) := by decide +kernel
theorem dX3_judgeJoint_32 : decode cX3_judgeJoint 32 = .ok (.invokevirtual 126, 3) := by decide +kernel
theorem dX3_judgeJoint_35 : decode cX3_judgeJoint 35 = .ok (.ifCond .le 13, 3) := by decide +kernel
theorem dX3_judgeJoint_38 : decode cX3_judgeJoint 38 = .ok (.aload_n 0, 1) := by decide +kernel
theorem dX3_judgeJoint_39 : decode cX3_judgeJoint 39 = .ok (.getfield 33, 3) := by decide +kernel
theorem dX3_judgeJoint_42 : decode cX3_judgeJoint 42 = .ok (.iload_n 1, 1) := by decide +kernel
theorem dX3_judgeJoint_43 : decode cX3_judgeJoint 43 = .ok (.iconst 1, 1) := by decide +kernel
theorem dX3_judgeJoint_44 : decode cX3_judgeJoint 44 = .ok (.iastore, 1) := by decide +kernel
theorem dX3_judgeJoint_45 : decode cX3_judgeJoint 45 = .ok (.goto 20, 3) := by decide +kernel
theorem dX3_judgeJoint_48 : decode cX3_judgeJoint 48 = .ok (.aload_n 0, 1) := by decide +kernel
theorem dX3_judgeJoint_49 : decode cX3_judgeJoint 49 = .ok (.iload_n 1, 1) := by decide +kernel
theorem dX3_judgeJoint_50 : decode cX3_judgeJoint 50 = .ok (.iload_n 2, 1) := by decide +kernel
theorem dX3_judgeJoint_51 : decode cX3_judgeJoint 51 = .ok (.iload_n 3, 1) := by decide +kernel
theorem dX3_judgeJoint_52 : decode cX3_judgeJoint 52 = .ok (.invokevirtual 129, 3) := by decide +kernel
theorem dX3_judgeJoint_55 : decode cX3_judgeJoint 55 = .ok (.ifCond .eq 10, 3) := by decide +kernel
theorem dX3_judgeJoint_58 : decode cX3_judgeJoint 58 = .ok (.aload_n 0, 1) := by decide +kernel
theorem dX3_judgeJoint_59 : decode cX3_judgeJoint 59 = .ok (.iload_n 1, 1) := by decide +kernel
theorem dX3_judgeJoint_60 : decode cX3_judgeJoint 60 = .ok (.iload_n 2, 1) := by decide +kernel
theorem dX3_judgeJoint_61 : decode cX3_judgeJoint 61 = .ok (.iload_n 3, 1) := by decide +kernel
theorem dX3_judgeJoint_62 : decode cX3_judgeJoint 62 = .ok (.invokevirtual 133, 3) := by decide +kernel
theorem dX3_judgeJoint_65 : decode cX3_judgeJoint 65 = .ok (.return_, 1) := by decide +kernel
set_option maxRecDepth 20000 in
theorem ggX3_canHeal_X3_joint : GoodIn wsX3_canHeal wsX3_joint := goodIn_r _ [6, 7, 8, 9, 10, 5, 11, 12, 13, 14, 15, 16, 17, 18, 19, 20, 21, 36, 37, 38, 39, 40, 41, 42, 43, 44, 45, 46, 47, 48, 49, 50] (by decide +kernel) (by decide +kernel)
set_option maxRecDepth 20000 in
theorem gX3_canHeal_X3_joint : GoodIn wsX3_canHeal (wsV RX3 126 RX3 yX3_joint wsX3_joint) := goodIn_app (goodIn_of _ (by decide +kernel)) ggX3_canHeal_X3_joint
set_option maxRecDepth 20000 in
theorem ggX3_canHeal_X3_hasBadHead : GoodIn wsX3_canHeal wsX3_hasBadHead := goodIn_r _ [25, 26, 27, 28, 5, 29, 30, 31, 32, 33, 34, 35, 12, 13, 36, 37, 38, 39, 40, 41, 42, 43, 44, 45, 46, 47, 48, 49, 50] (by decide +kernel) (by decide +kernel)
set_option maxRecDepth 20000 in
theorem gX3_canHeal_X3_hasBadHead : GoodIn wsX3_canHeal (wsV RX3 117 RX3 yX3_hasBadHead wsX3_hasBadHead) := goodIn_app (goodIn_of _ (by decide +kernel)) ggX3_canHeal_X3_hasBadHead
theorem dX3_canHeal_0 : decode cX3_canHeal 0 = .ok (.aload_n 0, 1) := by decide +kernel
theorem dX3_canHeal_1 : decode cX3_canHeal 1 = .ok (.getfield 33, 3) := by decide +kernel
theorem dX3_canHeal_4 : decode cX3_canHeal 4 = .ok (.iload_n 1, 1) := by decide +kernel
theorem dX3_canHeal_5 : decode cX3_canHeal 5 = .ok (.iaload, 1) := by decide +kernel
theorem dX3_canHeal_6 : decode cX3_canHeal 6 = .ok (.iconst 1, 1) := by decide +kernel
theorem dX3_canHeal_7 : decode cX3_canHeal 7 = .ok (.if_icmp .ne 31, 3) := by decide +kernel
theorem dX3_canHeal_10 : decode cX3_canHeal 10 = .ok (.aload_n 0, 1) := by decide +kernel
theorem dX3_canHeal_11 : decode cX3_canHeal 11 = .ok (.iload_n 1, 1) := by decide +kernel
theorem dX3_canHeal_12 : decode cX3_canHeal 12 = .ok (.invokevirtual 126, 3) := by decide +kernel
theorem dX3_canHeal_15 : decode cX3_canHeal 15 = .ok (.ifCond .ne 23, 3) := by decide +kernel
theorem dX3_canHeal_18 : decode cX3_canHeal 18 = .ok (.aload_n 0, 1) := by decide +kernel
theorem dX3_canHeal_19 : decode cX3_canHeal 19 = .ok (.iload_n 2, 1) := by decide +kernel
theorem dX3_canHeal_20 : decode cX3_canHeal 20 = .ok (.invokevirtual 117, 3) := by decide +kernel
theorem dX3_canHeal_23 : decode cX3_canHeal 23 = .ok (.ifCond .ne 15, 3) := by decide +kernel
theorem dX3_canHeal_26 : decode cX3_canHeal 26 = .ok (.aload_n 0, 1) := by decide +kernel
theorem dX3_canHeal_27 : decode cX3_canHeal 27 = .ok (.iload_n 3, 1) := by decide +kernel
theorem dX3_canHeal_28 : decode cX3_canHeal 28 = .ok (.invokevirtual 117, 3) := by decide +kernel
theorem dX3_canHeal_31 : decode cX3_canHeal 31 = .ok (.ifCond .ne 7, 3) := by decide +kernel
theorem dX3_canHeal_34 : decode cX3_canHeal 34 = .ok (.iconst 1, 1) := by decide +kernel
theorem dX3_canHeal_35 : decode cX3_canHeal 35 = .ok (.goto 4, 3) := by decide +kernel
theorem dX3_canHeal_38 : decode cX3_canHeal 38 = .ok (.iconst 0, 1) := by decide +kernel
theorem dX3_canHeal_39 : decode cX3_canHeal 39 = .ok (.ireturn, 1) := by decide +kernel
theorem dX3_heal_0 : decode cX3_heal 0 = .ok (.aload_n 0, 1) := by decide +kernel
theorem dX3_heal_1 : decode cX3_heal 1 = .ok (.getfield 36, 3) := by decide +kernel
theorem dX3_heal_4 : decode cX3_heal 4 = .ok (.iload_n 2, 1) := by decide +kernel
theorem dX3_heal_5 : decode cX3_heal 5 = .ok (.iconst 0, 1) := by decide +kernel
theorem dX3_heal_6 : decode cX3_heal 6 = .ok (.iastore, 1) := by decide +kernel
theorem dX3_heal_7 : decode cX3_heal 7 = .ok (.aload_n 0, 1) := by decide +kernel
theorem dX3_heal_8 : decode cX3_heal 8 = .ok (.getfield 36, 3) := by decide +kernel
theorem dX3_heal_11 : decode cX3_heal 11 = .ok (.iload_n 3, 1) := by decide +kernel
theorem dX3_heal_12 : decode cX3_heal 12 = .ok (.iconst 0, 1) := by decide +kernel
theorem dX3_heal_13 : decode cX3_heal 13 = .ok (.iastore, 1) := by decide +kernel
theorem dX3_heal_14 : decode cX3_heal 14 = .ok (.aload_n 0, 1) := by decide +kernel
theorem dX3_heal_15 : decode cX3_heal 15 = .ok (.getfield 39, 3) := by decide +kernel
theorem dX3_heal_18 : decode cX3_heal 18 = .ok (.iload_n 2, 1) := by decide +kernel
theorem dX3_heal_19 : decode cX3_heal 19 = .ok (.iconst 0, 1) := by decide +kernel
theorem dX3_heal_20 : decode cX3_heal 20 = .ok (.iastore, 1) := by decide +kernel
theorem dX3_heal_21 : decode cX3_heal 21 = .ok (.aload_n 0, 1) := by decide +kernel
theorem dX3_heal_22 : decode cX3_heal 22 = .ok (.getfield 39, 3) := by decide +kernel
theorem dX3_heal_25 : decode cX3_heal 25 = .ok (.iload_n 3, 1) := by decide +kernel
theorem dX3_heal_26 : decode cX3_heal 26 = .ok (.iconst 0, 1) := by decide +kernel
theorem dX3_heal_27 : decode cX3_heal 27 = .ok (.iastore, 1) := by decide +kernel
theorem dX3_heal_28 : decode cX3_heal 28 = .ok (.aload_n 0, 1) := by decide +kernel
theorem dX3_heal_29 : decode cX3_heal 29 = .ok (.getfield 33, 3) := by decide +kernel
theorem dX3_heal_32 : decode cX3_heal 32 = .ok (.iload_n 1, 1) := by decide +kernel
theorem dX3_heal_33 : decode cX3_heal 33 = .ok (.iconst 0, 1) := by decide +kernel
theorem dX3_heal_34 : decode cX3_heal 34 = .ok (.iastore, 1) := by decide +kernel
theorem dX3_heal_35 : decode cX3_heal 35 = .ok (.return_, 1) := by decide +kernel
set_option maxRecDepth 20000 in
theorem ggX3_joint_X3_leftOf : GoodIn wsX3_joint wsX3_leftOf := goodIn_r _ [6, 7, 8, 17, 18, 19, 20, 21, 22, 23, 24, 25, 26, 27, 28, 29, 30, 31] (by decide +kernel) (by decide +kernel)
set_option maxRecDepth 20000 in
theorem gX3_joint_X3_leftOf : GoodIn wsX3_joint (wsV RX3 69 RX3 yX3_leftOf wsX3_leftOf) := goodIn_app (goodIn_of _ (by decide +kernel)) ggX3_joint_X3_leftOf
set_option maxRecDepth 20000 in
theorem ggX3_joint_X3_rightOf : GoodIn wsX3_joint wsX3_rightOf := goodIn_r _ [12, 8, 17, 18, 19, 20, 21, 22, 23, 24, 25, 26, 27, 28, 29, 30, 31] (by decide +kernel) (by decide +kernel)
set_option maxRecDepth 20000 in
theorem gX3_joint_X3_rightOf : GoodIn wsX3_joint (wsV RX3 73 RX3 yX3_rightOf wsX3_rightOf) := goodIn_app (goodIn_of _ (by decide +kernel)) ggX3_joint_X3_rightOf
set_option maxRecDepth 20000 in
theorem ggX3_joint_X3_hasSection : GoodIn wsX3_joint wsX3_hasSection := goodIn_r _ [16, 8, 17, 18, 19, 20, 21, 22, 23, 24, 25, 26, 27, 28, 29, 30, 31] (by decide +kernel) (by decide +kernel)
set_option maxRecDepth 20000 in
theorem gX3_joint_X3_hasSection : GoodIn wsX3_joint (wsV RX3 76 RX3 yX3_hasSection wsX3_hasSection) := goodIn_app (goodIn_of _ (by decide +kernel)) ggX3_joint_X3_hasSection
theorem dX3_joint_0 : decode cX3_joint 0 = .ok (.aload_n 0, 1) := by decide +kernel
theorem dX3_joint_1 : decode cX3_joint 1 = .ok (.iload_n 1, 1) := by decide +kernel
theorem dX3_joint_2 : decode cX3_joint 2 = .ok (.invokevirtual 69, 3) := by decide +kernel
theorem dX3_joint_5 : decode cX3_joint 5 = .ok (.istore_n 2, 1) := by decide +kernel
theorem dX3_joint_6 : decode cX3_joint 6 = .ok (.aload_n 0, 1) := by decide +kernel
theorem dX3_joint_7 : decode cX3_joint 7 = .ok (.iload_n 1, 1) := by decide +kernel
theorem dX3_joint_8 : decode cX3_joint 8 = .ok (.invokevirtual 73, 3) := by decide +kernel
theorem dX3_joint_11 : decode cX3_joint 11 = .ok (.istore_n 3, 1) := by decide +kernel
theorem dX3_joint_12 : decode cX3_joint 12 = .ok (.aload_n 0, 1) := by decide +kernel
theorem dX3_joint_13 : decode cX3_joint 13 = .ok (.iload_n 2, 1) := by decide +kernel
theorem dX3_joint_14 : decode cX3_joint 14 = .ok (.invokevirtual 76, 3) := by decide +kernel
theorem dX3_joint_17 : decode cX3_joint 17 = .ok (.ifCond .eq 27, 3) := by decide +kernel
theorem dX3_joint_20 : decode cX3_joint 20 = .ok (.aload_n 0, 1) := by decide +kernel
theorem dX3_joint_21 : decode cX3_joint 21 = .ok (.iload_n 3, 1) := by decide +kernel
theorem dX3_joint_22 : decode cX3_joint 22 = .ok (.invokevirtual 76, 3) := by decide +kernel
theorem dX3_joint_25 : decode cX3_joint 25 = .ok (.ifCond .eq 19, 3) := by decide +kernel
theorem dX3_joint_28 : decode cX3_joint 28 = .ok (.aload_n 0, 1) := by decide +kernel
theorem dX3_joint_29 : decode cX3_joint 29 = .ok (.getfield 36, 3) := by decide +kernel
theorem dX3_joint_32 : decode cX3_joint 32 = .ok (.iload_n 2, 1) := by decide +kernel
theorem dX3_joint_33 : decode cX3_joint 33 = .ok (.iaload, 1) := by decide +kernel
theorem dX3_joint_34 : decode cX3_joint 34 = .ok (.aload_n 0, 1) := by decide +kernel
theorem dX3_joint_35 : decode cX3_joint 35 = .ok (.getfield 36, 3) := by decide +kernel
theorem dX3_joint_38 : decode cX3_joint 38 = .ok (.iload_n 3, 1) := by decide +kernel
theorem dX3_joint_39 : decode cX3_joint 39 = .ok (.iaload, 1) := by decide +kernel
theorem dX3_joint_40 : decode cX3_joint 40 = .ok (.iadd, 1) := by decide +kernel
theorem dX3_joint_41 : decode cX3_joint 41 = .ok (.goto 4, 3) := by decide +kernel
theorem dX3_joint_44 : decode cX3_joint 44 = .ok (.iconst 0, 1) := by decide +kernel
theorem dX3_joint_45 : decode cX3_joint 45 = .ok (.ireturn, 1) := by decide +kernel
theorem dX3_awaitSweep_0 : decode cX3_awaitSweep 0 = .ok (.aload_n 0, 1) := by decide +kernel
theorem dX3_awaitSweep_1 : decode cX3_awaitSweep 1 = .ok (.getfield 36, 3) := by decide +kernel
theorem dX3_awaitSweep_4 : decode cX3_awaitSweep 4 = .ok (.iload_n 1, 1) := by decide +kernel
theorem dX3_awaitSweep_5 : decode cX3_awaitSweep 5 = .ok (.iconst 0, 1) := by decide +kernel
theorem dX3_awaitSweep_6 : decode cX3_awaitSweep 6 = .ok (.iastore, 1) := by decide +kernel
theorem dX3_awaitSweep_7 : decode cX3_awaitSweep 7 = .ok (.aload_n 0, 1) := by decide +kernel
theorem dX3_awaitSweep_8 : decode cX3_awaitSweep 8 = .ok (.getfield 39, 3) := by decide +kernel
theorem dX3_awaitSweep_11 : decode cX3_awaitSweep 11 = .ok (.iload_n 1, 1) := by decide +kernel
theorem dX3_awaitSweep_12 : decode cX3_awaitSweep 12 = .ok (.iconst 3, 1) := by decide +kernel
theorem dX3_awaitSweep_13 : decode cX3_awaitSweep 13 = .ok (.iastore, 1) := by decide +kernel
theorem dX3_awaitSweep_14 : decode cX3_awaitSweep 14 = .ok (.aload_n 0, 1) := by decide +kernel
theorem dX3_awaitSweep_15 : decode cX3_awaitSweep 15 = .ok (.getfield 42, 3) := by decide +kernel
theorem dX3_awaitSweep_18 : decode cX3_awaitSweep 18 = .ok (.iload_n 1, 1) := by decide +kernel
theorem dX3_awaitSweep_19 : decode cX3_awaitSweep 19 = .ok (.iconst 0, 1) := by decide +kernel
theorem dX3_awaitSweep_20 : decode cX3_awaitSweep 20 = .ok (.iastore, 1) := by decide +kernel
theorem dX3_awaitSweep_21 : decode cX3_awaitSweep 21 = .ok (.return_, 1) := by decide +kernel
theorem dX3_called_0 : decode cX3_called 0 = .ok (.iconst 0, 1) := by decide +kernel
theorem dX3_called_1 : decode cX3_called 1 = .ok (.istore_n 2, 1) := by decide +kernel
theorem dX3_called_2 : decode cX3_called 2 = .ok (.iconst 0, 1) := by decide +kernel
theorem dX3_called_3 : decode cX3_called 3 = .ok (.istore_n 3, 1) := by decide +kernel
theorem dX3_called_4 : decode cX3_called 4 = .ok (.iload_n 3, 1) := by decide +kernel
theorem dX3_called_5 : decode cX3_called 5 = .ok (.aload_n 0, 1) := by decide +kernel
theorem dX3_called_6 : decode cX3_called 6 = .ok (.getfield 48, 3) := by decide +kernel
theorem dX3_called_9 : decode cX3_called 9 = .ok (.if_icmp .ge 25, 3) := by decide +kernel
theorem dX3_called_12 : decode cX3_called 12 = .ok (.aload_n 0, 1) := by decide +kernel
theorem dX3_called_13 : decode cX3_called 13 = .ok (.getfield 39, 3) := by decide +kernel
theorem dX3_called_16 : decode cX3_called 16 = .ok (.iload_n 3, 1) := by decide +kernel
theorem dX3_called_17 : decode cX3_called 17 = .ok (.iaload, 1) := by decide +kernel
theorem dX3_called_18 : decode cX3_called 18 = .ok (.iload_n 1, 1) := by decide +kernel
theorem dX3_called_19 : decode cX3_called 19 = .ok (.if_icmp .ne 9, 3) := by decide +kernel
theorem dX3_called_22 : decode cX3_called 22 = .ok (.iload_n 2, 1) := by decide +kernel
theorem dX3_called_23 : decode cX3_called 23 = .ok (.iconst 1, 1) := by decide +kernel
theorem dX3_called_24 : decode cX3_called 24 = .ok (.iload_n 3, 1) := by decide +kernel
theorem dX3_called_25 : decode cX3_called 25 = .ok (.ishl, 1) := by decide +kernel
theorem dX3_called_26 : decode cX3_called 26 = .ok (.ior, 1) := by decide +kernel
theorem dX3_called_27 : decode cX3_called 27 = .ok (.istore_n 2, 1) := by decide +kernel
theorem dX3_called_28 : decode cX3_called 28 = .ok (.iinc 3 1, 3) := by decide +kernel
theorem dX3_called_31 : decode cX3_called 31 = .ok (.goto (-27), 3) := by decide +kernel
theorem dX3_called_34 : decode cX3_called 34 = .ok (.iload_n 2, 1) := by decide +kernel
theorem dX3_called_35 : decode cX3_called 35 = .ok (.ireturn, 1) := by decide +kernel
set_option maxRecDepth 20000 in
theorem ggX3_wronglyClear_X3_called : GoodIn wsX3_wronglyClear wsX3_called := goodIn_r _ [5, 6, 7, 13, 14, 15, 16, 17, 18, 19, 20, 21, 22, 23, 24, 25, 26, 27] (by decide +kernel) (by decide +kernel)
set_option maxRecDepth 20000 in
theorem gX3_wronglyClear_X3_called : GoodIn wsX3_wronglyClear (wsV RX3 136 RX3 yX3_called wsX3_called) := goodIn_app (goodIn_of _ (by decide +kernel)) ggX3_wronglyClear_X3_called
set_option maxRecDepth 20000 in
theorem ggX3_wronglyClear_X3_empty : GoodIn wsX3_wronglyClear wsX3_empty := goodIn_r _ [11, 6, 12, 13, 14, 15, 16, 17, 18, 19, 20, 21, 22, 23, 24, 25, 26, 27] (by decide +kernel) (by decide +kernel)
set_option maxRecDepth 20000 in
theorem gX3_wronglyClear_X3_empty : GoodIn wsX3_wronglyClear (wsV RX3 139 RX3 yX3_empty wsX3_empty) := goodIn_app (goodIn_of _ (by decide +kernel)) ggX3_wronglyClear_X3_empty
theorem dX3_wronglyClear_0 : decode cX3_wronglyClear 0 = .ok (.aload_n 0, 1) := by decide +kernel
theorem dX3_wronglyClear_1 : decode cX3_wronglyClear 1 = .ok (.iconst 0, 1) := by decide +kernel
theorem dX3_wronglyClear_2 : decode cX3_wronglyClear 2 = .ok (.invokevirtual 136, 3) := by decide +kernel
theorem dX3_wronglyClear_5 : decode cX3_wronglyClear 5 = .ok (.aload_n 0, 1) := by decide +kernel
theorem dX3_wronglyClear_6 : decode cX3_wronglyClear 6 = .ok (.invokevirtual 139, 3) := by decide +kernel
theorem dX3_wronglyClear_9 : decode cX3_wronglyClear 9 = .ok (.iconst (-1), 1) := by decide +kernel
theorem dX3_wronglyClear_10 : decode cX3_wronglyClear 10 = .ok (.ixor, 1) := by decide +kernel
theorem dX3_wronglyClear_11 : decode cX3_wronglyClear 11 = .ok (.iand, 1) := by decide +kernel
theorem dX3_wronglyClear_12 : decode cX3_wronglyClear 12 = .ok (.ireturn, 1) := by decide +kernel
set_option maxRecDepth 20000 in
theorem ggX3_idle_X3_empty : GoodIn wsX3_idle wsX3_empty := goodIn_r _ [5, 6, 7, 13, 14, 15, 16, 17, 18, 19, 20, 21, 22, 23, 24, 25, 26, 27] (by decide +kernel) (by decide +kernel)
set_option maxRecDepth 20000 in
theorem gX3_idle_X3_empty : GoodIn wsX3_idle (wsV RX3 139 RX3 yX3_empty wsX3_empty) := goodIn_app (goodIn_of _ (by decide +kernel)) ggX3_idle_X3_empty
set_option maxRecDepth 20000 in
theorem ggX3_idle_X3_called : GoodIn wsX3_idle wsX3_called := goodIn_r _ [11, 6, 12, 13, 14, 15, 16, 17, 18, 19, 20, 21, 22, 23, 24, 25, 26, 27] (by decide +kernel) (by decide +kernel)
set_option maxRecDepth 20000 in
theorem gX3_idle_X3_called : GoodIn wsX3_idle (wsV RX3 136 RX3 yX3_called wsX3_called) := goodIn_app (goodIn_of _ (by decide +kernel)) ggX3_idle_X3_called
theorem dX3_idle_0 : decode cX3_idle 0 = .ok (.aload_n 0, 1) := by decide +kernel
theorem dX3_idle_1 : decode cX3_idle 1 = .ok (.invokevirtual 139, 3) := by decide +kernel
theorem dX3_idle_4 : decode cX3_idle 4 = .ok (.aload_n 0, 1) := by decide +kernel
theorem dX3_idle_5 : decode cX3_idle 5 = .ok (.iconst 0, 1) := by decide +kernel
theorem dX3_idle_6 : decode cX3_idle 6 = .ok (.invokevirtual 136, 3) := by decide +kernel
theorem dX3_idle_9 : decode cX3_idle 9 = .ok (.iconst (-1), 1) := by decide +kernel
theorem dX3_idle_10 : decode cX3_idle 10 = .ok (.ixor, 1) := by decide +kernel
theorem dX3_idle_11 : decode cX3_idle 11 = .ok (.iand, 1) := by decide +kernel
theorem dX3_idle_12 : decode cX3_idle 12 = .ok (.ireturn, 1) := by decide +kernel
theorem dX3_empty_0 : decode cX3_empty 0 = .ok (.iconst 0, 1) := by decide +kernel
theorem dX3_empty_1 : decode cX3_empty 1 = .ok (.istore_n 1, 1) := by decide +kernel
theorem dX3_empty_2 : decode cX3_empty 2 = .ok (.iconst 0, 1) := by decide +kernel
theorem dX3_empty_3 : decode cX3_empty 3 = .ok (.istore_n 2, 1) := by decide +kernel
theorem dX3_empty_4 : decode cX3_empty 4 = .ok (.iload_n 2, 1) := by decide +kernel
theorem dX3_empty_5 : decode cX3_empty 5 = .ok (.aload_n 0, 1) := by decide +kernel
theorem dX3_empty_6 : decode cX3_empty 6 = .ok (.getfield 48, 3) := by decide +kernel
theorem dX3_empty_9 : decode cX3_empty 9 = .ok (.if_icmp .ge 24, 3) := by decide +kernel
theorem dX3_empty_12 : decode cX3_empty 12 = .ok (.aload_n 0, 1) := by decide +kernel
theorem dX3_empty_13 : decode cX3_empty 13 = .ok (.getfield 45, 3) := by decide +kernel
theorem dX3_empty_16 : decode cX3_empty 16 = .ok (.iload_n 2, 1) := by decide +kernel
theorem dX3_empty_17 : decode cX3_empty 17 = .ok (.iaload, 1) := by decide +kernel
theorem dX3_empty_18 : decode cX3_empty 18 = .ok (.ifCond .ne 9, 3) := by decide +kernel
theorem dX3_empty_21 : decode cX3_empty 21 = .ok (.iload_n 1, 1) := by decide +kernel
theorem dX3_empty_22 : decode cX3_empty 22 = .ok (.iconst 1, 1) := by decide +kernel
theorem dX3_empty_23 : decode cX3_empty 23 = .ok (.iload_n 2, 1) := by decide +kernel
theorem dX3_empty_24 : decode cX3_empty 24 = .ok (.ishl, 1) := by decide +kernel
theorem dX3_empty_25 : decode cX3_empty 25 = .ok (.ior, 1) := by decide +kernel
theorem dX3_empty_26 : decode cX3_empty 26 = .ok (.istore_n 1, 1) := by decide +kernel
theorem dX3_empty_27 : decode cX3_empty 27 = .ok (.iinc 2 1, 3) := by decide +kernel
theorem dX3_empty_30 : decode cX3_empty 30 = .ok (.goto (-26), 3) := by decide +kernel
theorem dX3_empty_33 : decode cX3_empty 33 = .ok (.iload_n 1, 1) := by decide +kernel
theorem dX3_empty_34 : decode cX3_empty 34 = .ok (.ireturn, 1) := by decide +kernel
set_option maxRecDepth 20000 in
theorem ggX3_faultyHeads_X3_heads : GoodIn wsX3_faultyHeads wsX3_heads := goodIn_r _ [6, 7, 8, 9, 10, 11, 12, 13, 14, 15, 16, 17, 18, 19, 20, 21, 22, 23] (by decide +kernel) (by decide +kernel)
set_option maxRecDepth 20000 in
theorem gX3_faultyHeads_X3_heads : GoodIn wsX3_faultyHeads (wsV RX3 65 RX3 yX3_heads wsX3_heads) := goodIn_app (goodIn_of _ (by decide +kernel)) ggX3_faultyHeads_X3_heads
theorem dX3_faultyHeads_0 : decode cX3_faultyHeads 0 = .ok (.iconst 0, 1) := by decide +kernel
theorem dX3_faultyHeads_1 : decode cX3_faultyHeads 1 = .ok (.istore_n 1, 1) := by decide +kernel
theorem dX3_faultyHeads_2 : decode cX3_faultyHeads 2 = .ok (.iconst 0, 1) := by decide +kernel
theorem dX3_faultyHeads_3 : decode cX3_faultyHeads 3 = .ok (.istore_n 2, 1) := by decide +kernel
theorem dX3_faultyHeads_4 : decode cX3_faultyHeads 4 = .ok (.iload_n 2, 1) := by decide +kernel
theorem dX3_faultyHeads_5 : decode cX3_faultyHeads 5 = .ok (.aload_n 0, 1) := by decide +kernel
theorem dX3_faultyHeads_6 : decode cX3_faultyHeads 6 = .ok (.invokevirtual 65, 3) := by decide +kernel
theorem dX3_faultyHeads_9 : decode cX3_faultyHeads 9 = .ok (.if_icmp .ge 20, 3) := by decide +kernel
theorem dX3_faultyHeads_12 : decode cX3_faultyHeads 12 = .ok (.iload_n 1, 1) := by decide +kernel
theorem dX3_faultyHeads_13 : decode cX3_faultyHeads 13 = .ok (.aload_n 0, 1) := by decide +kernel
theorem dX3_faultyHeads_14 : decode cX3_faultyHeads 14 = .ok (.getfield 21, 3) := by decide +kernel
theorem dX3_faultyHeads_17 : decode cX3_faultyHeads 17 = .ok (.iload_n 2, 1) := by decide +kernel
theorem dX3_faultyHeads_18 : decode cX3_faultyHeads 18 = .ok (.iaload, 1) := by decide +kernel
theorem dX3_faultyHeads_19 : decode cX3_faultyHeads 19 = .ok (.iload_n 2, 1) := by decide +kernel
theorem dX3_faultyHeads_20 : decode cX3_faultyHeads 20 = .ok (.ishl, 1) := by decide +kernel
theorem dX3_faultyHeads_21 : decode cX3_faultyHeads 21 = .ok (.ior, 1) := by decide +kernel
theorem dX3_faultyHeads_22 : decode cX3_faultyHeads 22 = .ok (.istore_n 1, 1) := by decide +kernel
theorem dX3_faultyHeads_23 : decode cX3_faultyHeads 23 = .ok (.iinc 2 1, 3) := by decide +kernel
theorem dX3_faultyHeads_26 : decode cX3_faultyHeads 26 = .ok (.goto (-22), 3) := by decide +kernel
theorem dX3_faultyHeads_29 : decode cX3_faultyHeads 29 = .ok (.iload_n 1, 1) := by decide +kernel
theorem dX3_faultyHeads_30 : decode cX3_faultyHeads 30 = .ok (.ireturn, 1) := by decide +kernel
theorem dX3_axlesInAll_0 : decode cX3_axlesInAll 0 = .ok (.iconst 0, 1) := by decide +kernel
theorem dX3_axlesInAll_1 : decode cX3_axlesInAll 1 = .ok (.istore_n 1, 1) := by decide +kernel
theorem dX3_axlesInAll_2 : decode cX3_axlesInAll 2 = .ok (.iconst 0, 1) := by decide +kernel
theorem dX3_axlesInAll_3 : decode cX3_axlesInAll 3 = .ok (.istore_n 2, 1) := by decide +kernel
theorem dX3_axlesInAll_4 : decode cX3_axlesInAll 4 = .ok (.iload_n 2, 1) := by decide +kernel
theorem dX3_axlesInAll_5 : decode cX3_axlesInAll 5 = .ok (.aload_n 0, 1) := by decide +kernel
theorem dX3_axlesInAll_6 : decode cX3_axlesInAll 6 = .ok (.getfield 48, 3) := by decide +kernel
theorem dX3_axlesInAll_9 : decode cX3_axlesInAll 9 = .ok (.if_icmp .ge 18, 3) := by decide +kernel
theorem dX3_axlesInAll_12 : decode cX3_axlesInAll 12 = .ok (.iload_n 1, 1) := by decide +kernel
theorem dX3_axlesInAll_13 : decode cX3_axlesInAll 13 = .ok (.aload_n 0, 1) := by decide +kernel
theorem dX3_axlesInAll_14 : decode cX3_axlesInAll 14 = .ok (.getfield 45, 3) := by decide +kernel
theorem dX3_axlesInAll_17 : decode cX3_axlesInAll 17 = .ok (.iload_n 2, 1) := by decide +kernel
theorem dX3_axlesInAll_18 : decode cX3_axlesInAll 18 = .ok (.iaload, 1) := by decide +kernel
theorem dX3_axlesInAll_19 : decode cX3_axlesInAll 19 = .ok (.iadd, 1) := by decide +kernel
theorem dX3_axlesInAll_20 : decode cX3_axlesInAll 20 = .ok (.istore_n 1, 1) := by decide +kernel
theorem dX3_axlesInAll_21 : decode cX3_axlesInAll 21 = .ok (.iinc 2 1, 3) := by decide +kernel
theorem dX3_axlesInAll_24 : decode cX3_axlesInAll 24 = .ok (.goto (-20), 3) := by decide +kernel
theorem dX3_axlesInAll_27 : decode cX3_axlesInAll 27 = .ok (.iload_n 1, 1) := by decide +kernel
theorem dX3_axlesInAll_28 : decode cX3_axlesInAll 28 = .ok (.ireturn, 1) := by decide +kernel
theorem dX3_sumOfAll_0 : decode cX3_sumOfAll 0 = .ok (.iconst 0, 1) := by decide +kernel
theorem dX3_sumOfAll_1 : decode cX3_sumOfAll 1 = .ok (.istore_n 1, 1) := by decide +kernel
theorem dX3_sumOfAll_2 : decode cX3_sumOfAll 2 = .ok (.iconst 0, 1) := by decide +kernel
theorem dX3_sumOfAll_3 : decode cX3_sumOfAll 3 = .ok (.istore_n 2, 1) := by decide +kernel
theorem dX3_sumOfAll_4 : decode cX3_sumOfAll 4 = .ok (.iload_n 2, 1) := by decide +kernel
theorem dX3_sumOfAll_5 : decode cX3_sumOfAll 5 = .ok (.aload_n 0, 1) := by decide +kernel
theorem dX3_sumOfAll_6 : decode cX3_sumOfAll 6 = .ok (.getfield 48, 3) := by decide +kernel
theorem dX3_sumOfAll_9 : decode cX3_sumOfAll 9 = .ok (.if_icmp .ge 18, 3) := by decide +kernel
theorem dX3_sumOfAll_12 : decode cX3_sumOfAll 12 = .ok (.iload_n 1, 1) := by decide +kernel
theorem dX3_sumOfAll_13 : decode cX3_sumOfAll 13 = .ok (.aload_n 0, 1) := by decide +kernel
theorem dX3_sumOfAll_14 : decode cX3_sumOfAll 14 = .ok (.getfield 36, 3) := by decide +kernel
theorem dX3_sumOfAll_17 : decode cX3_sumOfAll 17 = .ok (.iload_n 2, 1) := by decide +kernel
theorem dX3_sumOfAll_18 : decode cX3_sumOfAll 18 = .ok (.iaload, 1) := by decide +kernel
theorem dX3_sumOfAll_19 : decode cX3_sumOfAll 19 = .ok (.iadd, 1) := by decide +kernel
theorem dX3_sumOfAll_20 : decode cX3_sumOfAll 20 = .ok (.istore_n 1, 1) := by decide +kernel
theorem dX3_sumOfAll_21 : decode cX3_sumOfAll 21 = .ok (.iinc 2 1, 3) := by decide +kernel
theorem dX3_sumOfAll_24 : decode cX3_sumOfAll 24 = .ok (.goto (-20), 3) := by decide +kernel
theorem dX3_sumOfAll_27 : decode cX3_sumOfAll 27 = .ok (.iload_n 1, 1) := by decide +kernel
theorem dX3_sumOfAll_28 : decode cX3_sumOfAll 28 = .ok (.ireturn, 1) := by decide +kernel
set_option maxRecDepth 20000 in
theorem ggX3_suspects_X3_heads : GoodIn wsX3_suspects wsX3_heads := goodIn_r _ [5, 6, 7, 25, 26, 27, 28, 29, 30, 31, 32, 33, 34, 35, 36, 37, 38, 39] (by decide +kernel) (by decide +kernel)
set_option maxRecDepth 20000 in
theorem gX3_suspects_X3_heads : GoodIn wsX3_suspects (wsV RX3 65 RX3 yX3_heads wsX3_heads) := goodIn_app (goodIn_of _ (by decide +kernel)) ggX3_suspects_X3_heads
set_option maxRecDepth 20000 in
theorem ggX3_suspects_X3_miscount : GoodIn wsX3_suspects wsX3_miscount := goodIn_r _ [11, 12, 13, 14, 4, 15, 7, 16, 17, 18, 19, 20, 21, 22, 23, 24, 6, 25, 26, 27, 28, 29, 30, 31, 32, 33, 34, 35, 36, 37, 38, 39] (by decide +kernel) (by decide +kernel)
set_option maxRecDepth 20000 in
theorem gX3_suspects_X3_miscount : GoodIn wsX3_suspects (wsV RX3 142 RX3 yX3_miscount wsX3_miscount) := goodIn_app (goodIn_of _ (by decide +kernel)) ggX3_suspects_X3_miscount
theorem dX3_suspects_0 : decode cX3_suspects 0 = .ok (.iconst 0, 1) := by decide +kernel
theorem dX3_suspects_1 : decode cX3_suspects 1 = .ok (.istore_n 1, 1) := by decide +kernel
theorem dX3_suspects_2 : decode cX3_suspects 2 = .ok (.iconst 0, 1) := by decide +kernel
theorem dX3_suspects_3 : decode cX3_suspects 3 = .ok (.istore_n 2, 1) := by decide +kernel
theorem dX3_suspects_4 : decode cX3_suspects 4 = .ok (.iload_n 2, 1) := by decide +kernel
theorem dX3_suspects_5 : decode cX3_suspects 5 = .ok (.aload_n 0, 1) := by decide +kernel
theorem dX3_suspects_6 : decode cX3_suspects 6 = .ok (.invokevirtual 65, 3) := by decide +kernel
theorem dX3_suspects_9 : decode cX3_suspects 9 = .ok (.if_icmp .ge 23, 3) := by decide +kernel
theorem dX3_suspects_12 : decode cX3_suspects 12 = .ok (.aload_n 0, 1) := by decide +kernel
theorem dX3_suspects_13 : decode cX3_suspects 13 = .ok (.iload_n 2, 1) := by decide +kernel
theorem dX3_suspects_14 : decode cX3_suspects 14 = .ok (.invokevirtual 142, 3) := by decide +kernel
theorem dX3_suspects_17 : decode cX3_suspects 17 = .ok (.ifCond .eq 9, 3) := by decide +kernel
theorem dX3_suspects_20 : decode cX3_suspects 20 = .ok (.iload_n 1, 1) := by decide +kernel
theorem dX3_suspects_21 : decode cX3_suspects 21 = .ok (.iconst 1, 1) := by decide +kernel
theorem dX3_suspects_22 : decode cX3_suspects 22 = .ok (.iload_n 2, 1) := by decide +kernel
theorem dX3_suspects_23 : decode cX3_suspects 23 = .ok (.ishl, 1) := by decide +kernel
theorem dX3_suspects_24 : decode cX3_suspects 24 = .ok (.ior, 1) := by decide +kernel
theorem dX3_suspects_25 : decode cX3_suspects 25 = .ok (.istore_n 1, 1) := by decide +kernel
theorem dX3_suspects_26 : decode cX3_suspects 26 = .ok (.iinc 2 1, 3) := by decide +kernel
theorem dX3_suspects_29 : decode cX3_suspects 29 = .ok (.goto (-25), 3) := by decide +kernel
theorem dX3_suspects_32 : decode cX3_suspects 32 = .ok (.iload_n 1, 1) := by decide +kernel
theorem dX3_suspects_33 : decode cX3_suspects 33 = .ok (.ireturn, 1) := by decide +kernel
set_option maxRecDepth 20000 in
theorem ggX3_miscount_X3_explains : GoodIn wsX3_miscount wsX3_explains := goodIn_r _ [5, 6, 7, 8, 9, 10, 4, 11, 12, 13, 14, 15, 16, 17, 18, 19, 20, 21, 22, 23, 24, 25, 26, 27, 28, 29, 30, 31] (by decide +kernel) (by decide +kernel)
set_option maxRecDepth 20000 in
theorem gX3_miscount_X3_explains : GoodIn wsX3_miscount (wsV RX3 145 RX3 yX3_explains wsX3_explains) := goodIn_app (goodIn_of _ (by decide +kernel)) ggX3_miscount_X3_explains
theorem dX3_miscount_0 : decode cX3_miscount 0 = .ok (.aload_n 0, 1) := by decide +kernel
theorem dX3_miscount_1 : decode cX3_miscount 1 = .ok (.iload_n 1, 1) := by decide +kernel
theorem dX3_miscount_2 : decode cX3_miscount 2 = .ok (.iconst 0, 1) := by decide +kernel
theorem dX3_miscount_3 : decode cX3_miscount 3 = .ok (.invokevirtual 145, 3) := by decide +kernel
theorem dX3_miscount_6 : decode cX3_miscount 6 = .ok (.ifCond .eq 5, 3) := by decide +kernel
theorem dX3_miscount_9 : decode cX3_miscount 9 = .ok (.iconst 0, 1) := by decide +kernel
theorem dX3_miscount_10 : decode cX3_miscount 10 = .ok (.ireturn, 1) := by decide +kernel
theorem dX3_miscount_11 : decode cX3_miscount 11 = .ok (.iconst 1, 1) := by decide +kernel
theorem dX3_miscount_12 : decode cX3_miscount 12 = .ok (.istore_n 2, 1) := by decide +kernel
theorem dX3_miscount_13 : decode cX3_miscount 13 = .ok (.iload_n 2, 1) := by decide +kernel
theorem dX3_miscount_14 : decode cX3_miscount 14 = .ok (.bipush 9, 2) := by decide +kernel
theorem dX3_miscount_16 : decode cX3_miscount 16 = .ok (.if_icmp .gt 33, 3) := by decide +kernel
theorem dX3_miscount_19 : decode cX3_miscount 19 = .ok (.aload_n 0, 1) := by decide +kernel
theorem dX3_miscount_20 : decode cX3_miscount 20 = .ok (.iload_n 1, 1) := by decide +kernel
theorem dX3_miscount_21 : decode cX3_miscount 21 = .ok (.iload_n 2, 1) := by decide +kernel
theorem dX3_miscount_22 : decode cX3_miscount 22 = .ok (.invokevirtual 145, 3) := by decide +kernel
theorem dX3_miscount_25 : decode cX3_miscount 25 = .ok (.ifCond .eq 5, 3) := by decide +kernel
theorem dX3_miscount_28 : decode cX3_miscount 28 = .ok (.iload_n 2, 1) := by decide +kernel
theorem dX3_miscount_29 : decode cX3_miscount 29 = .ok (.ireturn, 1) := by decide +kernel
theorem dX3_miscount_30 : decode cX3_miscount 30 = .ok (.aload_n 0, 1) := by decide +kernel
theorem dX3_miscount_31 : decode cX3_miscount 31 = .ok (.iload_n 1, 1) := by decide +kernel
theorem dX3_miscount_32 : decode cX3_miscount 32 = .ok (.iload_n 2, 1) := by decide +kernel
theorem dX3_miscount_33 : decode cX3_miscount 33 = .ok (.ineg, 1) := by decide +kernel
theorem dX3_miscount_34 : decode cX3_miscount 34 = .ok (.invokevirtual 145, 3) := by decide +kernel
theorem dX3_miscount_37 : decode cX3_miscount 37 = .ok (.ifCond .eq 6, 3) := by decide +kernel
theorem dX3_miscount_40 : decode cX3_miscount 40 = .ok (.iload_n 2, 1) := by decide +kernel
theorem dX3_miscount_41 : decode cX3_miscount 41 = .ok (.ineg, 1) := by decide +kernel
theorem dX3_miscount_42 : decode cX3_miscount 42 = .ok (.ireturn, 1) := by decide +kernel
theorem dX3_miscount_43 : decode cX3_miscount 43 = .ok (.iinc 2 1, 3) := by decide +kernel
theorem dX3_miscount_46 : decode cX3_miscount 46 = .ok (.goto (-33), 3) := by decide +kernel
theorem dX3_miscount_49 : decode cX3_miscount 49 = .ok (.iconst 0, 1) := by decide +kernel
theorem dX3_miscount_50 : decode cX3_miscount 50 = .ok (.ireturn, 1) := by decide +kernel
set_option maxRecDepth 20000 in
theorem ggX3_explains_X3_rightOf : GoodIn wsX3_explains wsX3_rightOf := goodIn_r _ [7, 1, 13, 14, 15, 16, 17, 18, 19, 20, 21, 22, 23, 24, 25, 26, 27] (by decide +kernel) (by decide +kernel)
set_option maxRecDepth 20000 in
theorem gX3_explains_X3_rightOf : GoodIn wsX3_explains (wsV RX3 73 RX3 yX3_rightOf wsX3_rightOf) := goodIn_app (goodIn_of _ (by decide +kernel)) ggX3_explains_X3_rightOf
set_option maxRecDepth 20000 in
theorem ggX3_explains_X3_leftOf : GoodIn wsX3_explains wsX3_leftOf := goodIn_r _ [11, 12, 1, 13, 14, 15, 16, 17, 18, 19, 20, 21, 22, 23, 24, 25, 26, 27] (by decide +kernel) (by decide +kernel)
set_option maxRecDepth 20000 in
theorem gX3_explains_X3_leftOf : GoodIn wsX3_explains (wsV RX3 69 RX3 yX3_leftOf wsX3_leftOf) := goodIn_app (goodIn_of _ (by decide +kernel)) ggX3_explains_X3_leftOf
theorem dX3_explains_0 : decode cX3_explains 0 = .ok (.iconst 0, 1) := by decide +kernel
theorem dX3_explains_1 : decode cX3_explains 1 = .ok (.istore_n 3, 1) := by decide +kernel
theorem dX3_explains_2 : decode cX3_explains 2 = .ok (.iload_n 3, 1) := by decide +kernel
theorem dX3_explains_3 : decode cX3_explains 3 = .ok (.aload_n 0, 1) := by decide +kernel
theorem dX3_explains_4 : decode cX3_explains 4 = .ok (.getfield 48, 3) := by decide +kernel
theorem dX3_explains_7 : decode cX3_explains 7 = .ok (.if_icmp .ge 54, 3) := by decide +kernel
theorem dX3_explains_10 : decode cX3_explains 10 = .ok (.aload_n 0, 1) := by decide +kernel
theorem dX3_explains_11 : decode cX3_explains 11 = .ok (.getfield 36, 3) := by decide +kernel
theorem dX3_explains_14 : decode cX3_explains 14 = .ok (.iload_n 3, 1) := by decide +kernel
theorem dX3_explains_15 : decode cX3_explains 15 = .ok (.iaload, 1) := by decide +kernel
theorem dX3_explains_16 : decode cX3_explains 16 = .ok (.istore 4, 2) := by decide +kernel
theorem dX3_explains_18 : decode cX3_explains 18 = .ok (.iload_n 3, 1) := by decide +kernel
theorem dX3_explains_19 : decode cX3_explains 19 = .ok (.aload_n 0, 1) := by decide +kernel
theorem dX3_explains_20 : decode cX3_explains 20 = .ok (.iload_n 1, 1) := by decide +kernel
theorem dX3_explains_21 : decode cX3_explains 21 = .ok (.invokevirtual 73, 3) := by decide +kernel
theorem dX3_explains_24 : decode cX3_explains 24 = .ok (.if_icmp .ne 9, 3) := by decide +kernel
theorem dX3_explains_27 : decode cX3_explains 27 = .ok (.iload 4, 2) := by decide +kernel
theorem dX3_explains_29 : decode cX3_explains 29 = .ok (.iload_n 2, 1) := by decide +kernel
theorem dX3_explains_30 : decode cX3_explains 30 = .ok (.iadd, 1) := by decide +kernel
theorem dX3_explains_31 : decode cX3_explains 31 = .ok (.istore 4, 2) := by decide +kernel
theorem dX3_explains_33 : decode cX3_explains 33 = .ok (.iload_n 3, 1) := by decide +kernel
theorem dX3_explains_34 : decode cX3_explains 34 = .ok (.aload_n 0, 1) := by decide +kernel
theorem dX3_explains_35 : decode cX3_explains 35 = .ok (.iload_n 1, 1) := by decide +kernel
theorem dX3_explains_36 : decode cX3_explains 36 = .ok (.invokevirtual 69, 3) := by decide +kernel
theorem dX3_explains_39 : decode cX3_explains 39 = .ok (.if_icmp .ne 9, 3) := by decide +kernel
theorem dX3_explains_42 : decode cX3_explains 42 = .ok (.iload 4, 2) := by decide +kernel
theorem dX3_explains_44 : decode cX3_explains 44 = .ok (.iload_n 2, 1) := by decide +kernel
theorem dX3_explains_45 : decode cX3_explains 45 = .ok (.isub, 1) := by decide +kernel
theorem dX3_explains_46 : decode cX3_explains 46 = .ok (.istore 4, 2) := by decide +kernel
theorem dX3_explains_48 : decode cX3_explains 48 = .ok (.iload 4, 2) := by decide +kernel
theorem dX3_explains_50 : decode cX3_explains 50 = .ok (.ifCond .ge 5, 3) := by decide +kernel
theorem dX3_explains_53 : decode cX3_explains 53 = .ok (.iconst 0, 1) := by decide +kernel
theorem dX3_explains_54 : decode cX3_explains 54 = .ok (.ireturn, 1) := by decide +kernel
theorem dX3_explains_55 : decode cX3_explains 55 = .ok (.iinc 3 1, 3) := by decide +kernel
theorem dX3_explains_58 : decode cX3_explains 58 = .ok (.goto (-56), 3) := by decide +kernel
theorem dX3_explains_61 : decode cX3_explains 61 = .ok (.iconst 1, 1) := by decide +kernel
theorem dX3_explains_62 : decode cX3_explains 62 = .ok (.ireturn, 1) := by decide +kernel
set_option maxRecDepth 20000 in
theorem ggX3_lossesLeft_X3_rightHead : GoodIn wsX3_lossesLeft wsX3_rightHead := goodIn_r _ [10, 11, 12, 13, 14, 15, 16, 17, 18, 19, 20, 21, 22, 23, 24, 25, 26, 27] (by decide +kernel) (by decide +kernel)
set_option maxRecDepth 20000 in
theorem gX3_lossesLeft_X3_rightHead : GoodIn wsX3_lossesLeft (wsV RX3 123 RX3 yX3_rightHead wsX3_rightHead) := goodIn_app (goodIn_of _ (by decide +kernel)) ggX3_lossesLeft_X3_rightHead
theorem dX3_lossesLeft_0 : decode cX3_lossesLeft 0 = .ok (.aload_n 0, 1) := by decide +kernel
theorem dX3_lossesLeft_1 : decode cX3_lossesLeft 1 = .ok (.getfield 30, 3) := by decide +kernel
theorem dX3_lossesLeft_4 : decode cX3_lossesLeft 4 = .ok (.iload_n 1, 1) := by decide +kernel
theorem dX3_lossesLeft_5 : decode cX3_lossesLeft 5 = .ok (.iaload, 1) := by decide +kernel
theorem dX3_lossesLeft_6 : decode cX3_lossesLeft 6 = .ok (.aload_n 0, 1) := by decide +kernel
theorem dX3_lossesLeft_7 : decode cX3_lossesLeft 7 = .ok (.getfield 30, 3) := by decide +kernel
theorem dX3_lossesLeft_10 : decode cX3_lossesLeft 10 = .ok (.aload_n 0, 1) := by decide +kernel
theorem dX3_lossesLeft_11 : decode cX3_lossesLeft 11 = .ok (.iload_n 1, 1) := by decide +kernel
theorem dX3_lossesLeft_12 : decode cX3_lossesLeft 12 = .ok (.invokevirtual 123, 3) := by decide +kernel
theorem dX3_lossesLeft_15 : decode cX3_lossesLeft 15 = .ok (.iaload, 1) := by decide +kernel
theorem dX3_lossesLeft_16 : decode cX3_lossesLeft 16 = .ok (.invokestatic 149, 3) := by decide +kernel
theorem dX3_lossesLeft_19 : decode cX3_lossesLeft 19 = .ok (.istore_n 2, 1) := by decide +kernel
theorem dX3_lossesLeft_20 : decode cX3_lossesLeft 20 = .ok (.iconst 0, 1) := by decide +kernel
theorem dX3_lossesLeft_21 : decode cX3_lossesLeft 21 = .ok (.iconst 4, 1) := by decide +kernel
theorem dX3_lossesLeft_22 : decode cX3_lossesLeft 22 = .ok (.iload_n 2, 1) := by decide +kernel
theorem dX3_lossesLeft_23 : decode cX3_lossesLeft 23 = .ok (.isub, 1) := by decide +kernel
theorem dX3_lossesLeft_24 : decode cX3_lossesLeft 24 = .ok (.invokestatic 149, 3) := by decide +kernel
theorem dX3_lossesLeft_27 : decode cX3_lossesLeft 27 = .ok (.ireturn, 1) := by decide +kernel
set_option maxRecDepth 20000 in
theorem ggX3_clearRun_X3_hasSection : GoodIn wsX3_clearRun wsX3_hasSection := goodIn_r _ [8, 1, 9, 10, 11, 12, 13, 14, 15, 16, 17, 18, 19, 20, 21, 22, 23] (by decide +kernel) (by decide +kernel)
set_option maxRecDepth 20000 in
theorem gX3_clearRun_X3_hasSection : GoodIn wsX3_clearRun (wsV RX3 76 RX3 yX3_hasSection wsX3_hasSection) := goodIn_app (goodIn_of _ (by decide +kernel)) ggX3_clearRun_X3_hasSection
theorem dX3_clearRun_0 : decode cX3_clearRun 0 = .ok (.iconst 0, 1) := by decide +kernel
theorem dX3_clearRun_1 : decode cX3_clearRun 1 = .ok (.istore_n 2, 1) := by decide +kernel
theorem dX3_clearRun_2 : decode cX3_clearRun 2 = .ok (.iload_n 1, 1) := by decide +kernel
theorem dX3_clearRun_3 : decode cX3_clearRun 3 = .ok (.istore_n 3, 1) := by decide +kernel
theorem dX3_clearRun_4 : decode cX3_clearRun 4 = .ok (.iload_n 2, 1) := by decide +kernel
theorem dX3_clearRun_5 : decode cX3_clearRun 5 = .ok (.aload_n 0, 1) := by decide +kernel
theorem dX3_clearRun_6 : decode cX3_clearRun 6 = .ok (.getfield 48, 3) := by decide +kernel
theorem dX3_clearRun_9 : decode cX3_clearRun 9 = .ok (.if_icmp .ge 51, 3) := by decide +kernel
theorem dX3_clearRun_12 : decode cX3_clearRun 12 = .ok (.aload_n 0, 1) := by decide +kernel
theorem dX3_clearRun_13 : decode cX3_clearRun 13 = .ok (.iload_n 3, 1) := by decide +kernel
theorem dX3_clearRun_14 : decode cX3_clearRun 14 = .ok (.invokevirtual 76, 3) := by decide +kernel
theorem dX3_clearRun_17 : decode cX3_clearRun 17 = .ok (.ifCond .eq 43, 3) := by decide +kernel
theorem dX3_clearRun_20 : decode cX3_clearRun 20 = .ok (.aload_n 0, 1) := by decide +kernel
theorem dX3_clearRun_21 : decode cX3_clearRun 21 = .ok (.getfield 39, 3) := by decide +kernel
theorem dX3_clearRun_24 : decode cX3_clearRun 24 = .ok (.iload_n 3, 1) := by decide +kernel
theorem dX3_clearRun_25 : decode cX3_clearRun 25 = .ok (.iaload, 1) := by decide +kernel
theorem dX3_clearRun_26 : decode cX3_clearRun 26 = .ok (.ifCond .ne 34, 3) := by decide +kernel
theorem dX3_clearRun_29 : decode cX3_clearRun 29 = .ok (.iinc 2 1, 3) := by decide +kernel
theorem dX3_clearRun_32 : decode cX3_clearRun 32 = .ok (.iload_n 3, 1) := by decide +kernel
theorem dX3_clearRun_33 : decode cX3_clearRun 33 = .ok (.iconst 1, 1) := by decide +kernel
theorem dX3_clearRun_34 : decode cX3_clearRun 34 = .ok (.iadd, 1) := by decide +kernel
theorem dX3_clearRun_35 : decode cX3_clearRun 35 = .ok (.aload_n 0, 1) := by decide +kernel
theorem dX3_clearRun_36 : decode cX3_clearRun 36 = .ok (.getfield 48, 3) := by decide +kernel
theorem dX3_clearRun_39 : decode cX3_clearRun 39 = .ok (.if_icmp .ne 14, 3) := by decide +kernel
theorem dX3_clearRun_42 : decode cX3_clearRun 42 = .ok (.aload_n 0, 1) := by decide +kernel
theorem dX3_clearRun_43 : decode cX3_clearRun 43 = .ok (.getfield 52, 3) := by decide +kernel
theorem dX3_clearRun_46 : decode cX3_clearRun 46 = .ok (.ifCond .eq 7, 3) := by decide +kernel
theorem dX3_clearRun_49 : decode cX3_clearRun 49 = .ok (.iconst 0, 1) := by decide +kernel
theorem dX3_clearRun_50 : decode cX3_clearRun 50 = .ok (.goto 6, 3) := by decide +kernel
theorem dX3_clearRun_53 : decode cX3_clearRun 53 = .ok (.iload_n 3, 1) := by decide +kernel
theorem dX3_clearRun_54 : decode cX3_clearRun 54 = .ok (.iconst 1, 1) := by decide +kernel
theorem dX3_clearRun_55 : decode cX3_clearRun 55 = .ok (.iadd, 1) := by decide +kernel
theorem dX3_clearRun_56 : decode cX3_clearRun 56 = .ok (.istore_n 3, 1) := by decide +kernel
theorem dX3_clearRun_57 : decode cX3_clearRun 57 = .ok (.goto (-53), 3) := by decide +kernel
theorem dX3_clearRun_60 : decode cX3_clearRun 60 = .ok (.iload_n 2, 1) := by decide +kernel
theorem dX3_clearRun_61 : decode cX3_clearRun 61 = .ok (.ireturn, 1) := by decide +kernel
set_option maxRecDepth 20000 in
theorem ggX3_save_X3_put : GoodIn wsX3_save wsX3_put := goodIn_r _ [19, 20, 21, 22, 23] (by decide +kernel) (by decide +kernel)
set_option maxRecDepth 20000 in
theorem gX3_save_X3_put : GoodIn wsX3_save (va_wsS RX3 154 yX3_put wsX3_put) := goodIn_app (goodIn_of _ (by decide +kernel)) ggX3_save_X3_put
theorem dX3_save_0 : decode cX3_save 0 = .ok (.aload_n 1, 1) := by decide +kernel
theorem dX3_save_1 : decode cX3_save 1 = .ok (.arraylength, 1) := by decide +kernel
theorem dX3_save_2 : decode cX3_save 2 = .ok (.bipush 83, 2) := by decide +kernel
theorem dX3_save_4 : decode cX3_save 4 = .ok (.if_icmp .eq 4, 3) := by decide +kernel
theorem dX3_save_7 : decode cX3_save 7 = .ok (.return_, 1) := by decide +kernel
theorem dX3_save_8 : decode cX3_save 8 = .ok (.aload_n 1, 1) := by decide +kernel
theorem dX3_save_9 : decode cX3_save 9 = .ok (.iconst 0, 1) := by decide +kernel
theorem dX3_save_10 : decode cX3_save 10 = .ok (.aload_n 0, 1) := by decide +kernel
theorem dX3_save_11 : decode cX3_save 11 = .ok (.getfield 48, 3) := by decide +kernel
theorem dX3_save_14 : decode cX3_save 14 = .ok (.iastore, 1) := by decide +kernel
theorem dX3_save_15 : decode cX3_save 15 = .ok (.aload_n 1, 1) := by decide +kernel
theorem dX3_save_16 : decode cX3_save 16 = .ok (.iconst 1, 1) := by decide +kernel
theorem dX3_save_17 : decode cX3_save 17 = .ok (.aload_n 0, 1) := by decide +kernel
theorem dX3_save_18 : decode cX3_save 18 = .ok (.getfield 52, 3) := by decide +kernel
theorem dX3_save_21 : decode cX3_save 21 = .ok (.ifCond .eq 7, 3) := by decide +kernel
theorem dX3_save_24 : decode cX3_save 24 = .ok (.iconst 1, 1) := by decide +kernel
theorem dX3_save_25 : decode cX3_save 25 = .ok (.goto 4, 3) := by decide +kernel
theorem dX3_save_28 : decode cX3_save 28 = .ok (.iconst 0, 1) := by decide +kernel
theorem dX3_save_29 : decode cX3_save 29 = .ok (.iastore, 1) := by decide +kernel
theorem dX3_save_30 : decode cX3_save 30 = .ok (.aload_n 1, 1) := by decide +kernel
theorem dX3_save_31 : decode cX3_save 31 = .ok (.iconst 2, 1) := by decide +kernel
theorem dX3_save_32 : decode cX3_save 32 = .ok (.aload_n 0, 1) := by decide +kernel
theorem dX3_save_33 : decode cX3_save 33 = .ok (.getfield 56, 3) := by decide +kernel
theorem dX3_save_36 : decode cX3_save 36 = .ok (.iastore, 1) := by decide +kernel
theorem dX3_save_37 : decode cX3_save 37 = .ok (.iconst 3, 1) := by decide +kernel
theorem dX3_save_38 : decode cX3_save 38 = .ok (.istore_n 2, 1) := by decide +kernel
theorem dX3_save_39 : decode cX3_save 39 = .ok (.aload_n 0, 1) := by decide +kernel
theorem dX3_save_40 : decode cX3_save 40 = .ok (.getfield 11, 3) := by decide +kernel
theorem dX3_save_43 : decode cX3_save 43 = .ok (.aload_n 1, 1) := by decide +kernel
theorem dX3_save_44 : decode cX3_save 44 = .ok (.iload_n 2, 1) := by decide +kernel
theorem dX3_save_45 : decode cX3_save 45 = .ok (.invokestatic 154, 3) := by decide +kernel
theorem dX3_save_48 : decode cX3_save 48 = .ok (.istore_n 2, 1) := by decide +kernel
theorem dX3_save_49 : decode cX3_save 49 = .ok (.aload_n 0, 1) := by decide +kernel
theorem dX3_save_50 : decode cX3_save 50 = .ok (.getfield 15, 3) := by decide +kernel
theorem dX3_save_53 : decode cX3_save 53 = .ok (.aload_n 1, 1) := by decide +kernel
theorem dX3_save_54 : decode cX3_save 54 = .ok (.iload_n 2, 1) := by decide +kernel
theorem dX3_save_55 : decode cX3_save 55 = .ok (.invokestatic 154, 3) := by decide +kernel
theorem dX3_save_58 : decode cX3_save 58 = .ok (.istore_n 2, 1) := by decide +kernel
theorem dX3_save_59 : decode cX3_save 59 = .ok (.aload_n 0, 1) := by decide +kernel
theorem dX3_save_60 : decode cX3_save 60 = .ok (.getfield 18, 3) := by decide +kernel
theorem dX3_save_63 : decode cX3_save 63 = .ok (.aload_n 1, 1) := by decide +kernel
theorem dX3_save_64 : decode cX3_save 64 = .ok (.iload_n 2, 1) := by decide +kernel
theorem dX3_save_65 : decode cX3_save 65 = .ok (.invokestatic 154, 3) := by decide +kernel
theorem dX3_save_68 : decode cX3_save 68 = .ok (.istore_n 2, 1) := by decide +kernel
theorem dX3_save_69 : decode cX3_save 69 = .ok (.aload_n 0, 1) := by decide +kernel
theorem dX3_save_70 : decode cX3_save 70 = .ok (.getfield 21, 3) := by decide +kernel
theorem dX3_save_73 : decode cX3_save 73 = .ok (.aload_n 1, 1) := by decide +kernel
theorem dX3_save_74 : decode cX3_save 74 = .ok (.iload_n 2, 1) := by decide +kernel
theorem dX3_save_75 : decode cX3_save 75 = .ok (.invokestatic 154, 3) := by decide +kernel
theorem dX3_save_78 : decode cX3_save 78 = .ok (.istore_n 2, 1) := by decide +kernel
theorem dX3_save_79 : decode cX3_save 79 = .ok (.aload_n 0, 1) := by decide +kernel
theorem dX3_save_80 : decode cX3_save 80 = .ok (.getfield 24, 3) := by decide +kernel
theorem dX3_save_83 : decode cX3_save 83 = .ok (.aload_n 1, 1) := by decide +kernel
theorem dX3_save_84 : decode cX3_save 84 = .ok (.iload_n 2, 1) := by decide +kernel
theorem dX3_save_85 : decode cX3_save 85 = .ok (.invokestatic 154, 3) := by decide +kernel
theorem dX3_save_88 : decode cX3_save 88 = .ok (.istore_n 2, 1) := by decide +kernel
theorem dX3_save_89 : decode cX3_save 89 = .ok (.aload_n 0, 1) := by decide +kernel
theorem dX3_save_90 : decode cX3_save 90 = .ok (.getfield 27, 3) := by decide +kernel
theorem dX3_save_93 : decode cX3_save 93 = .ok (.aload_n 1, 1) := by decide +kernel
theorem dX3_save_94 : decode cX3_save 94 = .ok (.iload_n 2, 1) := by decide +kernel
theorem dX3_save_95 : decode cX3_save 95 = .ok (.invokestatic 154, 3) := by decide +kernel
theorem dX3_save_98 : decode cX3_save 98 = .ok (.istore_n 2, 1) := by decide +kernel
theorem dX3_save_99 : decode cX3_save 99 = .ok (.aload_n 0, 1) := by decide +kernel
theorem dX3_save_100 : decode cX3_save 100 = .ok (.getfield 30, 3) := by decide +kernel
theorem dX3_save_103 : decode cX3_save 103 = .ok (.aload_n 1, 1) := by decide +kernel
theorem dX3_save_104 : decode cX3_save 104 = .ok (.iload_n 2, 1) := by decide +kernel
theorem dX3_save_105 : decode cX3_save 105 = .ok (.invokestatic 154, 3) := by decide +kernel
theorem dX3_save_108 : decode cX3_save 108 = .ok (.istore_n 2, 1) := by decide +kernel
theorem dX3_save_109 : decode cX3_save 109 = .ok (.aload_n 0, 1) := by decide +kernel
theorem dX3_save_110 : decode cX3_save 110 = .ok (.getfield 33, 3) := by decide +kernel
theorem dX3_save_113 : decode cX3_save 113 = .ok (.aload_n 1, 1) := by decide +kernel
theorem dX3_save_114 : decode cX3_save 114 = .ok (.iload_n 2, 1) := by decide +kernel
theorem dX3_save_115 : decode cX3_save 115 = .ok (.invokestatic 154, 3) := by decide +kernel
theorem dX3_save_118 : decode cX3_save 118 = .ok (.istore_n 2, 1) := by decide +kernel
theorem dX3_save_119 : decode cX3_save 119 = .ok (.aload_n 0, 1) := by decide +kernel
theorem dX3_save_120 : decode cX3_save 120 = .ok (.getfield 36, 3) := by decide +kernel
theorem dX3_save_123 : decode cX3_save 123 = .ok (.aload_n 1, 1) := by decide +kernel
theorem dX3_save_124 : decode cX3_save 124 = .ok (.iload_n 2, 1) := by decide +kernel
theorem dX3_save_125 : decode cX3_save 125 = .ok (.invokestatic 154, 3) := by decide +kernel
theorem dX3_save_128 : decode cX3_save 128 = .ok (.istore_n 2, 1) := by decide +kernel
theorem dX3_save_129 : decode cX3_save 129 = .ok (.aload_n 0, 1) := by decide +kernel
theorem dX3_save_130 : decode cX3_save 130 = .ok (.getfield 39, 3) := by decide +kernel
theorem dX3_save_133 : decode cX3_save 133 = .ok (.aload_n 1, 1) := by decide +kernel
theorem dX3_save_134 : decode cX3_save 134 = .ok (.iload_n 2, 1) := by decide +kernel
theorem dX3_save_135 : decode cX3_save 135 = .ok (.invokestatic 154, 3) := by decide +kernel
theorem dX3_save_138 : decode cX3_save 138 = .ok (.istore_n 2, 1) := by decide +kernel
theorem dX3_save_139 : decode cX3_save 139 = .ok (.aload_n 0, 1) := by decide +kernel
theorem dX3_save_140 : decode cX3_save 140 = .ok (.getfield 42, 3) := by decide +kernel
theorem dX3_save_143 : decode cX3_save 143 = .ok (.aload_n 1, 1) := by decide +kernel
theorem dX3_save_144 : decode cX3_save 144 = .ok (.iload_n 2, 1) := by decide +kernel
theorem dX3_save_145 : decode cX3_save 145 = .ok (.invokestatic 154, 3) := by decide +kernel
theorem dX3_save_148 : decode cX3_save 148 = .ok (.istore_n 2, 1) := by decide +kernel
theorem dX3_save_149 : decode cX3_save 149 = .ok (.aload_n 0, 1) := by decide +kernel
theorem dX3_save_150 : decode cX3_save 150 = .ok (.getfield 45, 3) := by decide +kernel
theorem dX3_save_153 : decode cX3_save 153 = .ok (.aload_n 1, 1) := by decide +kernel
theorem dX3_save_154 : decode cX3_save 154 = .ok (.iload_n 2, 1) := by decide +kernel
theorem dX3_save_155 : decode cX3_save 155 = .ok (.invokestatic 154, 3) := by decide +kernel
theorem dX3_save_158 : decode cX3_save 158 = .ok (.pop, 1) := by decide +kernel
theorem dX3_save_159 : decode cX3_save 159 = .ok (.return_, 1) := by decide +kernel
theorem dX3_put_0 : decode cX3_put 0 = .ok (.iload_n 2, 1) := by decide +kernel
theorem dX3_put_1 : decode cX3_put 1 = .ok (.ifCond .lt 12, 3) := by decide +kernel
theorem dX3_put_4 : decode cX3_put 4 = .ok (.iload_n 2, 1) := by decide +kernel
theorem dX3_put_5 : decode cX3_put 5 = .ok (.aload_n 1, 1) := by decide +kernel
theorem dX3_put_6 : decode cX3_put 6 = .ok (.arraylength, 1) := by decide +kernel
theorem dX3_put_7 : decode cX3_put 7 = .ok (.aload_n 0, 1) := by decide +kernel
theorem dX3_put_8 : decode cX3_put 8 = .ok (.arraylength, 1) := by decide +kernel
theorem dX3_put_9 : decode cX3_put 9 = .ok (.isub, 1) := by decide +kernel
theorem dX3_put_10 : decode cX3_put 10 = .ok (.if_icmp .le 5, 3) := by decide +kernel
theorem dX3_put_13 : decode cX3_put 13 = .ok (.iload_n 2, 1) := by decide +kernel
theorem dX3_put_14 : decode cX3_put 14 = .ok (.ireturn, 1) := by decide +kernel
theorem dX3_put_15 : decode cX3_put 15 = .ok (.aload_n 0, 1) := by decide +kernel
theorem dX3_put_16 : decode cX3_put 16 = .ok (.iconst 0, 1) := by decide +kernel
theorem dX3_put_17 : decode cX3_put 17 = .ok (.aload_n 1, 1) := by decide +kernel
theorem dX3_put_18 : decode cX3_put 18 = .ok (.iload_n 2, 1) := by decide +kernel
theorem dX3_put_19 : decode cX3_put 19 = .ok (.aload_n 0, 1) := by decide +kernel
theorem dX3_put_20 : decode cX3_put 20 = .ok (.arraylength, 1) := by decide +kernel
theorem dX3_put_21 : decode cX3_put 21 = .ok (.invokestatic 158, 3) := by decide +kernel
theorem dX3_put_24 : decode cX3_put 24 = .ok (.iload_n 2, 1) := by decide +kernel
theorem dX3_put_25 : decode cX3_put 25 = .ok (.aload_n 0, 1) := by decide +kernel
theorem dX3_put_26 : decode cX3_put 26 = .ok (.arraylength, 1) := by decide +kernel
theorem dX3_put_27 : decode cX3_put 27 = .ok (.iadd, 1) := by decide +kernel
theorem dX3_put_28 : decode cX3_put 28 = .ok (.ireturn, 1) := by decide +kernel
set_option maxRecDepth 20000 in
theorem ggX3_load_X3_get : GoodIn wsX3_load wsX3_get := goodIn_r _ [19, 20, 21, 22, 23] (by decide +kernel) (by decide +kernel)
set_option maxRecDepth 20000 in
theorem gX3_load_X3_get : GoodIn wsX3_load (va_wsS RX3 164 yX3_get wsX3_get) := goodIn_app (goodIn_of _ (by decide +kernel)) ggX3_load_X3_get
theorem dX3_load_0 : decode cX3_load 0 = .ok (.aload_n 1, 1) := by decide +kernel
theorem dX3_load_1 : decode cX3_load 1 = .ok (.arraylength, 1) := by decide +kernel
theorem dX3_load_2 : decode cX3_load 2 = .ok (.bipush 83, 2) := by decide +kernel
theorem dX3_load_4 : decode cX3_load 4 = .ok (.if_icmp .eq 4, 3) := by decide +kernel
theorem dX3_load_7 : decode cX3_load 7 = .ok (.return_, 1) := by decide +kernel
theorem dX3_load_8 : decode cX3_load 8 = .ok (.aload_n 0, 1) := by decide +kernel
theorem dX3_load_9 : decode cX3_load 9 = .ok (.aload_n 1, 1) := by decide +kernel
theorem dX3_load_10 : decode cX3_load 10 = .ok (.iconst 0, 1) := by decide +kernel
theorem dX3_load_11 : decode cX3_load 11 = .ok (.iaload, 1) := by decide +kernel
theorem dX3_load_12 : decode cX3_load 12 = .ok (.putfield 48, 3) := by decide +kernel
theorem dX3_load_15 : decode cX3_load 15 = .ok (.aload_n 0, 1) := by decide +kernel
theorem dX3_load_16 : decode cX3_load 16 = .ok (.aload_n 1, 1) := by decide +kernel
theorem dX3_load_17 : decode cX3_load 17 = .ok (.iconst 1, 1) := by decide +kernel
theorem dX3_load_18 : decode cX3_load 18 = .ok (.iaload, 1) := by decide +kernel
theorem dX3_load_19 : decode cX3_load 19 = .ok (.iconst 1, 1) := by decide +kernel
theorem dX3_load_20 : decode cX3_load 20 = .ok (.if_icmp .ne 7, 3) := by decide +kernel
theorem dX3_load_23 : decode cX3_load 23 = .ok (.iconst 1, 1) := by decide +kernel
theorem dX3_load_24 : decode cX3_load 24 = .ok (.goto 4, 3) := by decide +kernel
theorem dX3_load_27 : decode cX3_load 27 = .ok (.iconst 0, 1) := by decide +kernel
theorem dX3_load_28 : decode cX3_load 28 = .ok (.putfield 52, 3) := by decide +kernel
theorem dX3_load_31 : decode cX3_load 31 = .ok (.aload_n 0, 1) := by decide +kernel
theorem dX3_load_32 : decode cX3_load 32 = .ok (.aload_n 1, 1) := by decide +kernel
theorem dX3_load_33 : decode cX3_load 33 = .ok (.iconst 2, 1) := by decide +kernel
theorem dX3_load_34 : decode cX3_load 34 = .ok (.iaload, 1) := by decide +kernel
theorem dX3_load_35 : decode cX3_load 35 = .ok (.putfield 56, 3) := by decide +kernel
theorem dX3_load_38 : decode cX3_load 38 = .ok (.iconst 3, 1) := by decide +kernel
theorem dX3_load_39 : decode cX3_load 39 = .ok (.istore_n 2, 1) := by decide +kernel
theorem dX3_load_40 : decode cX3_load 40 = .ok (.aload_n 0, 1) := by decide +kernel
theorem dX3_load_41 : decode cX3_load 41 = .ok (.getfield 11, 3) := by decide +kernel
theorem dX3_load_44 : decode cX3_load 44 = .ok (.aload_n 1, 1) := by decide +kernel
theorem dX3_load_45 : decode cX3_load 45 = .ok (.iload_n 2, 1) := by decide +kernel
theorem dX3_load_46 : decode cX3_load 46 = .ok (.invokestatic 164, 3) := by decide +kernel
theorem dX3_load_49 : decode cX3_load 49 = .ok (.istore_n 2, 1) := by decide +kernel
theorem dX3_load_50 : decode cX3_load 50 = .ok (.aload_n 0, 1) := by decide +kernel
theorem dX3_load_51 : decode cX3_load 51 = .ok (.getfield 15, 3) := by decide +kernel
theorem dX3_load_54 : decode cX3_load 54 = .ok (.aload_n 1, 1) := by decide +kernel
theorem dX3_load_55 : decode cX3_load 55 = .ok (.iload_n 2, 1) := by decide +kernel
theorem dX3_load_56 : decode cX3_load 56 = .ok (.invokestatic 164, 3) := by decide +kernel
theorem dX3_load_59 : decode cX3_load 59 = .ok (.istore_n 2, 1) := by decide +kernel
theorem dX3_load_60 : decode cX3_load 60 = .ok (.aload_n 0, 1) := by decide +kernel
theorem dX3_load_61 : decode cX3_load 61 = .ok (.getfield 18, 3) := by decide +kernel
theorem dX3_load_64 : decode cX3_load 64 = .ok (.aload_n 1, 1) := by decide +kernel
theorem dX3_load_65 : decode cX3_load 65 = .ok (.iload_n 2, 1) := by decide +kernel
theorem dX3_load_66 : decode cX3_load 66 = .ok (.invokestatic 164, 3) := by decide +kernel
theorem dX3_load_69 : decode cX3_load 69 = .ok (.istore_n 2, 1) := by decide +kernel
theorem dX3_load_70 : decode cX3_load 70 = .ok (.aload_n 0, 1) := by decide +kernel
theorem dX3_load_71 : decode cX3_load 71 = .ok (.getfield 21, 3) := by decide +kernel
theorem dX3_load_74 : decode cX3_load 74 = .ok (.aload_n 1, 1) := by decide +kernel
theorem dX3_load_75 : decode cX3_load 75 = .ok (.iload_n 2, 1) := by decide +kernel
theorem dX3_load_76 : decode cX3_load 76 = .ok (.invokestatic 164, 3) := by decide +kernel
theorem dX3_load_79 : decode cX3_load 79 = .ok (.istore_n 2, 1) := by decide +kernel
theorem dX3_load_80 : decode cX3_load 80 = .ok (.aload_n 0, 1) := by decide +kernel
theorem dX3_load_81 : decode cX3_load 81 = .ok (.getfield 24, 3) := by decide +kernel
theorem dX3_load_84 : decode cX3_load 84 = .ok (.aload_n 1, 1) := by decide +kernel
theorem dX3_load_85 : decode cX3_load 85 = .ok (.iload_n 2, 1) := by decide +kernel
theorem dX3_load_86 : decode cX3_load 86 = .ok (.invokestatic 164, 3) := by decide +kernel
theorem dX3_load_89 : decode cX3_load 89 = .ok (.istore_n 2, 1) := by decide +kernel
theorem dX3_load_90 : decode cX3_load 90 = .ok (.aload_n 0, 1) := by decide +kernel
theorem dX3_load_91 : decode cX3_load 91 = .ok (.getfield 27, 3) := by decide +kernel
theorem dX3_load_94 : decode cX3_load 94 = .ok (.aload_n 1, 1) := by decide +kernel
theorem dX3_load_95 : decode cX3_load 95 = .ok (.iload_n 2, 1) := by decide +kernel
theorem dX3_load_96 : decode cX3_load 96 = .ok (.invokestatic 164, 3) := by decide +kernel
theorem dX3_load_99 : decode cX3_load 99 = .ok (.istore_n 2, 1) := by decide +kernel
theorem dX3_load_100 : decode cX3_load 100 = .ok (.aload_n 0, 1) := by decide +kernel
theorem dX3_load_101 : decode cX3_load 101 = .ok (.getfield 30, 3) := by decide +kernel
theorem dX3_load_104 : decode cX3_load 104 = .ok (.aload_n 1, 1) := by decide +kernel
theorem dX3_load_105 : decode cX3_load 105 = .ok (.iload_n 2, 1) := by decide +kernel
theorem dX3_load_106 : decode cX3_load 106 = .ok (.invokestatic 164, 3) := by decide +kernel
theorem dX3_load_109 : decode cX3_load 109 = .ok (.istore_n 2, 1) := by decide +kernel
theorem dX3_load_110 : decode cX3_load 110 = .ok (.aload_n 0, 1) := by decide +kernel
theorem dX3_load_111 : decode cX3_load 111 = .ok (.getfield 33, 3) := by decide +kernel
theorem dX3_load_114 : decode cX3_load 114 = .ok (.aload_n 1, 1) := by decide +kernel
theorem dX3_load_115 : decode cX3_load 115 = .ok (.iload_n 2, 1) := by decide +kernel
theorem dX3_load_116 : decode cX3_load 116 = .ok (.invokestatic 164, 3) := by decide +kernel
theorem dX3_load_119 : decode cX3_load 119 = .ok (.istore_n 2, 1) := by decide +kernel
theorem dX3_load_120 : decode cX3_load 120 = .ok (.aload_n 0, 1) := by decide +kernel
theorem dX3_load_121 : decode cX3_load 121 = .ok (.getfield 36, 3) := by decide +kernel
theorem dX3_load_124 : decode cX3_load 124 = .ok (.aload_n 1, 1) := by decide +kernel
theorem dX3_load_125 : decode cX3_load 125 = .ok (.iload_n 2, 1) := by decide +kernel
theorem dX3_load_126 : decode cX3_load 126 = .ok (.invokestatic 164, 3) := by decide +kernel
theorem dX3_load_129 : decode cX3_load 129 = .ok (.istore_n 2, 1) := by decide +kernel
theorem dX3_load_130 : decode cX3_load 130 = .ok (.aload_n 0, 1) := by decide +kernel
theorem dX3_load_131 : decode cX3_load 131 = .ok (.getfield 39, 3) := by decide +kernel
theorem dX3_load_134 : decode cX3_load 134 = .ok (.aload_n 1, 1) := by decide +kernel
theorem dX3_load_135 : decode cX3_load 135 = .ok (.iload_n 2, 1) := by decide +kernel
theorem dX3_load_136 : decode cX3_load 136 = .ok (.invokestatic 164, 3) := by decide +kernel
theorem dX3_load_139 : decode cX3_load 139 = .ok (.istore_n 2, 1) := by decide +kernel
theorem dX3_load_140 : decode cX3_load 140 = .ok (.aload_n 0, 1) := by decide +kernel
theorem dX3_load_141 : decode cX3_load 141 = .ok (.getfield 42, 3) := by decide +kernel
theorem dX3_load_144 : decode cX3_load 144 = .ok (.aload_n 1, 1) := by decide +kernel
theorem dX3_load_145 : decode cX3_load 145 = .ok (.iload_n 2, 1) := by decide +kernel
theorem dX3_load_146 : decode cX3_load 146 = .ok (.invokestatic 164, 3) := by decide +kernel
theorem dX3_load_149 : decode cX3_load 149 = .ok (.istore_n 2, 1) := by decide +kernel
theorem dX3_load_150 : decode cX3_load 150 = .ok (.aload_n 0, 1) := by decide +kernel
theorem dX3_load_151 : decode cX3_load 151 = .ok (.getfield 45, 3) := by decide +kernel
theorem dX3_load_154 : decode cX3_load 154 = .ok (.aload_n 1, 1) := by decide +kernel
theorem dX3_load_155 : decode cX3_load 155 = .ok (.iload_n 2, 1) := by decide +kernel
theorem dX3_load_156 : decode cX3_load 156 = .ok (.invokestatic 164, 3) := by decide +kernel
theorem dX3_load_159 : decode cX3_load 159 = .ok (.pop, 1) := by decide +kernel
theorem dX3_load_160 : decode cX3_load 160 = .ok (.return_, 1) := by decide +kernel
theorem dX3_get_0 : decode cX3_get 0 = .ok (.iload_n 2, 1) := by decide +kernel
theorem dX3_get_1 : decode cX3_get 1 = .ok (.ifCond .lt 12, 3) := by decide +kernel
theorem dX3_get_4 : decode cX3_get 4 = .ok (.iload_n 2, 1) := by decide +kernel
theorem dX3_get_5 : decode cX3_get 5 = .ok (.aload_n 1, 1) := by decide +kernel
theorem dX3_get_6 : decode cX3_get 6 = .ok (.arraylength, 1) := by decide +kernel
theorem dX3_get_7 : decode cX3_get 7 = .ok (.aload_n 0, 1) := by decide +kernel
theorem dX3_get_8 : decode cX3_get 8 = .ok (.arraylength, 1) := by decide +kernel
theorem dX3_get_9 : decode cX3_get 9 = .ok (.isub, 1) := by decide +kernel
theorem dX3_get_10 : decode cX3_get 10 = .ok (.if_icmp .le 5, 3) := by decide +kernel
theorem dX3_get_13 : decode cX3_get 13 = .ok (.iload_n 2, 1) := by decide +kernel
theorem dX3_get_14 : decode cX3_get 14 = .ok (.ireturn, 1) := by decide +kernel
theorem dX3_get_15 : decode cX3_get 15 = .ok (.aload_n 1, 1) := by decide +kernel
theorem dX3_get_16 : decode cX3_get 16 = .ok (.iload_n 2, 1) := by decide +kernel
theorem dX3_get_17 : decode cX3_get 17 = .ok (.aload_n 0, 1) := by decide +kernel
theorem dX3_get_18 : decode cX3_get 18 = .ok (.iconst 0, 1) := by decide +kernel
theorem dX3_get_19 : decode cX3_get 19 = .ok (.aload_n 0, 1) := by decide +kernel
theorem dX3_get_20 : decode cX3_get 20 = .ok (.arraylength, 1) := by decide +kernel
theorem dX3_get_21 : decode cX3_get 21 = .ok (.invokestatic 158, 3) := by decide +kernel
theorem dX3_get_24 : decode cX3_get 24 = .ok (.iload_n 2, 1) := by decide +kernel
theorem dX3_get_25 : decode cX3_get 25 = .ok (.aload_n 0, 1) := by decide +kernel
theorem dX3_get_26 : decode cX3_get 26 = .ok (.arraylength, 1) := by decide +kernel
theorem dX3_get_27 : decode cX3_get 27 = .ok (.iadd, 1) := by decide +kernel
theorem dX3_get_28 : decode cX3_get 28 = .ok (.ireturn, 1) := by decide +kernel
theorem dX4_init_0 : decode cX4_init 0 = .ok (.aload_n 0, 1) := by decide +kernel
theorem dX4_init_1 : decode cX4_init 1 = .ok (.invokespecial 1, 3) := by decide +kernel
theorem dX4_init_4 : decode cX4_init 4 = .ok (.aload_n 0, 1) := by decide +kernel
theorem dX4_init_5 : decode cX4_init 5 = .ok (.bipush 16, 2) := by decide +kernel
theorem dX4_init_7 : decode cX4_init 7 = .ok (.bipush 83, 2) := by decide +kernel
theorem dX4_init_9 : decode cX4_init 9 = .ok (.multianewarray 11 2, 4) := by decide +kernel
theorem dX4_init_13 : decode cX4_init 13 = .ok (.putfield 13, 3) := by decide +kernel
theorem dX4_init_16 : decode cX4_init 16 = .ok (.return_, 1) := by decide +kernel
set_option maxRecDepth 20000 in
theorem ggX4_add_X3_save : GoodIn wsX4_add wsX3_save := goodIn_r _ [8, 9, 10, 11, 12, 13, 14, 15, 16, 17, 18, 19, 20, 21, 22, 23, 24, 25, 7, 26, 27, 28, 29, 30, 34, 35, 36, 37, 38, 39, 40, 41, 42, 43, 44, 45, 46, 47, 48] (by decide +kernel) (by decide +kernel)
set_option maxRecDepth 20000 in
theorem gX4_add_X3_save : GoodIn wsX4_add (wsV RX4 20 RX3 yX3_save wsX3_save) := goodIn_app (goodIn_of _ (by decide +kernel)) ggX4_add_X3_save
theorem dX4_add_0 : decode cX4_add 0 = .ok (.aload_n 1, 1) := by decide +kernel
theorem dX4_add_1 : decode cX4_add 1 = .ok (.aload_n 0, 1) := by decide +kernel
theorem dX4_add_2 : decode cX4_add 2 = .ok (.getfield 13, 3) := by decide +kernel
theorem dX4_add_5 : decode cX4_add 5 = .ok (.aload_n 0, 1) := by decide +kernel
theorem dX4_add_6 : decode cX4_add 6 = .ok (.getfield 16, 3) := by decide +kernel
theorem dX4_add_9 : decode cX4_add 9 = .ok (.aaload, 1) := by decide +kernel
theorem dX4_add_10 : decode cX4_add 10 = .ok (.invokevirtual 20, 3) := by decide +kernel
theorem dX4_add_13 : decode cX4_add 13 = .ok (.aload_n 0, 1) := by decide +kernel
theorem dX4_add_14 : decode cX4_add 14 = .ok (.aload_n 0, 1) := by decide +kernel
theorem dX4_add_15 : decode cX4_add 15 = .ok (.getfield 16, 3) := by decide +kernel
theorem dX4_add_18 : decode cX4_add 18 = .ok (.iconst 1, 1) := by decide +kernel
theorem dX4_add_19 : decode cX4_add 19 = .ok (.iadd, 1) := by decide +kernel
theorem dX4_add_20 : decode cX4_add 20 = .ok (.bipush 16, 2) := by decide +kernel
theorem dX4_add_22 : decode cX4_add 22 = .ok (.irem, 1) := by decide +kernel
theorem dX4_add_23 : decode cX4_add 23 = .ok (.putfield 16, 3) := by decide +kernel
theorem dX4_add_26 : decode cX4_add 26 = .ok (.aload_n 0, 1) := by decide +kernel
theorem dX4_add_27 : decode cX4_add 27 = .ok (.getfield 24, 3) := by decide +kernel
theorem dX4_add_30 : decode cX4_add 30 = .ok (.bipush 16, 2) := by decide +kernel
theorem dX4_add_32 : decode cX4_add 32 = .ok (.if_icmp .ge 13, 3) := by decide +kernel
theorem dX4_add_35 : decode cX4_add 35 = .ok (.aload_n 0, 1) := by decide +kernel
theorem dX4_add_36 : decode cX4_add 36 = .ok (.dup, 1) := by decide +kernel
theorem dX4_add_37 : decode cX4_add 37 = .ok (.getfield 24, 3) := by decide +kernel
theorem dX4_add_40 : decode cX4_add 40 = .ok (.iconst 1, 1) := by decide +kernel
theorem dX4_add_41 : decode cX4_add 41 = .ok (.iadd, 1) := by decide +kernel
theorem dX4_add_42 : decode cX4_add 42 = .ok (.putfield 24, 3) := by decide +kernel
theorem dX4_add_45 : decode cX4_add 45 = .ok (.return_, 1) := by decide +kernel
set_option maxRecDepth 20000 in
theorem ggX4_takeBack_X3_load : GoodIn wsX4_takeBack wsX3_load := goodIn_r _ [8, 9, 10, 11, 12, 13, 14, 15, 16, 17, 18, 19, 20, 21, 22, 23, 24, 25, 7, 26, 27, 28, 29, 30, 34, 35, 36, 37, 38, 39, 40, 41, 42, 43, 44, 45, 46, 47, 48] (by decide +kernel) (by decide +kernel)
set_option maxRecDepth 20000 in
theorem gX4_takeBack_X3_load : GoodIn wsX4_takeBack (wsV RX4 27 RX3 yX3_load wsX3_load) := goodIn_app (goodIn_of _ (by decide +kernel)) ggX4_takeBack_X3_load
theorem dX4_takeBack_0 : decode cX4_takeBack 0 = .ok (.iload_n 1, 1) := by decide +kernel
theorem dX4_takeBack_1 : decode cX4_takeBack 1 = .ok (.iconst 1, 1) := by decide +kernel
theorem dX4_takeBack_2 : decode cX4_takeBack 2 = .ok (.if_icmp .lt 11, 3) := by decide +kernel
theorem dX4_takeBack_5 : decode cX4_takeBack 5 = .ok (.iload_n 1, 1) := by decide +kernel
theorem dX4_takeBack_6 : decode cX4_takeBack 6 = .ok (.aload_n 0, 1) := by decide +kernel
theorem dX4_takeBack_7 : decode cX4_takeBack 7 = .ok (.getfield 24, 3) := by decide +kernel
theorem dX4_takeBack_10 : decode cX4_takeBack 10 = .ok (.if_icmp .le 4, 3) := by decide +kernel
theorem dX4_takeBack_13 : decode cX4_takeBack 13 = .ok (.return_, 1) := by decide +kernel
theorem dX4_takeBack_14 : decode cX4_takeBack 14 = .ok (.aload_n 0, 1) := by decide +kernel
theorem dX4_takeBack_15 : decode cX4_takeBack 15 = .ok (.aload_n 0, 1) := by decide +kernel
theorem dX4_takeBack_16 : decode cX4_takeBack 16 = .ok (.getfield 16, 3) := by decide +kernel
theorem dX4_takeBack_19 : decode cX4_takeBack 19 = .ok (.bipush 16, 2) := by decide +kernel
theorem dX4_takeBack_21 : decode cX4_takeBack 21 = .ok (.iadd, 1) := by decide +kernel
theorem dX4_takeBack_22 : decode cX4_takeBack 22 = .ok (.iload_n 1, 1) := by decide +kernel
theorem dX4_takeBack_23 : decode cX4_takeBack 23 = .ok (.isub, 1) := by decide +kernel
theorem dX4_takeBack_24 : decode cX4_takeBack 24 = .ok (.bipush 16, 2) := by decide +kernel
theorem dX4_takeBack_26 : decode cX4_takeBack 26 = .ok (.irem, 1) := by decide +kernel
theorem dX4_takeBack_27 : decode cX4_takeBack 27 = .ok (.putfield 16, 3) := by decide +kernel
theorem dX4_takeBack_30 : decode cX4_takeBack 30 = .ok (.aload_n 0, 1) := by decide +kernel
theorem dX4_takeBack_31 : decode cX4_takeBack 31 = .ok (.dup, 1) := by decide +kernel
theorem dX4_takeBack_32 : decode cX4_takeBack 32 = .ok (.getfield 24, 3) := by decide +kernel
theorem dX4_takeBack_35 : decode cX4_takeBack 35 = .ok (.iload_n 1, 1) := by decide +kernel
theorem dX4_takeBack_36 : decode cX4_takeBack 36 = .ok (.isub, 1) := by decide +kernel
theorem dX4_takeBack_37 : decode cX4_takeBack 37 = .ok (.putfield 24, 3) := by decide +kernel
theorem dX4_takeBack_40 : decode cX4_takeBack 40 = .ok (.aload_n 2, 1) := by decide +kernel
theorem dX4_takeBack_41 : decode cX4_takeBack 41 = .ok (.aload_n 0, 1) := by decide +kernel
theorem dX4_takeBack_42 : decode cX4_takeBack 42 = .ok (.getfield 13, 3) := by decide +kernel
theorem dX4_takeBack_45 : decode cX4_takeBack 45 = .ok (.aload_n 0, 1) := by decide +kernel
theorem dX4_takeBack_46 : decode cX4_takeBack 46 = .ok (.getfield 16, 3) := by decide +kernel
theorem dX4_takeBack_49 : decode cX4_takeBack 49 = .ok (.aaload, 1) := by decide +kernel
theorem dX4_takeBack_50 : decode cX4_takeBack 50 = .ok (.invokevirtual 27, 3) := by decide +kernel
theorem dX4_takeBack_53 : decode cX4_takeBack 53 = .ok (.return_, 1) := by decide +kernel
