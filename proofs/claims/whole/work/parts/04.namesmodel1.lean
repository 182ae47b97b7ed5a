theorem dX6_init_0 : decode cX6_init 0 = .ok (.aload_n 0, 1) := by decide +kernel
theorem dX6_init_1 : decode cX6_init 1 = .ok (.invokespecial 1, 3) := by decide +kernel
theorem dX6_init_4 : decode cX6_init 4 = .ok (.aload_n 0, 1) := by decide +kernel
theorem dX6_init_5 : decode cX6_init 5 = .ok (.sipush 1680, 3) := by decide +kernel
theorem dX6_init_8 : decode cX6_init 8 = .ok (.newarray .int, 2) := by decide +kernel
theorem dX6_init_10 : decode cX6_init 10 = .ok (.putfield 7, 3) := by decide +kernel
theorem dX6_init_13 : decode cX6_init 13 = .ok (.aload_n 0, 1) := by decide +kernel
theorem dX6_init_14 : decode cX6_init 14 = .ok (.bipush 20, 2) := by decide +kernel
theorem dX6_init_16 : decode cX6_init 16 = .ok (.newarray .int, 2) := by decide +kernel
theorem dX6_init_18 : decode cX6_init 18 = .ok (.putfield 13, 3) := by decide +kernel
theorem dX6_init_21 : decode cX6_init 21 = .ok (.aload_n 0, 1) := by decide +kernel
theorem dX6_init_22 : decode cX6_init 22 = .ok (.bipush 20, 2) := by decide +kernel
theorem dX6_init_24 : decode cX6_init 24 = .ok (.newarray .int, 2) := by decide +kernel
theorem dX6_init_26 : decode cX6_init 26 = .ok (.putfield 16, 3) := by decide +kernel
theorem dX6_init_29 : decode cX6_init 29 = .ok (.aload_n 0, 1) := by decide +kernel
theorem dX6_init_30 : decode cX6_init 30 = .ok (.getfield 7, 3) := by decide +kernel
theorem dX6_init_33 : decode cX6_init 33 = .ok (.iconst 0, 1) := by decide +kernel
theorem dX6_init_34 : decode cX6_init 34 = .ok (.iconst 3, 1) := by decide +kernel
theorem dX6_init_35 : decode cX6_init 35 = .ok (.iastore, 1) := by decide +kernel
theorem dX6_init_36 : decode cX6_init 36 = .ok (.return_, 1) := by decide +kernel
theorem dX6_in_0 : decode cX6_in 0 = .ok (.iload_n 0, 1) := by decide +kernel
theorem dX6_in_1 : decode cX6_in 1 = .ok (.iload_n 1, 1) := by decide +kernel
theorem dX6_in_2 : decode cX6_in 2 = .ok (.if_icmp .lt 12, 3) := by decide +kernel
theorem dX6_in_5 : decode cX6_in 5 = .ok (.iload_n 0, 1) := by decide +kernel
theorem dX6_in_6 : decode cX6_in 6 = .ok (.iload_n 2, 1) := by decide +kernel
theorem dX6_in_7 : decode cX6_in 7 = .ok (.if_icmp .gt 7, 3) := by decide +kernel
theorem dX6_in_10 : decode cX6_in 10 = .ok (.iconst 1, 1) := by decide +kernel
theorem dX6_in_11 : decode cX6_in 11 = .ok (.goto 4, 3) := by decide +kernel
theorem dX6_in_14 : decode cX6_in 14 = .ok (.iconst 0, 1) := by decide +kernel
theorem dX6_in_15 : decode cX6_in 15 = .ok (.ireturn, 1) := by decide +kernel
theorem dX6_has_0 : decode cX6_has 0 = .ok (.iload_n 0, 1) := by decide +kernel
theorem dX6_has_1 : decode cX6_has 1 = .ok (.iload_n 1, 1) := by decide +kernel
theorem dX6_has_2 : decode cX6_has 2 = .ok (.ishr, 1) := by decide +kernel
theorem dX6_has_3 : decode cX6_has 3 = .ok (.iconst 1, 1) := by decide +kernel
theorem dX6_has_4 : decode cX6_has 4 = .ok (.iand, 1) := by decide +kernel
theorem dX6_has_5 : decode cX6_has 5 = .ok (.iconst 1, 1) := by decide +kernel
theorem dX6_has_6 : decode cX6_has 6 = .ok (.if_icmp .ne 7, 3) := by decide +kernel
theorem dX6_has_9 : decode cX6_has 9 = .ok (.iconst 1, 1) := by decide +kernel
theorem dX6_has_10 : decode cX6_has 10 = .ok (.goto 4, 3) := by decide +kernel
theorem dX6_has_13 : decode cX6_has 13 = .ok (.iconst 0, 1) := by decide +kernel
theorem dX6_has_14 : decode cX6_has 14 = .ok (.ireturn, 1) := by decide +kernel
theorem dX6_copyRow_0 : decode cX6_copyRow 0 = .ok (.iconst 0, 1) := by decide +kernel
theorem dX6_copyRow_1 : decode cX6_copyRow 1 = .ok (.istore_n 3, 1) := by decide +kernel
theorem dX6_copyRow_2 : decode cX6_copyRow 2 = .ok (.iload_n 3, 1) := by decide +kernel
theorem dX6_copyRow_3 : decode cX6_copyRow 3 = .ok (.bipush 84, 2) := by decide +kernel
theorem dX6_copyRow_5 : decode cX6_copyRow 5 = .ok (.if_icmp .ge 25, 3) := by decide +kernel
theorem dX6_copyRow_8 : decode cX6_copyRow 8 = .ok (.aload_n 0, 1) := by decide +kernel
theorem dX6_copyRow_9 : decode cX6_copyRow 9 = .ok (.getfield 7, 3) := by decide +kernel
theorem dX6_copyRow_12 : decode cX6_copyRow 12 = .ok (.iload_n 2, 1) := by decide +kernel
theorem dX6_copyRow_13 : decode cX6_copyRow 13 = .ok (.iload_n 3, 1) := by decide +kernel
theorem dX6_copyRow_14 : decode cX6_copyRow 14 = .ok (.iadd, 1) := by decide +kernel
theorem dX6_copyRow_15 : decode cX6_copyRow 15 = .ok (.aload_n 0, 1) := by decide +kernel
theorem dX6_copyRow_16 : decode cX6_copyRow 16 = .ok (.getfield 7, 3) := by decide +kernel
theorem dX6_copyRow_19 : decode cX6_copyRow 19 = .ok (.iload_n 1, 1) := by decide +kernel
theorem dX6_copyRow_20 : decode cX6_copyRow 20 = .ok (.iload_n 3, 1) := by decide +kernel
theorem dX6_copyRow_21 : decode cX6_copyRow 21 = .ok (.iadd, 1) := by decide +kernel
theorem dX6_copyRow_22 : decode cX6_copyRow 22 = .ok (.iaload, 1) := by decide +kernel
theorem dX6_copyRow_23 : decode cX6_copyRow 23 = .ok (.iastore, 1) := by decide +kernel
theorem dX6_copyRow_24 : decode cX6_copyRow 24 = .ok (.iinc 3 1, 3) := by decide +kernel
theorem dX6_copyRow_27 : decode cX6_copyRow 27 = .ok (.goto (-25), 3) := by decide +kernel
theorem dX6_copyRow_30 : decode cX6_copyRow 30 = .ok (.return_, 1) := by decide +kernel
theorem dX6_heads_0 : decode cX6_heads 0 = .ok (.aload_n 0, 1) := by decide +kernel
theorem dX6_heads_1 : decode cX6_heads 1 = .ok (.getfield 7, 3) := by decide +kernel
theorem dX6_heads_4 : decode cX6_heads 4 = .ok (.iconst 1, 1) := by decide +kernel
theorem dX6_heads_5 : decode cX6_heads 5 = .ok (.iaload, 1) := by decide +kernel
theorem dX6_heads_6 : decode cX6_heads 6 = .ok (.iconst 1, 1) := by decide +kernel
theorem dX6_heads_7 : decode cX6_heads 7 = .ok (.if_icmp .ne 12, 3) := by decide +kernel
theorem dX6_heads_10 : decode cX6_heads 10 = .ok (.aload_n 0, 1) := by decide +kernel
theorem dX6_heads_11 : decode cX6_heads 11 = .ok (.getfield 7, 3) := by decide +kernel
theorem dX6_heads_14 : decode cX6_heads 14 = .ok (.iconst 0, 1) := by decide +kernel
theorem dX6_heads_15 : decode cX6_heads 15 = .ok (.iaload, 1) := by decide +kernel
theorem dX6_heads_16 : decode cX6_heads 16 = .ok (.goto 11, 3) := by decide +kernel
theorem dX6_heads_19 : decode cX6_heads 19 = .ok (.aload_n 0, 1) := by decide +kernel
theorem dX6_heads_20 : decode cX6_heads 20 = .ok (.getfield 7, 3) := by decide +kernel
theorem dX6_heads_23 : decode cX6_heads 23 = .ok (.iconst 0, 1) := by decide +kernel
theorem dX6_heads_24 : decode cX6_heads 24 = .ok (.iaload, 1) := by decide +kernel
theorem dX6_heads_25 : decode cX6_heads 25 = .ok (.iconst 1, 1) := by decide +kernel
theorem dX6_heads_26 : decode cX6_heads 26 = .ok (.iadd, 1) := by decide +kernel
theorem dX6_heads_27 : decode cX6_heads 27 = .ok (.ireturn, 1) := by decide +kernel
theorem dX6_leftOf_0 : decode cX6_leftOf 0 = .ok (.iload_n 1, 1) := by decide +kernel
theorem dX6_leftOf_1 : decode cX6_leftOf 1 = .ok (.ifCond .le 9, 3) := by decide +kernel
theorem dX6_leftOf_4 : decode cX6_leftOf 4 = .ok (.iload_n 1, 1) := by decide +kernel
theorem dX6_leftOf_5 : decode cX6_leftOf 5 = .ok (.iconst 1, 1) := by decide +kernel
theorem dX6_leftOf_6 : decode cX6_leftOf 6 = .ok (.isub, 1) := by decide +kernel
theorem dX6_leftOf_7 : decode cX6_leftOf 7 = .ok (.goto 25, 3) := by decide +kernel
theorem dX6_leftOf_10 : decode cX6_leftOf 10 = .ok (.aload_n 0, 1) := by decide +kernel
theorem dX6_leftOf_11 : decode cX6_leftOf 11 = .ok (.getfield 7, 3) := by decide +kernel
theorem dX6_leftOf_14 : decode cX6_leftOf 14 = .ok (.iconst 1, 1) := by decide +kernel
theorem dX6_leftOf_15 : decode cX6_leftOf 15 = .ok (.iaload, 1) := by decide +kernel
theorem dX6_leftOf_16 : decode cX6_leftOf 16 = .ok (.iconst 1, 1) := by decide +kernel
theorem dX6_leftOf_17 : decode cX6_leftOf 17 = .ok (.if_icmp .ne 14, 3) := by decide +kernel
theorem dX6_leftOf_20 : decode cX6_leftOf 20 = .ok (.aload_n 0, 1) := by decide +kernel
theorem dX6_leftOf_21 : decode cX6_leftOf 21 = .ok (.getfield 7, 3) := by decide +kernel
theorem dX6_leftOf_24 : decode cX6_leftOf 24 = .ok (.iconst 0, 1) := by decide +kernel
theorem dX6_leftOf_25 : decode cX6_leftOf 25 = .ok (.iaload, 1) := by decide +kernel
theorem dX6_leftOf_26 : decode cX6_leftOf 26 = .ok (.iconst 1, 1) := by decide +kernel
theorem dX6_leftOf_27 : decode cX6_leftOf 27 = .ok (.isub, 1) := by decide +kernel
theorem dX6_leftOf_28 : decode cX6_leftOf 28 = .ok (.goto 4, 3) := by decide +kernel
theorem dX6_leftOf_31 : decode cX6_leftOf 31 = .ok (.iconst (-1), 1) := by decide +kernel
theorem dX6_leftOf_32 : decode cX6_leftOf 32 = .ok (.ireturn, 1) := by decide +kernel
theorem dX6_rightOf_0 : decode cX6_rightOf 0 = .ok (.iload_n 1, 1) := by decide +kernel
theorem dX6_rightOf_1 : decode cX6_rightOf 1 = .ok (.aload_n 0, 1) := by decide +kernel
theorem dX6_rightOf_2 : decode cX6_rightOf 2 = .ok (.getfield 7, 3) := by decide +kernel
theorem dX6_rightOf_5 : decode cX6_rightOf 5 = .ok (.iconst 0, 1) := by decide +kernel
theorem dX6_rightOf_6 : decode cX6_rightOf 6 = .ok (.iaload, 1) := by decide +kernel
theorem dX6_rightOf_7 : decode cX6_rightOf 7 = .ok (.if_icmp .ge 7, 3) := by decide +kernel
theorem dX6_rightOf_10 : decode cX6_rightOf 10 = .ok (.iload_n 1, 1) := by decide +kernel
theorem dX6_rightOf_11 : decode cX6_rightOf 11 = .ok (.goto 4, 3) := by decide +kernel
theorem dX6_rightOf_14 : decode cX6_rightOf 14 = .ok (.iconst (-1), 1) := by decide +kernel
theorem dX6_rightOf_15 : decode cX6_rightOf 15 = .ok (.ireturn, 1) := by decide +kernel
theorem dX6_rightHead_0 : decode cX6_rightHead 0 = .ok (.aload_n 0, 1) := by decide +kernel
theorem dX6_rightHead_1 : decode cX6_rightHead 1 = .ok (.getfield 7, 3) := by decide +kernel
theorem dX6_rightHead_4 : decode cX6_rightHead 4 = .ok (.iconst 1, 1) := by decide +kernel
theorem dX6_rightHead_5 : decode cX6_rightHead 5 = .ok (.iaload, 1) := by decide +kernel
theorem dX6_rightHead_6 : decode cX6_rightHead 6 = .ok (.iconst 1, 1) := by decide +kernel
theorem dX6_rightHead_7 : decode cX6_rightHead 7 = .ok (.if_icmp .ne 16, 3) := by decide +kernel
theorem dX6_rightHead_10 : decode cX6_rightHead 10 = .ok (.iload_n 1, 1) := by decide +kernel
theorem dX6_rightHead_11 : decode cX6_rightHead 11 = .ok (.iconst 1, 1) := by decide +kernel
theorem dX6_rightHead_12 : decode cX6_rightHead 12 = .ok (.iadd, 1) := by decide +kernel
theorem dX6_rightHead_13 : decode cX6_rightHead 13 = .ok (.aload_n 0, 1) := by decide +kernel
theorem dX6_rightHead_14 : decode cX6_rightHead 14 = .ok (.getfield 7, 3) := by decide +kernel
theorem dX6_rightHead_17 : decode cX6_rightHead 17 = .ok (.iconst 0, 1) := by decide +kernel
theorem dX6_rightHead_18 : decode cX6_rightHead 18 = .ok (.iaload, 1) := by decide +kernel
theorem dX6_rightHead_19 : decode cX6_rightHead 19 = .ok (.irem, 1) := by decide +kernel
theorem dX6_rightHead_20 : decode cX6_rightHead 20 = .ok (.goto 6, 3) := by decide +kernel
theorem dX6_rightHead_23 : decode cX6_rightHead 23 = .ok (.iload_n 1, 1) := by decide +kernel
theorem dX6_rightHead_24 : decode cX6_rightHead 24 = .ok (.iconst 1, 1) := by decide +kernel
theorem dX6_rightHead_25 : decode cX6_rightHead 25 = .ok (.iadd, 1) := by decide +kernel
theorem dX6_rightHead_26 : decode cX6_rightHead 26 = .ok (.ireturn, 1) := by decide +kernel
set_option maxRecDepth 20000 in
theorem ggX6_isSection_X6_in : GoodIn wsX6_isSection wsX6_in := goodIn_r _ [5] (by decide +kernel) (by decide +kernel)
set_option maxRecDepth 20000 in
theorem gX6_isSection_X6_in : GoodIn wsX6_isSection (va_wsS RX6 19 yX6_in wsX6_in) := goodIn_app (goodIn_of _ (by decide +kernel)) ggX6_isSection_X6_in
theorem dX6_isSection_0 : decode cX6_isSection 0 = .ok (.iload_n 1, 1) := by decide +kernel
theorem dX6_isSection_1 : decode cX6_isSection 1 = .ok (.iconst 0, 1) := by decide +kernel
theorem dX6_isSection_2 : decode cX6_isSection 2 = .ok (.aload_n 0, 1) := by decide +kernel
theorem dX6_isSection_3 : decode cX6_isSection 3 = .ok (.getfield 7, 3) := by decide +kernel
theorem dX6_isSection_6 : decode cX6_isSection 6 = .ok (.iconst 0, 1) := by decide +kernel
theorem dX6_isSection_7 : decode cX6_isSection 7 = .ok (.iaload, 1) := by decide +kernel
theorem dX6_isSection_8 : decode cX6_isSection 8 = .ok (.iconst 1, 1) := by decide +kernel
theorem dX6_isSection_9 : decode cX6_isSection 9 = .ok (.isub, 1) := by decide +kernel
theorem dX6_isSection_10 : decode cX6_isSection 10 = .ok (.invokestatic 19, 3) := by decide +kernel
theorem dX6_isSection_13 : decode cX6_isSection 13 = .ok (.ireturn, 1) := by decide +kernel
set_option maxRecDepth 20000 in
theorem ggX6_isHead_X6_heads : GoodIn wsX6_isHead wsX6_heads := goodIn_r _ [5, 6, 10, 11, 12, 13, 14, 15] (by decide +kernel) (by decide +kernel)
set_option maxRecDepth 20000 in
theorem gX6_isHead_X6_heads : GoodIn wsX6_isHead (wsV RX6 23 RX6 yX6_heads wsX6_heads) := goodIn_app (goodIn_of _ (by decide +kernel)) ggX6_isHead_X6_heads
set_option maxRecDepth 20000 in
theorem ggX6_isHead_X6_in : GoodIn wsX6_isHead wsX6_in := goodIn_r _ [9] (by decide +kernel) (by decide +kernel)
set_option maxRecDepth 20000 in
theorem gX6_isHead_X6_in : GoodIn wsX6_isHead (va_wsS RX6 19 yX6_in wsX6_in) := goodIn_app (goodIn_of _ (by decide +kernel)) ggX6_isHead_X6_in
theorem dX6_isHead_0 : decode cX6_isHead 0 = .ok (.iload_n 1, 1) := by decide +kernel
theorem dX6_isHead_1 : decode cX6_isHead 1 = .ok (.iconst 0, 1) := by decide +kernel
theorem dX6_isHead_2 : decode cX6_isHead 2 = .ok (.aload_n 0, 1) := by decide +kernel
theorem dX6_isHead_3 : decode cX6_isHead 3 = .ok (.invokevirtual 23, 3) := by decide +kernel
theorem dX6_isHead_6 : decode cX6_isHead 6 = .ok (.iconst 1, 1) := by decide +kernel
theorem dX6_isHead_7 : decode cX6_isHead 7 = .ok (.isub, 1) := by decide +kernel
theorem dX6_isHead_8 : decode cX6_isHead 8 = .ok (.invokestatic 19, 3) := by decide +kernel
theorem dX6_isHead_11 : decode cX6_isHead 11 = .ok (.ireturn, 1) := by decide +kernel
set_option maxRecDepth 20000 in
theorem ggX6_isSet_X6_heads : GoodIn wsX6_isSet wsX6_heads := goodIn_r _ [5, 6, 10, 11, 12, 13, 14, 15] (by decide +kernel) (by decide +kernel)
set_option maxRecDepth 20000 in
theorem gX6_isSet_X6_heads : GoodIn wsX6_isSet (wsV RX6 23 RX6 yX6_heads wsX6_heads) := goodIn_app (goodIn_of _ (by decide +kernel)) ggX6_isSet_X6_heads
set_option maxRecDepth 20000 in
theorem ggX6_isSet_X6_in : GoodIn wsX6_isSet wsX6_in := goodIn_r _ [9] (by decide +kernel) (by decide +kernel)
set_option maxRecDepth 20000 in
theorem gX6_isSet_X6_in : GoodIn wsX6_isSet (va_wsS RX6 19 yX6_in wsX6_in) := goodIn_app (goodIn_of _ (by decide +kernel)) ggX6_isSet_X6_in
theorem dX6_isSet_0 : decode cX6_isSet 0 = .ok (.iload_n 1, 1) := by decide +kernel
theorem dX6_isSet_1 : decode cX6_isSet 1 = .ok (.iconst 0, 1) := by decide +kernel
theorem dX6_isSet_2 : decode cX6_isSet 2 = .ok (.iconst 1, 1) := by decide +kernel
theorem dX6_isSet_3 : decode cX6_isSet 3 = .ok (.aload_n 0, 1) := by decide +kernel
theorem dX6_isSet_4 : decode cX6_isSet 4 = .ok (.invokevirtual 23, 3) := by decide +kernel
theorem dX6_isSet_7 : decode cX6_isSet 7 = .ok (.ishl, 1) := by decide +kernel
theorem dX6_isSet_8 : decode cX6_isSet 8 = .ok (.iconst 1, 1) := by decide +kernel
theorem dX6_isSet_9 : decode cX6_isSet 9 = .ok (.isub, 1) := by decide +kernel
theorem dX6_isSet_10 : decode cX6_isSet 10 = .ok (.invokestatic 19, 3) := by decide +kernel
theorem dX6_isSet_13 : decode cX6_isSet 13 = .ok (.ireturn, 1) := by decide +kernel
set_option maxRecDepth 20000 in
theorem ggX6_hear_X6_rightOf : GoodIn wsX6_hear wsX6_rightOf := goodIn_r _ [6, 1, 11, 12, 13, 14, 15, 16] (by decide +kernel) (by decide +kernel)
set_option maxRecDepth 20000 in
theorem gX6_hear_X6_rightOf : GoodIn wsX6_hear (wsV RX6 27 RX6 yX6_rightOf wsX6_rightOf) := goodIn_app (goodIn_of _ (by decide +kernel)) ggX6_hear_X6_rightOf
set_option maxRecDepth 20000 in
theorem ggX6_hear_X6_leftOf : GoodIn wsX6_hear wsX6_leftOf := goodIn_r _ [10, 1, 11, 12, 13, 14, 15, 16] (by decide +kernel) (by decide +kernel)
set_option maxRecDepth 20000 in
theorem gX6_hear_X6_leftOf : GoodIn wsX6_hear (wsV RX6 31 RX6 yX6_leftOf wsX6_leftOf) := goodIn_app (goodIn_of _ (by decide +kernel)) ggX6_hear_X6_leftOf
theorem dX6_hear_0 : decode cX6_hear 0 = .ok (.iload_n 3, 1) := by decide +kernel
theorem dX6_hear_1 : decode cX6_hear 1 = .ok (.ifCond .eq 49, 3) := by decide +kernel
theorem dX6_hear_4 : decode cX6_hear 4 = .ok (.aload_n 0, 1) := by decide +kernel
theorem dX6_hear_5 : decode cX6_hear 5 = .ok (.getfield 7, 3) := by decide +kernel
theorem dX6_hear_8 : decode cX6_hear 8 = .ok (.iload_n 1, 1) := by decide +kernel
theorem dX6_hear_9 : decode cX6_hear 9 = .ok (.bipush 55, 2) := by decide +kernel
theorem dX6_hear_11 : decode cX6_hear 11 = .ok (.iadd, 1) := by decide +kernel
theorem dX6_hear_12 : decode cX6_hear 12 = .ok (.iload_n 2, 1) := by decide +kernel
theorem dX6_hear_13 : decode cX6_hear 13 = .ok (.iadd, 1) := by decide +kernel
theorem dX6_hear_14 : decode cX6_hear 14 = .ok (.aload_n 0, 1) := by decide +kernel
theorem dX6_hear_15 : decode cX6_hear 15 = .ok (.getfield 7, 3) := by decide +kernel
theorem dX6_hear_18 : decode cX6_hear 18 = .ok (.iload_n 1, 1) := by decide +kernel
theorem dX6_hear_19 : decode cX6_hear 19 = .ok (.bipush 55, 2) := by decide +kernel
theorem dX6_hear_21 : decode cX6_hear 21 = .ok (.iadd, 1) := by decide +kernel
theorem dX6_hear_22 : decode cX6_hear 22 = .ok (.iload_n 2, 1) := by decide +kernel
theorem dX6_hear_23 : decode cX6_hear 23 = .ok (.iadd, 1) := by decide +kernel
theorem dX6_hear_24 : decode cX6_hear 24 = .ok (.iaload, 1) := by decide +kernel
theorem dX6_hear_25 : decode cX6_hear 25 = .ok (.bipush 99, 2) := by decide +kernel
theorem dX6_hear_27 : decode cX6_hear 27 = .ok (.if_icmp .ge 19, 3) := by decide +kernel
theorem dX6_hear_30 : decode cX6_hear 30 = .ok (.aload_n 0, 1) := by decide +kernel
theorem dX6_hear_31 : decode cX6_hear 31 = .ok (.getfield 7, 3) := by decide +kernel
theorem dX6_hear_34 : decode cX6_hear 34 = .ok (.iload_n 1, 1) := by decide +kernel
theorem dX6_hear_35 : decode cX6_hear 35 = .ok (.bipush 55, 2) := by decide +kernel
theorem dX6_hear_37 : decode cX6_hear 37 = .ok (.iadd, 1) := by decide +kernel
theorem dX6_hear_38 : decode cX6_hear 38 = .ok (.iload_n 2, 1) := by decide +kernel
theorem dX6_hear_39 : decode cX6_hear 39 = .ok (.iadd, 1) := by decide +kernel
theorem dX6_hear_40 : decode cX6_hear 40 = .ok (.iaload, 1) := by decide +kernel
theorem dX6_hear_41 : decode cX6_hear 41 = .ok (.iconst 1, 1) := by decide +kernel
theorem dX6_hear_42 : decode cX6_hear 42 = .ok (.iadd, 1) := by decide +kernel
theorem dX6_hear_43 : decode cX6_hear 43 = .ok (.goto 5, 3) := by decide +kernel
theorem dX6_hear_46 : decode cX6_hear 46 = .ok (.bipush 99, 2) := by decide +kernel
theorem dX6_hear_48 : decode cX6_hear 48 = .ok (.iastore, 1) := by decide +kernel
theorem dX6_hear_49 : decode cX6_hear 49 = .ok (.return_, 1) := by decide +kernel
theorem dX6_hear_50 : decode cX6_hear 50 = .ok (.aload_n 0, 1) := by decide +kernel
theorem dX6_hear_51 : decode cX6_hear 51 = .ok (.getfield 7, 3) := by decide +kernel
theorem dX6_hear_54 : decode cX6_hear 54 = .ok (.iload_n 1, 1) := by decide +kernel
theorem dX6_hear_55 : decode cX6_hear 55 = .ok (.bipush 41, 2) := by decide +kernel
theorem dX6_hear_57 : decode cX6_hear 57 = .ok (.iadd, 1) := by decide +kernel
theorem dX6_hear_58 : decode cX6_hear 58 = .ok (.iload_n 2, 1) := by decide +kernel
theorem dX6_hear_59 : decode cX6_hear 59 = .ok (.iadd, 1) := by decide +kernel
theorem dX6_hear_60 : decode cX6_hear 60 = .ok (.iaload, 1) := by decide +kernel
theorem dX6_hear_61 : decode cX6_hear 61 = .ok (.bipush 16, 2) := by decide +kernel
theorem dX6_hear_63 : decode cX6_hear 63 = .ok (.irem, 1) := by decide +kernel
theorem dX6_hear_64 : decode cX6_hear 64 = .ok (.bipush 16, 2) := by decide +kernel
theorem dX6_hear_66 : decode cX6_hear 66 = .ok (.iadd, 1) := by decide +kernel
theorem dX6_hear_67 : decode cX6_hear 67 = .ok (.bipush 16, 2) := by decide +kernel
theorem dX6_hear_69 : decode cX6_hear 69 = .ok (.irem, 1) := by decide +kernel
theorem dX6_hear_70 : decode cX6_hear 70 = .ok (.istore 4, 2) := by decide +kernel
theorem dX6_hear_72 : decode cX6_hear 72 = .ok (.iload 4, 2) := by decide +kernel
theorem dX6_hear_74 : decode cX6_hear 74 = .ok (.aload_n 0, 1) := by decide +kernel
theorem dX6_hear_75 : decode cX6_hear 75 = .ok (.getfield 7, 3) := by decide +kernel
theorem dX6_hear_78 : decode cX6_hear 78 = .ok (.iload_n 1, 1) := by decide +kernel
theorem dX6_hear_79 : decode cX6_hear 79 = .ok (.bipush 48, 2) := by decide +kernel
theorem dX6_hear_81 : decode cX6_hear 81 = .ok (.iadd, 1) := by decide +kernel
theorem dX6_hear_82 : decode cX6_hear 82 = .ok (.iload_n 2, 1) := by decide +kernel
theorem dX6_hear_83 : decode cX6_hear 83 = .ok (.iadd, 1) := by decide +kernel
theorem dX6_hear_84 : decode cX6_hear 84 = .ok (.iaload, 1) := by decide +kernel
theorem dX6_hear_85 : decode cX6_hear 85 = .ok (.isub, 1) := by decide +kernel
theorem dX6_hear_86 : decode cX6_hear 86 = .ok (.bipush 16, 2) := by decide +kernel
theorem dX6_hear_88 : decode cX6_hear 88 = .ok (.iadd, 1) := by decide +kernel
theorem dX6_hear_89 : decode cX6_hear 89 = .ok (.bipush 16, 2) := by decide +kernel
theorem dX6_hear_91 : decode cX6_hear 91 = .ok (.irem, 1) := by decide +kernel
theorem dX6_hear_92 : decode cX6_hear 92 = .ok (.istore 5, 2) := by decide +kernel
theorem dX6_hear_94 : decode cX6_hear 94 = .ok (.iload 5, 2) := by decide +kernel
theorem dX6_hear_96 : decode cX6_hear 96 = .ok (.bipush 8, 2) := by decide +kernel
theorem dX6_hear_98 : decode cX6_hear 98 = .ok (.if_icmp .le 11, 3) := by decide +kernel
theorem dX6_hear_101 : decode cX6_hear 101 = .ok (.iload 5, 2) := by decide +kernel
theorem dX6_hear_103 : decode cX6_hear 103 = .ok (.bipush 16, 2) := by decide +kernel
theorem dX6_hear_105 : decode cX6_hear 105 = .ok (.isub, 1) := by decide +kernel
theorem dX6_hear_106 : decode cX6_hear 106 = .ok (.goto 5, 3) := by decide +kernel
theorem dX6_hear_109 : decode cX6_hear 109 = .ok (.iload 5, 2) := by decide +kernel
theorem dX6_hear_111 : decode cX6_hear 111 = .ok (.istore 5, 2) := by decide +kernel
theorem dX6_hear_113 : decode cX6_hear 113 = .ok (.aload_n 0, 1) := by decide +kernel
theorem dX6_hear_114 : decode cX6_hear 114 = .ok (.iload_n 2, 1) := by decide +kernel
theorem dX6_hear_115 : decode cX6_hear 115 = .ok (.invokevirtual 27, 3) := by decide +kernel
theorem dX6_hear_118 : decode cX6_hear 118 = .ok (.iconst (-1), 1) := by decide +kernel
theorem dX6_hear_119 : decode cX6_hear 119 = .ok (.if_icmp .eq 23, 3) := by decide +kernel
theorem dX6_hear_122 : decode cX6_hear 122 = .ok (.aload_n 0, 1) := by decide +kernel
theorem dX6_hear_123 : decode cX6_hear 123 = .ok (.getfield 7, 3) := by decide +kernel
theorem dX6_hear_126 : decode cX6_hear 126 = .ok (.iload_n 1, 1) := by decide +kernel
theorem dX6_hear_127 : decode cX6_hear 127 = .ok (.bipush 9, 2) := by decide +kernel
theorem dX6_hear_129 : decode cX6_hear 129 = .ok (.iadd, 1) := by decide +kernel
theorem dX6_hear_130 : decode cX6_hear 130 = .ok (.aload_n 0, 1) := by decide +kernel
theorem dX6_hear_131 : decode cX6_hear 131 = .ok (.iload_n 2, 1) := by decide +kernel
theorem dX6_hear_132 : decode cX6_hear 132 = .ok (.invokevirtual 27, 3) := by decide +kernel
theorem dX6_hear_135 : decode cX6_hear 135 = .ok (.iadd, 1) := by decide +kernel
theorem dX6_hear_136 : decode cX6_hear 136 = .ok (.dup2, 1) := by decide +kernel
theorem dX6_hear_137 : decode cX6_hear 137 = .ok (.iaload, 1) := by decide +kernel
theorem dX6_hear_138 : decode cX6_hear 138 = .ok (.iload 5, 2) := by decide +kernel
theorem dX6_hear_140 : decode cX6_hear 140 = .ok (.iadd, 1) := by decide +kernel
theorem dX6_hear_141 : decode cX6_hear 141 = .ok (.iastore, 1) := by decide +kernel
theorem dX6_hear_142 : decode cX6_hear 142 = .ok (.aload_n 0, 1) := by decide +kernel
theorem dX6_hear_143 : decode cX6_hear 143 = .ok (.iload_n 2, 1) := by decide +kernel
theorem dX6_hear_144 : decode cX6_hear 144 = .ok (.invokevirtual 31, 3) := by decide +kernel
theorem dX6_hear_147 : decode cX6_hear 147 = .ok (.iconst (-1), 1) := by decide +kernel
theorem dX6_hear_148 : decode cX6_hear 148 = .ok (.if_icmp .eq 23, 3) := by decide +kernel
theorem dX6_hear_151 : decode cX6_hear 151 = .ok (.aload_n 0, 1) := by decide +kernel
theorem dX6_hear_152 : decode cX6_hear 152 = .ok (.getfield 7, 3) := by decide +kernel
theorem dX6_hear_155 : decode cX6_hear 155 = .ok (.iload_n 1, 1) := by decide +kernel
theorem dX6_hear_156 : decode cX6_hear 156 = .ok (.bipush 9, 2) := by decide +kernel
theorem dX6_hear_158 : decode cX6_hear 158 = .ok (.iadd, 1) := by decide +kernel
theorem dX6_hear_159 : decode cX6_hear 159 = .ok (.aload_n 0, 1) := by decide +kernel
theorem dX6_hear_160 : decode cX6_hear 160 = .ok (.iload_n 2, 1) := by decide +kernel
theorem dX6_hear_161 : decode cX6_hear 161 = .ok (.invokevirtual 31, 3) := by decide +kernel
theorem dX6_hear_164 : decode cX6_hear 164 = .ok (.iadd, 1) := by decide +kernel
theorem dX6_hear_165 : decode cX6_hear 165 = .ok (.dup2, 1) := by decide +kernel
theorem dX6_hear_166 : decode cX6_hear 166 = .ok (.iaload, 1) := by decide +kernel
theorem dX6_hear_167 : decode cX6_hear 167 = .ok (.iload 5, 2) := by decide +kernel
theorem dX6_hear_169 : decode cX6_hear 169 = .ok (.isub, 1) := by decide +kernel
theorem dX6_hear_170 : decode cX6_hear 170 = .ok (.iastore, 1) := by decide +kernel
theorem dX6_hear_171 : decode cX6_hear 171 = .ok (.aload_n 0, 1) := by decide +kernel
theorem dX6_hear_172 : decode cX6_hear 172 = .ok (.getfield 7, 3) := by decide +kernel
theorem dX6_hear_175 : decode cX6_hear 175 = .ok (.iload_n 1, 1) := by decide +kernel
theorem dX6_hear_176 : decode cX6_hear 176 = .ok (.bipush 48, 2) := by decide +kernel
theorem dX6_hear_178 : decode cX6_hear 178 = .ok (.iadd, 1) := by decide +kernel
theorem dX6_hear_179 : decode cX6_hear 179 = .ok (.iload_n 2, 1) := by decide +kernel
theorem dX6_hear_180 : decode cX6_hear 180 = .ok (.iadd, 1) := by decide +kernel
theorem dX6_hear_181 : decode cX6_hear 181 = .ok (.iload 4, 2) := by decide +kernel
theorem dX6_hear_183 : decode cX6_hear 183 = .ok (.iastore, 1) := by decide +kernel
theorem dX6_hear_184 : decode cX6_hear 184 = .ok (.aload_n 0, 1) := by decide +kernel
theorem dX6_hear_185 : decode cX6_hear 185 = .ok (.getfield 7, 3) := by decide +kernel
theorem dX6_hear_188 : decode cX6_hear 188 = .ok (.iload_n 1, 1) := by decide +kernel
theorem dX6_hear_189 : decode cX6_hear 189 = .ok (.bipush 69, 2) := by decide +kernel
theorem dX6_hear_191 : decode cX6_hear 191 = .ok (.iadd, 1) := by decide +kernel
theorem dX6_hear_192 : decode cX6_hear 192 = .ok (.iload_n 2, 1) := by decide +kernel
theorem dX6_hear_193 : decode cX6_hear 193 = .ok (.iadd, 1) := by decide +kernel
theorem dX6_hear_194 : decode cX6_hear 194 = .ok (.aload_n 0, 1) := by decide +kernel
theorem dX6_hear_195 : decode cX6_hear 195 = .ok (.getfield 7, 3) := by decide +kernel
theorem dX6_hear_198 : decode cX6_hear 198 = .ok (.iload_n 1, 1) := by decide +kernel
theorem dX6_hear_199 : decode cX6_hear 199 = .ok (.bipush 62, 2) := by decide +kernel
theorem dX6_hear_201 : decode cX6_hear 201 = .ok (.iadd, 1) := by decide +kernel
theorem dX6_hear_202 : decode cX6_hear 202 = .ok (.iload_n 2, 1) := by decide +kernel
theorem dX6_hear_203 : decode cX6_hear 203 = .ok (.iadd, 1) := by decide +kernel
theorem dX6_hear_204 : decode cX6_hear 204 = .ok (.iaload, 1) := by decide +kernel
theorem dX6_hear_205 : decode cX6_hear 205 = .ok (.iastore, 1) := by decide +kernel
theorem dX6_hear_206 : decode cX6_hear 206 = .ok (.aload_n 0, 1) := by decide +kernel
theorem dX6_hear_207 : decode cX6_hear 207 = .ok (.getfield 7, 3) := by decide +kernel
theorem dX6_hear_210 : decode cX6_hear 210 = .ok (.iload_n 1, 1) := by decide +kernel
theorem dX6_hear_211 : decode cX6_hear 211 = .ok (.bipush 55, 2) := by decide +kernel
theorem dX6_hear_213 : decode cX6_hear 213 = .ok (.iadd, 1) := by decide +kernel
theorem dX6_hear_214 : decode cX6_hear 214 = .ok (.iload_n 2, 1) := by decide +kernel
theorem dX6_hear_215 : decode cX6_hear 215 = .ok (.iadd, 1) := by decide +kernel
theorem dX6_hear_216 : decode cX6_hear 216 = .ok (.iconst 0, 1) := by decide +kernel
theorem dX6_hear_217 : decode cX6_hear 217 = .ok (.iastore, 1) := by decide +kernel
theorem dX6_hear_218 : decode cX6_hear 218 = .ok (.return_, 1) := by decide +kernel
theorem dX6_isBad_0 : decode cX6_isBad 0 = .ok (.aload_n 0, 1) := by decide +kernel
theorem dX6_isBad_1 : decode cX6_isBad 1 = .ok (.getfield 7, 3) := by decide +kernel
theorem dX6_isBad_4 : decode cX6_isBad 4 = .ok (.iload_n 1, 1) := by decide +kernel
theorem dX6_isBad_5 : decode cX6_isBad 5 = .ok (.bipush 69, 2) := by decide +kernel
theorem dX6_isBad_7 : decode cX6_isBad 7 = .ok (.iadd, 1) := by decide +kernel
theorem dX6_isBad_8 : decode cX6_isBad 8 = .ok (.iload_n 2, 1) := by decide +kernel
theorem dX6_isBad_9 : decode cX6_isBad 9 = .ok (.iadd, 1) := by decide +kernel
theorem dX6_isBad_10 : decode cX6_isBad 10 = .ok (.iaload, 1) := by decide +kernel
theorem dX6_isBad_11 : decode cX6_isBad 11 = .ok (.iconst 1, 1) := by decide +kernel
theorem dX6_isBad_12 : decode cX6_isBad 12 = .ok (.if_icmp .eq 18, 3) := by decide +kernel
theorem dX6_isBad_15 : decode cX6_isBad 15 = .ok (.aload_n 0, 1) := by decide +kernel
theorem dX6_isBad_16 : decode cX6_isBad 16 = .ok (.getfield 7, 3) := by decide +kernel
theorem dX6_isBad_19 : decode cX6_isBad 19 = .ok (.iload_n 1, 1) := by decide +kernel
theorem dX6_isBad_20 : decode cX6_isBad 20 = .ok (.bipush 55, 2) := by decide +kernel
theorem dX6_isBad_22 : decode cX6_isBad 22 = .ok (.iadd, 1) := by decide +kernel
theorem dX6_isBad_23 : decode cX6_isBad 23 = .ok (.iload_n 2, 1) := by decide +kernel
theorem dX6_isBad_24 : decode cX6_isBad 24 = .ok (.iadd, 1) := by decide +kernel
theorem dX6_isBad_25 : decode cX6_isBad 25 = .ok (.iaload, 1) := by decide +kernel
theorem dX6_isBad_26 : decode cX6_isBad 26 = .ok (.iconst 3, 1) := by decide +kernel
theorem dX6_isBad_27 : decode cX6_isBad 27 = .ok (.if_icmp .le 7, 3) := by decide +kernel
theorem dX6_isBad_30 : decode cX6_isBad 30 = .ok (.iconst 1, 1) := by decide +kernel
theorem dX6_isBad_31 : decode cX6_isBad 31 = .ok (.goto 4, 3) := by decide +kernel
theorem dX6_isBad_34 : decode cX6_isBad 34 = .ok (.iconst 0, 1) := by decide +kernel
theorem dX6_isBad_35 : decode cX6_isBad 35 = .ok (.ireturn, 1) := by decide +kernel
set_option maxRecDepth 20000 in
theorem ggX6_hasBad_X6_isBad : GoodIn wsX6_hasBad wsX6_isBad := goodIn_r _ [5, 6, 11, 12, 13, 14, 15, 16] (by decide +kernel) (by decide +kernel)
set_option maxRecDepth 20000 in
theorem gX6_hasBad_X6_isBad : GoodIn wsX6_hasBad (wsV RX6 34 RX6 yX6_isBad wsX6_isBad) := goodIn_app (goodIn_of _ (by decide +kernel)) ggX6_hasBad_X6_isBad
set_option maxRecDepth 20000 in
theorem ggX6_hasBad_X6_rightHead : GoodIn wsX6_hasBad wsX6_rightHead := goodIn_r _ [10, 6, 11, 12, 13, 14, 15, 16] (by decide +kernel) (by decide +kernel)
set_option maxRecDepth 20000 in
theorem gX6_hasBad_X6_rightHead : GoodIn wsX6_hasBad (wsV RX6 38 RX6 yX6_rightHead wsX6_rightHead) := goodIn_app (goodIn_of _ (by decide +kernel)) ggX6_hasBad_X6_rightHead
theorem dX6_hasBad_0 : decode cX6_hasBad 0 = .ok (.aload_n 0, 1) := by decide +kernel
theorem dX6_hasBad_1 : decode cX6_hasBad 1 = .ok (.iload_n 1, 1) := by decide +kernel
theorem dX6_hasBad_2 : decode cX6_hasBad 2 = .ok (.iload_n 2, 1) := by decide +kernel
theorem dX6_hasBad_3 : decode cX6_hasBad 3 = .ok (.invokevirtual 34, 3) := by decide +kernel
theorem dX6_hasBad_6 : decode cX6_hasBad 6 = .ok (.ifCond .ne 16, 3) := by decide +kernel
theorem dX6_hasBad_9 : decode cX6_hasBad 9 = .ok (.aload_n 0, 1) := by decide +kernel
theorem dX6_hasBad_10 : decode cX6_hasBad 10 = .ok (.iload_n 1, 1) := by decide +kernel
theorem dX6_hasBad_11 : decode cX6_hasBad 11 = .ok (.aload_n 0, 1) := by decide +kernel
theorem dX6_hasBad_12 : decode cX6_hasBad 12 = .ok (.iload_n 2, 1) := by decide +kernel
theorem dX6_hasBad_13 : decode cX6_hasBad 13 = .ok (.invokevirtual 38, 3) := by decide +kernel
theorem dX6_hasBad_16 : decode cX6_hasBad 16 = .ok (.invokevirtual 34, 3) := by decide +kernel
theorem dX6_hasBad_19 : decode cX6_hasBad 19 = .ok (.ifCond .eq 7, 3) := by decide +kernel
theorem dX6_hasBad_22 : decode cX6_hasBad 22 = .ok (.iconst 1, 1) := by decide +kernel
theorem dX6_hasBad_23 : decode cX6_hasBad 23 = .ok (.goto 4, 3) := by decide +kernel
theorem dX6_hasBad_26 : decode cX6_hasBad 26 = .ok (.iconst 0, 1) := by decide +kernel
theorem dX6_hasBad_27 : decode cX6_hasBad 27 = .ok (.ireturn, 1) := by decide +kernel
set_option maxRecDepth 20000 in
theorem ggX6_isTrouble_X6_hasBad : GoodIn wsX6_isTrouble wsX6_hasBad := goodIn_r _ [6, 7, 8, 9, 5, 10, 1, 11, 12, 13, 14, 15, 16, 17, 18, 19, 20] (by decide +kernel) (by decide +kernel)
set_option maxRecDepth 20000 in
theorem gX6_isTrouble_X6_hasBad : GoodIn wsX6_isTrouble (wsV RX6 41 RX6 yX6_hasBad wsX6_hasBad) := goodIn_app (goodIn_of _ (by decide +kernel)) ggX6_isTrouble_X6_hasBad
theorem dX6_isTrouble_0 : decode cX6_isTrouble 0 = .ok (.aload_n 0, 1) := by decide +kernel
theorem dX6_isTrouble_1 : decode cX6_isTrouble 1 = .ok (.getfield 7, 3) := by decide +kernel
theorem dX6_isTrouble_4 : decode cX6_isTrouble 4 = .ok (.iload_n 1, 1) := by decide +kernel
theorem dX6_isTrouble_5 : decode cX6_isTrouble 5 = .ok (.bipush 9, 2) := by decide +kernel
theorem dX6_isTrouble_7 : decode cX6_isTrouble 7 = .ok (.iadd, 1) := by decide +kernel
theorem dX6_isTrouble_8 : decode cX6_isTrouble 8 = .ok (.iload_n 2, 1) := by decide +kernel
theorem dX6_isTrouble_9 : decode cX6_isTrouble 9 = .ok (.iadd, 1) := by decide +kernel
theorem dX6_isTrouble_10 : decode cX6_isTrouble 10 = .ok (.iaload, 1) := by decide +kernel
theorem dX6_isTrouble_11 : decode cX6_isTrouble 11 = .ok (.ifCond .lt 12, 3) := by decide +kernel
theorem dX6_isTrouble_14 : decode cX6_isTrouble 14 = .ok (.aload_n 0, 1) := by decide +kernel
theorem dX6_isTrouble_15 : decode cX6_isTrouble 15 = .ok (.iload_n 1, 1) := by decide +kernel
theorem dX6_isTrouble_16 : decode cX6_isTrouble 16 = .ok (.iload_n 2, 1) := by decide +kernel
theorem dX6_isTrouble_17 : decode cX6_isTrouble 17 = .ok (.invokevirtual 41, 3) := by decide +kernel
theorem dX6_isTrouble_20 : decode cX6_isTrouble 20 = .ok (.ifCond .eq 7, 3) := by decide +kernel
theorem dX6_isTrouble_23 : decode cX6_isTrouble 23 = .ok (.iconst 1, 1) := by decide +kernel
theorem dX6_isTrouble_24 : decode cX6_isTrouble 24 = .ok (.goto 4, 3) := by decide +kernel
theorem dX6_isTrouble_27 : decode cX6_isTrouble 27 = .ok (.iconst 0, 1) := by decide +kernel
theorem dX6_isTrouble_28 : decode cX6_isTrouble 28 = .ok (.ireturn, 1) := by decide +kernel
set_option maxRecDepth 20000 in
theorem ggX6_judgeOne_X6_isTrouble : GoodIn wsX6_judgeOne wsX6_isTrouble := goodIn_r _ [6, 1, 7, 8, 9, 5, 10, 11, 12, 13, 14, 15, 16, 17, 18, 23, 24, 25, 26, 27, 28] (by decide +kernel) (by decide +kernel)
set_option maxRecDepth 20000 in
theorem gX6_judgeOne_X6_isTrouble : GoodIn wsX6_judgeOne (wsV RX6 44 RX6 yX6_isTrouble wsX6_isTrouble) := goodIn_app (goodIn_of _ (by decide +kernel)) ggX6_judgeOne_X6_isTrouble
set_option maxRecDepth 20000 in
theorem ggX6_judgeOne_X6_heal : GoodIn wsX6_judgeOne wsX6_heal := goodIn_r _ [22, 1, 23, 24, 25, 26, 27, 28] (by decide +kernel) (by decide +kernel)
set_option maxRecDepth 20000 in
theorem gX6_judgeOne_X6_heal : GoodIn wsX6_judgeOne (wsV RX6 47 RX6 yX6_heal wsX6_heal) := goodIn_app (goodIn_of _ (by decide +kernel)) ggX6_judgeOne_X6_heal
theorem dX6_judgeOne_0 : decode cX6_judgeOne 0 = .ok (.aload_n 0, 1) := by decide +kernel
theorem dX6_judgeOne_1 : decode cX6_judgeOne 1 = .ok (.getfield 7, 3) := by decide +kernel
theorem dX6_judgeOne_4 : decode cX6_judgeOne 4 = .ok (.iload_n 1, 1) := by decide +kernel
theorem dX6_judgeOne_5 : decode cX6_judgeOne 5 = .ok (.iconst 3, 1) := by decide +kernel
theorem dX6_judgeOne_6 : decode cX6_judgeOne 6 = .ok (.iadd, 1) := by decide +kernel
theorem dX6_judgeOne_7 : decode cX6_judgeOne 7 = .ok (.iload_n 2, 1) := by decide +kernel
theorem dX6_judgeOne_8 : decode cX6_judgeOne 8 = .ok (.iadd, 1) := by decide +kernel
theorem dX6_judgeOne_9 : decode cX6_judgeOne 9 = .ok (.iaload, 1) := by decide +kernel
theorem dX6_judgeOne_10 : decode cX6_judgeOne 10 = .ok (.istore_n 3, 1) := by decide +kernel
theorem dX6_judgeOne_11 : decode cX6_judgeOne 11 = .ok (.aload_n 0, 1) := by decide +kernel
theorem dX6_judgeOne_12 : decode cX6_judgeOne 12 = .ok (.getfield 7, 3) := by decide +kernel
theorem dX6_judgeOne_15 : decode cX6_judgeOne 15 = .ok (.iload_n 1, 1) := by decide +kernel
theorem dX6_judgeOne_16 : decode cX6_judgeOne 16 = .ok (.bipush 9, 2) := by decide +kernel
theorem dX6_judgeOne_18 : decode cX6_judgeOne 18 = .ok (.iadd, 1) := by decide +kernel
theorem dX6_judgeOne_19 : decode cX6_judgeOne 19 = .ok (.iload_n 2, 1) := by decide +kernel
theorem dX6_judgeOne_20 : decode cX6_judgeOne 20 = .ok (.iadd, 1) := by decide +kernel
theorem dX6_judgeOne_21 : decode cX6_judgeOne 21 = .ok (.iaload, 1) := by decide +kernel
theorem dX6_judgeOne_22 : decode cX6_judgeOne 22 = .ok (.istore 4, 2) := by decide +kernel
theorem dX6_judgeOne_24 : decode cX6_judgeOne 24 = .ok (.aload_n 0, 1) := by decide +kernel
theorem dX6_judgeOne_25 : decode cX6_judgeOne 25 = .ok (.iload_n 1, 1) := by decide +kernel
theorem dX6_judgeOne_26 : decode cX6_judgeOne 26 = .ok (.iload_n 2, 1) := by decide +kernel
theorem dX6_judgeOne_27 : decode cX6_judgeOne 27 = .ok (.invokevirtual 44, 3) := by decide +kernel
theorem dX6_judgeOne_30 : decode cX6_judgeOne 30 = .ok (.ifCond .eq 29, 3) := by decide +kernel
theorem dX6_judgeOne_33 : decode cX6_judgeOne 33 = .ok (.aload_n 0, 1) := by decide +kernel
theorem dX6_judgeOne_34 : decode cX6_judgeOne 34 = .ok (.getfield 7, 3) := by decide +kernel
theorem dX6_judgeOne_37 : decode cX6_judgeOne 37 = .ok (.iload_n 1, 1) := by decide +kernel
theorem dX6_judgeOne_38 : decode cX6_judgeOne 38 = .ok (.iconst 3, 1) := by decide +kernel
theorem dX6_judgeOne_39 : decode cX6_judgeOne 39 = .ok (.iadd, 1) := by decide +kernel
theorem dX6_judgeOne_40 : decode cX6_judgeOne 40 = .ok (.iload_n 2, 1) := by decide +kernel
theorem dX6_judgeOne_41 : decode cX6_judgeOne 41 = .ok (.iadd, 1) := by decide +kernel
theorem dX6_judgeOne_42 : decode cX6_judgeOne 42 = .ok (.iconst 2, 1) := by decide +kernel
theorem dX6_judgeOne_43 : decode cX6_judgeOne 43 = .ok (.iastore, 1) := by decide +kernel
theorem dX6_judgeOne_44 : decode cX6_judgeOne 44 = .ok (.aload_n 0, 1) := by decide +kernel
theorem dX6_judgeOne_45 : decode cX6_judgeOne 45 = .ok (.getfield 7, 3) := by decide +kernel
theorem dX6_judgeOne_48 : decode cX6_judgeOne 48 = .ok (.iload_n 1, 1) := by decide +kernel
theorem dX6_judgeOne_49 : decode cX6_judgeOne 49 = .ok (.bipush 21, 2) := by decide +kernel
theorem dX6_judgeOne_51 : decode cX6_judgeOne 51 = .ok (.iadd, 1) := by decide +kernel
theorem dX6_judgeOne_52 : decode cX6_judgeOne 52 = .ok (.iload_n 2, 1) := by decide +kernel
theorem dX6_judgeOne_53 : decode cX6_judgeOne 53 = .ok (.iadd, 1) := by decide +kernel
theorem dX6_judgeOne_54 : decode cX6_judgeOne 54 = .ok (.iconst 0, 1) := by decide +kernel
theorem dX6_judgeOne_55 : decode cX6_judgeOne 55 = .ok (.iastore, 1) := by decide +kernel
theorem dX6_judgeOne_56 : decode cX6_judgeOne 56 = .ok (.goto 81, 3) := by decide +kernel
theorem dX6_judgeOne_59 : decode cX6_judgeOne 59 = .ok (.iload_n 3, 1) := by decide +kernel
theorem dX6_judgeOne_60 : decode cX6_judgeOne 60 = .ok (.ifCond .eq 8, 3) := by decide +kernel
theorem dX6_judgeOne_63 : decode cX6_judgeOne 63 = .ok (.iload_n 3, 1) := by decide +kernel
theorem dX6_judgeOne_64 : decode cX6_judgeOne 64 = .ok (.iconst 1, 1) := by decide +kernel
theorem dX6_judgeOne_65 : decode cX6_judgeOne 65 = .ok (.if_icmp .ne 26, 3) := by decide +kernel
theorem dX6_judgeOne_68 : decode cX6_judgeOne 68 = .ok (.aload_n 0, 1) := by decide +kernel
theorem dX6_judgeOne_69 : decode cX6_judgeOne 69 = .ok (.getfield 7, 3) := by decide +kernel
theorem dX6_judgeOne_72 : decode cX6_judgeOne 72 = .ok (.iload_n 1, 1) := by decide +kernel
theorem dX6_judgeOne_73 : decode cX6_judgeOne 73 = .ok (.iconst 3, 1) := by decide +kernel
theorem dX6_judgeOne_74 : decode cX6_judgeOne 74 = .ok (.iadd, 1) := by decide +kernel
theorem dX6_judgeOne_75 : decode cX6_judgeOne 75 = .ok (.iload_n 2, 1) := by decide +kernel
theorem dX6_judgeOne_76 : decode cX6_judgeOne 76 = .ok (.iadd, 1) := by decide +kernel
theorem dX6_judgeOne_77 : decode cX6_judgeOne 77 = .ok (.iload 4, 2) := by decide +kernel
theorem dX6_judgeOne_79 : decode cX6_judgeOne 79 = .ok (.ifCond .le 7, 3) := by decide +kernel
theorem dX6_judgeOne_82 : decode cX6_judgeOne 82 = .ok (.iconst 1, 1) := by decide +kernel
theorem dX6_judgeOne_83 : decode cX6_judgeOne 83 = .ok (.goto 4, 3) := by decide +kernel
theorem dX6_judgeOne_86 : decode cX6_judgeOne 86 = .ok (.iconst 0, 1) := by decide +kernel
theorem dX6_judgeOne_87 : decode cX6_judgeOne 87 = .ok (.iastore, 1) := by decide +kernel
theorem dX6_judgeOne_88 : decode cX6_judgeOne 88 = .ok (.goto 49, 3) := by decide +kernel
theorem dX6_judgeOne_91 : decode cX6_judgeOne 91 = .ok (.iload_n 3, 1) := by decide +kernel
theorem dX6_judgeOne_92 : decode cX6_judgeOne 92 = .ok (.iconst 3, 1) := by decide +kernel
theorem dX6_judgeOne_93 : decode cX6_judgeOne 93 = .ok (.if_icmp .ne 44, 3) := by decide +kernel
theorem dX6_judgeOne_96 : decode cX6_judgeOne 96 = .ok (.iload 4, 2) := by decide +kernel
theorem dX6_judgeOne_98 : decode cX6_judgeOne 98 = .ok (.ifCond .le 18, 3) := by decide +kernel
theorem dX6_judgeOne_101 : decode cX6_judgeOne 101 = .ok (.aload_n 0, 1) := by decide +kernel
theorem dX6_judgeOne_102 : decode cX6_judgeOne 102 = .ok (.getfield 7, 3) := by decide +kernel
theorem dX6_judgeOne_105 : decode cX6_judgeOne 105 = .ok (.iload_n 1, 1) := by decide +kernel
theorem dX6_judgeOne_106 : decode cX6_judgeOne 106 = .ok (.bipush 21, 2) := by decide +kernel
theorem dX6_judgeOne_108 : decode cX6_judgeOne 108 = .ok (.iadd, 1) := by decide +kernel
theorem dX6_judgeOne_109 : decode cX6_judgeOne 109 = .ok (.iload_n 2, 1) := by decide +kernel
theorem dX6_judgeOne_110 : decode cX6_judgeOne 110 = .ok (.iadd, 1) := by decide +kernel
theorem dX6_judgeOne_111 : decode cX6_judgeOne 111 = .ok (.iconst 1, 1) := by decide +kernel
theorem dX6_judgeOne_112 : decode cX6_judgeOne 112 = .ok (.iastore, 1) := by decide +kernel
theorem dX6_judgeOne_113 : decode cX6_judgeOne 113 = .ok (.goto 24, 3) := by decide +kernel
theorem dX6_judgeOne_116 : decode cX6_judgeOne 116 = .ok (.aload_n 0, 1) := by decide +kernel
theorem dX6_judgeOne_117 : decode cX6_judgeOne 117 = .ok (.getfield 7, 3) := by decide +kernel
theorem dX6_judgeOne_120 : decode cX6_judgeOne 120 = .ok (.iload_n 1, 1) := by decide +kernel
theorem dX6_judgeOne_121 : decode cX6_judgeOne 121 = .ok (.bipush 21, 2) := by decide +kernel
theorem dX6_judgeOne_123 : decode cX6_judgeOne 123 = .ok (.iadd, 1) := by decide +kernel
theorem dX6_judgeOne_124 : decode cX6_judgeOne 124 = .ok (.iload_n 2, 1) := by decide +kernel
theorem dX6_judgeOne_125 : decode cX6_judgeOne 125 = .ok (.iadd, 1) := by decide +kernel
theorem dX6_judgeOne_126 : decode cX6_judgeOne 126 = .ok (.iaload, 1) := by decide +kernel
theorem dX6_judgeOne_127 : decode cX6_judgeOne 127 = .ok (.iconst 1, 1) := by decide +kernel
theorem dX6_judgeOne_128 : decode cX6_judgeOne 128 = .ok (.if_icmp .ne 9, 3) := by decide +kernel
theorem dX6_judgeOne_131 : decode cX6_judgeOne 131 = .ok (.aload_n 0, 1) := by decide +kernel
theorem dX6_judgeOne_132 : decode cX6_judgeOne 132 = .ok (.iload_n 1, 1) := by decide +kernel
theorem dX6_judgeOne_133 : decode cX6_judgeOne 133 = .ok (.iload_n 2, 1) := by decide +kernel
theorem dX6_judgeOne_134 : decode cX6_judgeOne 134 = .ok (.invokevirtual 47, 3) := by decide +kernel
theorem dX6_judgeOne_137 : decode cX6_judgeOne 137 = .ok (.return_, 1) := by decide +kernel
theorem dX6_heal_0 : decode cX6_heal 0 = .ok (.aload_n 0, 1) := by decide +kernel
theorem dX6_heal_1 : decode cX6_heal 1 = .ok (.getfield 7, 3) := by decide +kernel
theorem dX6_heal_4 : decode cX6_heal 4 = .ok (.iload_n 1, 1) := by decide +kernel
theorem dX6_heal_5 : decode cX6_heal 5 = .ok (.bipush 9, 2) := by decide +kernel
theorem dX6_heal_7 : decode cX6_heal 7 = .ok (.iadd, 1) := by decide +kernel
theorem dX6_heal_8 : decode cX6_heal 8 = .ok (.iload_n 2, 1) := by decide +kernel
theorem dX6_heal_9 : decode cX6_heal 9 = .ok (.iadd, 1) := by decide +kernel
theorem dX6_heal_10 : decode cX6_heal 10 = .ok (.iconst 0, 1) := by decide +kernel
theorem dX6_heal_11 : decode cX6_heal 11 = .ok (.iastore, 1) := by decide +kernel
theorem dX6_heal_12 : decode cX6_heal 12 = .ok (.aload_n 0, 1) := by decide +kernel
theorem dX6_heal_13 : decode cX6_heal 13 = .ok (.getfield 7, 3) := by decide +kernel
theorem dX6_heal_16 : decode cX6_heal 16 = .ok (.iload_n 1, 1) := by decide +kernel
theorem dX6_heal_17 : decode cX6_heal 17 = .ok (.iconst 3, 1) := by decide +kernel
theorem dX6_heal_18 : decode cX6_heal 18 = .ok (.iadd, 1) := by decide +kernel
theorem dX6_heal_19 : decode cX6_heal 19 = .ok (.iload_n 2, 1) := by decide +kernel
theorem dX6_heal_20 : decode cX6_heal 20 = .ok (.iadd, 1) := by decide +kernel
theorem dX6_heal_21 : decode cX6_heal 21 = .ok (.iconst 0, 1) := by decide +kernel
theorem dX6_heal_22 : decode cX6_heal 22 = .ok (.iastore, 1) := by decide +kernel
theorem dX6_heal_23 : decode cX6_heal 23 = .ok (.aload_n 0, 1) := by decide +kernel
theorem dX6_heal_24 : decode cX6_heal 24 = .ok (.getfield 7, 3) := by decide +kernel
theorem dX6_heal_27 : decode cX6_heal 27 = .ok (.iload_n 1, 1) := by decide +kernel
theorem dX6_heal_28 : decode cX6_heal 28 = .ok (.bipush 21, 2) := by decide +kernel
theorem dX6_heal_30 : decode cX6_heal 30 = .ok (.iadd, 1) := by decide +kernel
theorem dX6_heal_31 : decode cX6_heal 31 = .ok (.iload_n 2, 1) := by decide +kernel
theorem dX6_heal_32 : decode cX6_heal 32 = .ok (.iadd, 1) := by decide +kernel
theorem dX6_heal_33 : decode cX6_heal 33 = .ok (.iconst 0, 1) := by decide +kernel
theorem dX6_heal_34 : decode cX6_heal 34 = .ok (.iastore, 1) := by decide +kernel
theorem dX6_heal_35 : decode cX6_heal 35 = .ok (.return_, 1) := by decide +kernel
set_option maxRecDepth 20000 in
theorem ggX6_isJoint_X6_leftOf : GoodIn wsX6_isJoint wsX6_leftOf := goodIn_r _ [5, 6, 11, 12, 13, 14, 15, 16] (by decide +kernel) (by decide +kernel)
set_option maxRecDepth 20000 in
theorem gX6_isJoint_X6_leftOf : GoodIn wsX6_isJoint (wsV RX6 31 RX6 yX6_leftOf wsX6_leftOf) := goodIn_app (goodIn_of _ (by decide +kernel)) ggX6_isJoint_X6_leftOf
set_option maxRecDepth 20000 in
theorem ggX6_isJoint_X6_rightOf : GoodIn wsX6_isJoint wsX6_rightOf := goodIn_r _ [10, 6, 11, 12, 13, 14, 15, 16] (by decide +kernel) (by decide +kernel)
set_option maxRecDepth 20000 in
theorem gX6_isJoint_X6_rightOf : GoodIn wsX6_isJoint (wsV RX6 27 RX6 yX6_rightOf wsX6_rightOf) := goodIn_app (goodIn_of _ (by decide +kernel)) ggX6_isJoint_X6_rightOf
theorem dX6_isJoint_0 : decode cX6_isJoint 0 = .ok (.aload_n 0, 1) := by decide +kernel
theorem dX6_isJoint_1 : decode cX6_isJoint 1 = .ok (.iload_n 1, 1) := by decide +kernel
theorem dX6_isJoint_2 : decode cX6_isJoint 2 = .ok (.invokevirtual 31, 3) := by decide +kernel
theorem dX6_isJoint_5 : decode cX6_isJoint 5 = .ok (.iconst (-1), 1) := by decide +kernel
theorem dX6_isJoint_6 : decode cX6_isJoint 6 = .ok (.if_icmp .eq 29, 3) := by decide +kernel
theorem dX6_isJoint_9 : decode cX6_isJoint 9 = .ok (.aload_n 0, 1) := by decide +kernel
theorem dX6_isJoint_10 : decode cX6_isJoint 10 = .ok (.iload_n 1, 1) := by decide +kernel
theorem dX6_isJoint_11 : decode cX6_isJoint 11 = .ok (.invokevirtual 27, 3) := by decide +kernel
theorem dX6_isJoint_14 : decode cX6_isJoint 14 = .ok (.iconst (-1), 1) := by decide +kernel
theorem dX6_isJoint_15 : decode cX6_isJoint 15 = .ok (.if_icmp .eq 20, 3) := by decide +kernel
theorem dX6_isJoint_18 : decode cX6_isJoint 18 = .ok (.aload_n 0, 1) := by decide +kernel
theorem dX6_isJoint_19 : decode cX6_isJoint 19 = .ok (.iload_n 1, 1) := by decide +kernel
theorem dX6_isJoint_20 : decode cX6_isJoint 20 = .ok (.invokevirtual 31, 3) := by decide +kernel
theorem dX6_isJoint_23 : decode cX6_isJoint 23 = .ok (.aload_n 0, 1) := by decide +kernel
theorem dX6_isJoint_24 : decode cX6_isJoint 24 = .ok (.iload_n 1, 1) := by decide +kernel
theorem dX6_isJoint_25 : decode cX6_isJoint 25 = .ok (.invokevirtual 27, 3) := by decide +kernel
theorem dX6_isJoint_28 : decode cX6_isJoint 28 = .ok (.if_icmp .eq 7, 3) := by decide +kernel
theorem dX6_isJoint_31 : decode cX6_isJoint 31 = .ok (.iconst 1, 1) := by decide +kernel
theorem dX6_isJoint_32 : decode cX6_isJoint 32 = .ok (.goto 4, 3) := by decide +kernel
theorem dX6_isJoint_35 : decode cX6_isJoint 35 = .ok (.iconst 0, 1) := by decide +kernel
theorem dX6_isJoint_36 : decode cX6_isJoint 36 = .ok (.ireturn, 1) := by decide +kernel
set_option maxRecDepth 20000 in
theorem ggX6_sweepOver_X6_leftOf : GoodIn wsX6_sweepOver wsX6_leftOf := goodIn_r _ [6, 1, 27, 28, 29, 30, 31, 32] (by decide +kernel) (by decide +kernel)
set_option maxRecDepth 20000 in
theorem gX6_sweepOver_X6_leftOf : GoodIn wsX6_sweepOver (wsV RX6 31 RX6 yX6_leftOf wsX6_leftOf) := goodIn_app (goodIn_of _ (by decide +kernel)) ggX6_sweepOver_X6_leftOf
set_option maxRecDepth 20000 in
theorem ggX6_sweepOver_X6_rightOf : GoodIn wsX6_sweepOver wsX6_rightOf := goodIn_r _ [10, 1, 27, 28, 29, 30, 31, 32] (by decide +kernel) (by decide +kernel)
set_option maxRecDepth 20000 in
theorem gX6_sweepOver_X6_rightOf : GoodIn wsX6_sweepOver (wsV RX6 27 RX6 yX6_rightOf wsX6_rightOf) := goodIn_app (goodIn_of _ (by decide +kernel)) ggX6_sweepOver_X6_rightOf
set_option maxRecDepth 20000 in
theorem ggX6_sweepOver_X6_hasBad : GoodIn wsX6_sweepOver wsX6_hasBad := goodIn_r _ [14, 15, 16, 17, 5, 18, 1, 19, 20, 21, 22, 27, 28, 29, 30, 31, 32] (by decide +kernel) (by decide +kernel)
set_option maxRecDepth 20000 in
theorem gX6_sweepOver_X6_hasBad : GoodIn wsX6_sweepOver (wsV RX6 41 RX6 yX6_hasBad wsX6_hasBad) := goodIn_app (goodIn_of _ (by decide +kernel)) ggX6_sweepOver_X6_hasBad
set_option maxRecDepth 20000 in
theorem ggX6_sweepOver_X6_heal : GoodIn wsX6_sweepOver wsX6_heal := goodIn_r _ [26, 1, 27, 28, 29, 30, 31, 32] (by decide +kernel) (by decide +kernel)
set_option maxRecDepth 20000 in
theorem gX6_sweepOver_X6_heal : GoodIn wsX6_sweepOver (wsV RX6 47 RX6 yX6_heal wsX6_heal) := goodIn_app (goodIn_of _ (by decide +kernel)) ggX6_sweepOver_X6_heal
theorem dX6_sweepOver_0 : decode cX6_sweepOver 0 = .ok (.aload_n 0, 1) := by decide +kernel
theorem dX6_sweepOver_1 : decode cX6_sweepOver 1 = .ok (.iload_n 2, 1) := by decide +kernel
theorem dX6_sweepOver_2 : decode cX6_sweepOver 2 = .ok (.invokevirtual 31, 3) := by decide +kernel
theorem dX6_sweepOver_5 : decode cX6_sweepOver 5 = .ok (.istore_n 3, 1) := by decide +kernel
theorem dX6_sweepOver_6 : decode cX6_sweepOver 6 = .ok (.aload_n 0, 1) := by decide +kernel
theorem dX6_sweepOver_7 : decode cX6_sweepOver 7 = .ok (.iload_n 2, 1) := by decide +kernel
theorem dX6_sweepOver_8 : decode cX6_sweepOver 8 = .ok (.invokevirtual 27, 3) := by decide +kernel
theorem dX6_sweepOver_11 : decode cX6_sweepOver 11 = .ok (.istore 4, 2) := by decide +kernel
theorem dX6_sweepOver_13 : decode cX6_sweepOver 13 = .ok (.aload_n 0, 1) := by decide +kernel
theorem dX6_sweepOver_14 : decode cX6_sweepOver 14 = .ok (.getfield 7, 3) := by decide +kernel
theorem dX6_sweepOver_17 : decode cX6_sweepOver 17 = .ok (.iload_n 1, 1) := by decide +kernel
theorem dX6_sweepOver_18 : decode cX6_sweepOver 18 = .ok (.iconst 3, 1) := by decide +kernel
theorem dX6_sweepOver_19 : decode cX6_sweepOver 19 = .ok (.iadd, 1) := by decide +kernel
theorem dX6_sweepOver_20 : decode cX6_sweepOver 20 = .ok (.iload_n 3, 1) := by decide +kernel
theorem dX6_sweepOver_21 : decode cX6_sweepOver 21 = .ok (.iadd, 1) := by decide +kernel
theorem dX6_sweepOver_22 : decode cX6_sweepOver 22 = .ok (.iaload, 1) := by decide +kernel
theorem dX6_sweepOver_23 : decode cX6_sweepOver 23 = .ok (.iconst 2, 1) := by decide +kernel
theorem dX6_sweepOver_24 : decode cX6_sweepOver 24 = .ok (.if_icmp .eq 31, 3) := by decide +kernel
theorem dX6_sweepOver_27 : decode cX6_sweepOver 27 = .ok (.aload_n 0, 1) := by decide +kernel
theorem dX6_sweepOver_28 : decode cX6_sweepOver 28 = .ok (.getfield 7, 3) := by decide +kernel
theorem dX6_sweepOver_31 : decode cX6_sweepOver 31 = .ok (.iload_n 1, 1) := by decide +kernel
theorem dX6_sweepOver_32 : decode cX6_sweepOver 32 = .ok (.iconst 3, 1) := by decide +kernel
theorem dX6_sweepOver_33 : decode cX6_sweepOver 33 = .ok (.iadd, 1) := by decide +kernel
theorem dX6_sweepOver_34 : decode cX6_sweepOver 34 = .ok (.iload 4, 2) := by decide +kernel
theorem dX6_sweepOver_36 : decode cX6_sweepOver 36 = .ok (.iadd, 1) := by decide +kernel
theorem dX6_sweepOver_37 : decode cX6_sweepOver 37 = .ok (.iaload, 1) := by decide +kernel
theorem dX6_sweepOver_38 : decode cX6_sweepOver 38 = .ok (.iconst 2, 1) := by decide +kernel
theorem dX6_sweepOver_39 : decode cX6_sweepOver 39 = .ok (.if_icmp .eq 16, 3) := by decide +kernel
theorem dX6_sweepOver_42 : decode cX6_sweepOver 42 = .ok (.aload_n 0, 1) := by decide +kernel
theorem dX6_sweepOver_43 : decode cX6_sweepOver 43 = .ok (.getfield 7, 3) := by decide +kernel
theorem dX6_sweepOver_46 : decode cX6_sweepOver 46 = .ok (.iload_n 1, 1) := by decide +kernel
theorem dX6_sweepOver_47 : decode cX6_sweepOver 47 = .ok (.bipush 76, 2) := by decide +kernel
theorem dX6_sweepOver_49 : decode cX6_sweepOver 49 = .ok (.iadd, 1) := by decide +kernel
theorem dX6_sweepOver_50 : decode cX6_sweepOver 50 = .ok (.iload_n 2, 1) := by decide +kernel
theorem dX6_sweepOver_51 : decode cX6_sweepOver 51 = .ok (.iadd, 1) := by decide +kernel
theorem dX6_sweepOver_52 : decode cX6_sweepOver 52 = .ok (.iconst 0, 1) := by decide +kernel
theorem dX6_sweepOver_53 : decode cX6_sweepOver 53 = .ok (.iastore, 1) := by decide +kernel
theorem dX6_sweepOver_54 : decode cX6_sweepOver 54 = .ok (.return_, 1) := by decide +kernel
theorem dX6_sweepOver_55 : decode cX6_sweepOver 55 = .ok (.aload_n 0, 1) := by decide +kernel
theorem dX6_sweepOver_56 : decode cX6_sweepOver 56 = .ok (.getfield 7, 3) := by decide +kernel
theorem dX6_sweepOver_59 : decode cX6_sweepOver 59 = .ok (.iload_n 1, 1) := by decide +kernel
theorem dX6_sweepOver_60 : decode cX6_sweepOver 60 = .ok (.bipush 9, 2) := by decide +kernel
theorem dX6_sweepOver_62 : decode cX6_sweepOver 62 = .ok (.iadd, 1) := by decide +kernel
theorem dX6_sweepOver_63 : decode cX6_sweepOver 63 = .ok (.iload_n 3, 1) := by decide +kernel
theorem dX6_sweepOver_64 : decode cX6_sweepOver 64 = .ok (.iadd, 1) := by decide +kernel
theorem dX6_sweepOver_65 : decode cX6_sweepOver 65 = .ok (.iaload, 1) := by decide +kernel
theorem dX6_sweepOver_66 : decode cX6_sweepOver 66 = .ok (.aload_n 0, 1) := by decide +kernel
theorem dX6_sweepOver_67 : decode cX6_sweepOver 67 = .ok (.getfield 7, 3) := by decide +kernel
theorem dX6_sweepOver_70 : decode cX6_sweepOver 70 = .ok (.iload_n 1, 1) := by decide +kernel
theorem dX6_sweepOver_71 : decode cX6_sweepOver 71 = .ok (.bipush 9, 2) := by decide +kernel
theorem dX6_sweepOver_73 : decode cX6_sweepOver 73 = .ok (.iadd, 1) := by decide +kernel
theorem dX6_sweepOver_74 : decode cX6_sweepOver 74 = .ok (.iload 4, 2) := by decide +kernel
theorem dX6_sweepOver_76 : decode cX6_sweepOver 76 = .ok (.iadd, 1) := by decide +kernel
theorem dX6_sweepOver_77 : decode cX6_sweepOver 77 = .ok (.iaload, 1) := by decide +kernel
theorem dX6_sweepOver_78 : decode cX6_sweepOver 78 = .ok (.iadd, 1) := by decide +kernel
theorem dX6_sweepOver_79 : decode cX6_sweepOver 79 = .ok (.istore 5, 2) := by decide +kernel
theorem dX6_sweepOver_81 : decode cX6_sweepOver 81 = .ok (.iload 5, 2) := by decide +kernel
theorem dX6_sweepOver_83 : decode cX6_sweepOver 83 = .ok (.ifCond .le 18, 3) := by decide +kernel
theorem dX6_sweepOver_86 : decode cX6_sweepOver 86 = .ok (.aload_n 0, 1) := by decide +kernel
theorem dX6_sweepOver_87 : decode cX6_sweepOver 87 = .ok (.getfield 7, 3) := by decide +kernel
theorem dX6_sweepOver_90 : decode cX6_sweepOver 90 = .ok (.iload_n 1, 1) := by decide +kernel
theorem dX6_sweepOver_91 : decode cX6_sweepOver 91 = .ok (.bipush 76, 2) := by decide +kernel
theorem dX6_sweepOver_93 : decode cX6_sweepOver 93 = .ok (.iadd, 1) := by decide +kernel
theorem dX6_sweepOver_94 : decode cX6_sweepOver 94 = .ok (.iload_n 2, 1) := by decide +kernel
theorem dX6_sweepOver_95 : decode cX6_sweepOver 95 = .ok (.iadd, 1) := by decide +kernel
theorem dX6_sweepOver_96 : decode cX6_sweepOver 96 = .ok (.iconst 1, 1) := by decide +kernel
theorem dX6_sweepOver_97 : decode cX6_sweepOver 97 = .ok (.iastore, 1) := by decide +kernel
theorem dX6_sweepOver_98 : decode cX6_sweepOver 98 = .ok (.goto 67, 3) := by decide +kernel
theorem dX6_sweepOver_101 : decode cX6_sweepOver 101 = .ok (.iload 5, 2) := by decide +kernel
theorem dX6_sweepOver_103 : decode cX6_sweepOver 103 = .ok (.ifCond .ne 62, 3) := by decide +kernel
theorem dX6_sweepOver_106 : decode cX6_sweepOver 106 = .ok (.aload_n 0, 1) := by decide +kernel
theorem dX6_sweepOver_107 : decode cX6_sweepOver 107 = .ok (.getfield 7, 3) := by decide +kernel
theorem dX6_sweepOver_110 : decode cX6_sweepOver 110 = .ok (.iload_n 1, 1) := by decide +kernel
theorem dX6_sweepOver_111 : decode cX6_sweepOver 111 = .ok (.bipush 76, 2) := by decide +kernel
theorem dX6_sweepOver_113 : decode cX6_sweepOver 113 = .ok (.iadd, 1) := by decide +kernel
theorem dX6_sweepOver_114 : decode cX6_sweepOver 114 = .ok (.iload_n 2, 1) := by decide +kernel
theorem dX6_sweepOver_115 : decode cX6_sweepOver 115 = .ok (.iadd, 1) := by decide +kernel
theorem dX6_sweepOver_116 : decode cX6_sweepOver 116 = .ok (.iaload, 1) := by decide +kernel
theorem dX6_sweepOver_117 : decode cX6_sweepOver 117 = .ok (.iconst 1, 1) := by decide +kernel
theorem dX6_sweepOver_118 : decode cX6_sweepOver 118 = .ok (.if_icmp .ne 47, 3) := by decide +kernel
theorem dX6_sweepOver_121 : decode cX6_sweepOver 121 = .ok (.aload_n 0, 1) := by decide +kernel
theorem dX6_sweepOver_122 : decode cX6_sweepOver 122 = .ok (.iload_n 1, 1) := by decide +kernel
theorem dX6_sweepOver_123 : decode cX6_sweepOver 123 = .ok (.iload_n 3, 1) := by decide +kernel
theorem dX6_sweepOver_124 : decode cX6_sweepOver 124 = .ok (.invokevirtual 41, 3) := by decide +kernel
theorem dX6_sweepOver_127 : decode cX6_sweepOver 127 = .ok (.ifCond .ne 38, 3) := by decide +kernel
theorem dX6_sweepOver_130 : decode cX6_sweepOver 130 = .ok (.aload_n 0, 1) := by decide +kernel
theorem dX6_sweepOver_131 : decode cX6_sweepOver 131 = .ok (.iload_n 1, 1) := by decide +kernel
theorem dX6_sweepOver_132 : decode cX6_sweepOver 132 = .ok (.iload 4, 2) := by decide +kernel
theorem dX6_sweepOver_134 : decode cX6_sweepOver 134 = .ok (.invokevirtual 41, 3) := by decide +kernel
theorem dX6_sweepOver_137 : decode cX6_sweepOver 137 = .ok (.ifCond .ne 28, 3) := by decide +kernel
theorem dX6_sweepOver_140 : decode cX6_sweepOver 140 = .ok (.aload_n 0, 1) := by decide +kernel
theorem dX6_sweepOver_141 : decode cX6_sweepOver 141 = .ok (.iload_n 1, 1) := by decide +kernel
theorem dX6_sweepOver_142 : decode cX6_sweepOver 142 = .ok (.iload_n 3, 1) := by decide +kernel
theorem dX6_sweepOver_143 : decode cX6_sweepOver 143 = .ok (.invokevirtual 47, 3) := by decide +kernel
theorem dX6_sweepOver_146 : decode cX6_sweepOver 146 = .ok (.aload_n 0, 1) := by decide +kernel
theorem dX6_sweepOver_147 : decode cX6_sweepOver 147 = .ok (.iload_n 1, 1) := by decide +kernel
theorem dX6_sweepOver_148 : decode cX6_sweepOver 148 = .ok (.iload 4, 2) := by decide +kernel
theorem dX6_sweepOver_150 : decode cX6_sweepOver 150 = .ok (.invokevirtual 47, 3) := by decide +kernel
theorem dX6_sweepOver_153 : decode cX6_sweepOver 153 = .ok (.aload_n 0, 1) := by decide +kernel
theorem dX6_sweepOver_154 : decode cX6_sweepOver 154 = .ok (.getfield 7, 3) := by decide +kernel
theorem dX6_sweepOver_157 : decode cX6_sweepOver 157 = .ok (.iload_n 1, 1) := by decide +kernel
theorem dX6_sweepOver_158 : decode cX6_sweepOver 158 = .ok (.bipush 76, 2) := by decide +kernel
theorem dX6_sweepOver_160 : decode cX6_sweepOver 160 = .ok (.iadd, 1) := by decide +kernel
theorem dX6_sweepOver_161 : decode cX6_sweepOver 161 = .ok (.iload_n 2, 1) := by decide +kernel
theorem dX6_sweepOver_162 : decode cX6_sweepOver 162 = .ok (.iadd, 1) := by decide +kernel
theorem dX6_sweepOver_163 : decode cX6_sweepOver 163 = .ok (.iconst 0, 1) := by decide +kernel
theorem dX6_sweepOver_164 : decode cX6_sweepOver 164 = .ok (.iastore, 1) := by decide +kernel
theorem dX6_sweepOver_165 : decode cX6_sweepOver 165 = .ok (.return_, 1) := by decide +kernel
set_option maxRecDepth 20000 in
theorem ggX6_tickIn_X6_heads : GoodIn wsX6_tickIn wsX6_heads := goodIn_r _ [6, 1, 54, 55, 56, 57, 58, 59] (by decide +kernel) (by decide +kernel)
set_option maxRecDepth 20000 in
theorem gX6_tickIn_X6_heads : GoodIn wsX6_tickIn (wsV RX6 23 RX6 yX6_heads wsX6_heads) := goodIn_app (goodIn_of _ (by decide +kernel)) ggX6_tickIn_X6_heads
set_option maxRecDepth 20000 in
theorem ggX6_tickIn_X6_has : GoodIn wsX6_tickIn wsX6_has := goodIn_r _ [9] (by decide +kernel) (by decide +kernel)
set_option maxRecDepth 20000 in
theorem gX6_tickIn_X6_has : GoodIn wsX6_tickIn (va_wsS RX6 51 yX6_has wsX6_has) := goodIn_app (goodIn_of _ (by decide +kernel)) ggX6_tickIn_X6_has
set_option maxRecDepth 20000 in
theorem ggX6_tickIn_X6_hear : GoodIn wsX6_tickIn wsX6_hear := goodIn_r _ [13, 1, 14, 15, 16, 5, 17, 18, 19, 20, 21, 54, 55, 56, 57, 58, 59] (by decide +kernel) (by decide +kernel)
set_option maxRecDepth 20000 in
theorem gX6_tickIn_X6_hear : GoodIn wsX6_tickIn (wsV RX6 54 RX6 yX6_hear wsX6_hear) := goodIn_app (goodIn_of _ (by decide +kernel)) ggX6_tickIn_X6_hear
set_option maxRecDepth 20000 in
theorem ggX6_tickIn_X6_judgeOne : GoodIn wsX6_tickIn wsX6_judgeOne := goodIn_r _ [25, 1, 26, 27, 28, 5, 29, 30, 31, 32, 33, 34, 35, 36, 37, 38, 39, 40, 41, 42, 43, 44, 45, 54, 55, 56, 57, 58, 59] (by decide +kernel) (by decide +kernel)
set_option maxRecDepth 20000 in
theorem gX6_tickIn_X6_judgeOne : GoodIn wsX6_tickIn (wsV RX6 58 RX6 yX6_judgeOne wsX6_judgeOne) := goodIn_app (goodIn_of _ (by decide +kernel)) ggX6_tickIn_X6_judgeOne
set_option maxRecDepth 20000 in
theorem ggX6_tickIn_X6_isJoint : GoodIn wsX6_tickIn wsX6_isJoint := goodIn_r _ [49, 18, 19, 20, 5, 21, 1, 14, 15, 16, 17, 54, 55, 56, 57, 58, 59] (by decide +kernel) (by decide +kernel)
set_option maxRecDepth 20000 in
theorem gX6_tickIn_X6_isJoint : GoodIn wsX6_tickIn (wsV RX6 61 RX6 yX6_isJoint wsX6_isJoint) := goodIn_app (goodIn_of _ (by decide +kernel)) ggX6_tickIn_X6_isJoint
set_option maxRecDepth 20000 in
theorem ggX6_tickIn_X6_sweepOver : GoodIn wsX6_tickIn wsX6_sweepOver := goodIn_r _ [53, 1, 18, 19, 20, 5, 21, 14, 15, 16, 17, 30, 31, 32, 33, 34, 35, 36, 37, 38, 39, 40, 41, 42, 43, 44, 45, 54, 55, 56, 57, 58, 59] (by decide +kernel) (by decide +kernel)
set_option maxRecDepth 20000 in
theorem gX6_tickIn_X6_sweepOver : GoodIn wsX6_tickIn (wsV RX6 65 RX6 yX6_sweepOver wsX6_sweepOver) := goodIn_app (goodIn_of _ (by decide +kernel)) ggX6_tickIn_X6_sweepOver
theorem dX6_tickIn_0 : decode cX6_tickIn 0 = .ok (.iconst 0, 1) := by decide +kernel
theorem dX6_tickIn_1 : decode cX6_tickIn 1 = .ok (.istore_n 3, 1) := by decide +kernel
theorem dX6_tickIn_2 : decode cX6_tickIn 2 = .ok (.iload_n 3, 1) := by decide +kernel
theorem dX6_tickIn_3 : decode cX6_tickIn 3 = .ok (.aload_n 0, 1) := by decide +kernel
theorem dX6_tickIn_4 : decode cX6_tickIn 4 = .ok (.invokevirtual 23, 3) := by decide +kernel
theorem dX6_tickIn_7 : decode cX6_tickIn 7 = .ok (.if_icmp .ge 20, 3) := by decide +kernel
theorem dX6_tickIn_10 : decode cX6_tickIn 10 = .ok (.aload_n 0, 1) := by decide +kernel
theorem dX6_tickIn_11 : decode cX6_tickIn 11 = .ok (.iload_n 1, 1) := by decide +kernel
theorem dX6_tickIn_12 : decode cX6_tickIn 12 = .ok (.iload_n 3, 1) := by decide +kernel
theorem dX6_tickIn_13 : decode cX6_tickIn 13 = .ok (.iload_n 2, 1) := by decide +kernel
theorem dX6_tickIn_14 : decode cX6_tickIn 14 = .ok (.iload_n 3, 1) := by decide +kernel
theorem dX6_tickIn_15 : decode cX6_tickIn 15 = .ok (.invokestatic 51, 3) := by decide +kernel
theorem dX6_tickIn_18 : decode cX6_tickIn 18 = .ok (.invokevirtual 54, 3) := by decide +kernel
theorem dX6_tickIn_21 : decode cX6_tickIn 21 = .ok (.iinc 3 1, 3) := by decide +kernel
theorem dX6_tickIn_24 : decode cX6_tickIn 24 = .ok (.goto (-22), 3) := by decide +kernel
theorem dX6_tickIn_27 : decode cX6_tickIn 27 = .ok (.iconst 0, 1) := by decide +kernel
theorem dX6_tickIn_28 : decode cX6_tickIn 28 = .ok (.istore_n 3, 1) := by decide +kernel
theorem dX6_tickIn_29 : decode cX6_tickIn 29 = .ok (.iload_n 3, 1) := by decide +kernel
theorem dX6_tickIn_30 : decode cX6_tickIn 30 = .ok (.aload_n 0, 1) := by decide +kernel
theorem dX6_tickIn_31 : decode cX6_tickIn 31 = .ok (.getfield 7, 3) := by decide +kernel
theorem dX6_tickIn_34 : decode cX6_tickIn 34 = .ok (.iconst 0, 1) := by decide +kernel
theorem dX6_tickIn_35 : decode cX6_tickIn 35 = .ok (.iaload, 1) := by decide +kernel
theorem dX6_tickIn_36 : decode cX6_tickIn 36 = .ok (.if_icmp .ge 15, 3) := by decide +kernel
theorem dX6_tickIn_39 : decode cX6_tickIn 39 = .ok (.aload_n 0, 1) := by decide +kernel
theorem dX6_tickIn_40 : decode cX6_tickIn 40 = .ok (.iload_n 1, 1) := by decide +kernel
theorem dX6_tickIn_41 : decode cX6_tickIn 41 = .ok (.iload_n 3, 1) := by decide +kernel
theorem dX6_tickIn_42 : decode cX6_tickIn 42 = .ok (.invokevirtual 58, 3) := by decide +kernel
theorem dX6_tickIn_45 : decode cX6_tickIn 45 = .ok (.iinc 3 1, 3) := by decide +kernel
theorem dX6_tickIn_48 : decode cX6_tickIn 48 = .ok (.goto (-19), 3) := by decide +kernel
theorem dX6_tickIn_51 : decode cX6_tickIn 51 = .ok (.iconst 0, 1) := by decide +kernel
theorem dX6_tickIn_52 : decode cX6_tickIn 52 = .ok (.istore_n 3, 1) := by decide +kernel
theorem dX6_tickIn_53 : decode cX6_tickIn 53 = .ok (.iload_n 3, 1) := by decide +kernel
theorem dX6_tickIn_54 : decode cX6_tickIn 54 = .ok (.aload_n 0, 1) := by decide +kernel
theorem dX6_tickIn_55 : decode cX6_tickIn 55 = .ok (.invokevirtual 23, 3) := by decide +kernel
theorem dX6_tickIn_58 : decode cX6_tickIn 58 = .ok (.if_icmp .ge 23, 3) := by decide +kernel
theorem dX6_tickIn_61 : decode cX6_tickIn 61 = .ok (.aload_n 0, 1) := by decide +kernel
theorem dX6_tickIn_62 : decode cX6_tickIn 62 = .ok (.iload_n 3, 1) := by decide +kernel
theorem dX6_tickIn_63 : decode cX6_tickIn 63 = .ok (.invokevirtual 61, 3) := by decide +kernel
theorem dX6_tickIn_66 : decode cX6_tickIn 66 = .ok (.ifCond .eq 9, 3) := by decide +kernel
theorem dX6_tickIn_69 : decode cX6_tickIn 69 = .ok (.aload_n 0, 1) := by decide +kernel
theorem dX6_tickIn_70 : decode cX6_tickIn 70 = .ok (.iload_n 1, 1) := by decide +kernel
theorem dX6_tickIn_71 : decode cX6_tickIn 71 = .ok (.iload_n 3, 1) := by decide +kernel
theorem dX6_tickIn_72 : decode cX6_tickIn 72 = .ok (.invokevirtual 65, 3) := by decide +kernel
theorem dX6_tickIn_75 : decode cX6_tickIn 75 = .ok (.iinc 3 1, 3) := by decide +kernel
theorem dX6_tickIn_78 : decode cX6_tickIn 78 = .ok (.goto (-25), 3) := by decide +kernel
theorem dX6_tickIn_81 : decode cX6_tickIn 81 = .ok (.aload_n 0, 1) := by decide +kernel
theorem dX6_tickIn_82 : decode cX6_tickIn 82 = .ok (.getfield 7, 3) := by decide +kernel
theorem dX6_tickIn_85 : decode cX6_tickIn 85 = .ok (.iload_n 1, 1) := by decide +kernel
theorem dX6_tickIn_86 : decode cX6_tickIn 86 = .ok (.iconst 2, 1) := by decide +kernel
theorem dX6_tickIn_87 : decode cX6_tickIn 87 = .ok (.iadd, 1) := by decide +kernel
theorem dX6_tickIn_88 : decode cX6_tickIn 88 = .ok (.aload_n 0, 1) := by decide +kernel
theorem dX6_tickIn_89 : decode cX6_tickIn 89 = .ok (.getfield 7, 3) := by decide +kernel
theorem dX6_tickIn_92 : decode cX6_tickIn 92 = .ok (.iload_n 1, 1) := by decide +kernel
theorem dX6_tickIn_93 : decode cX6_tickIn 93 = .ok (.iconst 2, 1) := by decide +kernel
theorem dX6_tickIn_94 : decode cX6_tickIn 94 = .ok (.iadd, 1) := by decide +kernel
theorem dX6_tickIn_95 : decode cX6_tickIn 95 = .ok (.iaload, 1) := by decide +kernel
theorem dX6_tickIn_96 : decode cX6_tickIn 96 = .ok (.sipush 9999, 3) := by decide +kernel
theorem dX6_tickIn_99 : decode cX6_tickIn 99 = .ok (.if_icmp .ge 16, 3) := by decide +kernel
theorem dX6_tickIn_102 : decode cX6_tickIn 102 = .ok (.aload_n 0, 1) := by decide +kernel
theorem dX6_tickIn_103 : decode cX6_tickIn 103 = .ok (.getfield 7, 3) := by decide +kernel
theorem dX6_tickIn_106 : decode cX6_tickIn 106 = .ok (.iload_n 1, 1) := by decide +kernel
theorem dX6_tickIn_107 : decode cX6_tickIn 107 = .ok (.iconst 2, 1) := by decide +kernel
theorem dX6_tickIn_108 : decode cX6_tickIn 108 = .ok (.iadd, 1) := by decide +kernel
theorem dX6_tickIn_109 : decode cX6_tickIn 109 = .ok (.iaload, 1) := by decide +kernel
theorem dX6_tickIn_110 : decode cX6_tickIn 110 = .ok (.iconst 1, 1) := by decide +kernel
theorem dX6_tickIn_111 : decode cX6_tickIn 111 = .ok (.iadd, 1) := by decide +kernel
theorem dX6_tickIn_112 : decode cX6_tickIn 112 = .ok (.goto 6, 3) := by decide +kernel
theorem dX6_tickIn_115 : decode cX6_tickIn 115 = .ok (.sipush 9999, 3) := by decide +kernel
theorem dX6_tickIn_118 : decode cX6_tickIn 118 = .ok (.iastore, 1) := by decide +kernel
theorem dX6_tickIn_119 : decode cX6_tickIn 119 = .ok (.return_, 1) := by decide +kernel
theorem dX6_called_0 : decode cX6_called 0 = .ok (.iconst 0, 1) := by decide +kernel
theorem dX6_called_1 : decode cX6_called 1 = .ok (.istore_n 3, 1) := by decide +kernel
theorem dX6_called_2 : decode cX6_called 2 = .ok (.iconst 0, 1) := by decide +kernel
theorem dX6_called_3 : decode cX6_called 3 = .ok (.istore 4, 2) := by decide +kernel
theorem dX6_called_5 : decode cX6_called 5 = .ok (.iload 4, 2) := by decide +kernel
theorem dX6_called_7 : decode cX6_called 7 = .ok (.aload_n 0, 1) := by decide +kernel
theorem dX6_called_8 : decode cX6_called 8 = .ok (.getfield 7, 3) := by decide +kernel
theorem dX6_called_11 : decode cX6_called 11 = .ok (.iconst 0, 1) := by decide +kernel
theorem dX6_called_12 : decode cX6_called 12 = .ok (.iaload, 1) := by decide +kernel
theorem dX6_called_13 : decode cX6_called 13 = .ok (.if_icmp .ge 35, 3) := by decide +kernel
theorem dX6_called_16 : decode cX6_called 16 = .ok (.iload_n 3, 1) := by decide +kernel
theorem dX6_called_17 : decode cX6_called 17 = .ok (.aload_n 0, 1) := by decide +kernel
theorem dX6_called_18 : decode cX6_called 18 = .ok (.getfield 7, 3) := by decide +kernel
theorem dX6_called_21 : decode cX6_called 21 = .ok (.iload_n 1, 1) := by decide +kernel
theorem dX6_called_22 : decode cX6_called 22 = .ok (.iconst 3, 1) := by decide +kernel
theorem dX6_called_23 : decode cX6_called 23 = .ok (.iadd, 1) := by decide +kernel
theorem dX6_called_24 : decode cX6_called 24 = .ok (.iload 4, 2) := by decide +kernel
theorem dX6_called_26 : decode cX6_called 26 = .ok (.iadd, 1) := by decide +kernel
theorem dX6_called_27 : decode cX6_called 27 = .ok (.iaload, 1) := by decide +kernel
theorem dX6_called_28 : decode cX6_called 28 = .ok (.iload_n 2, 1) := by decide +kernel
theorem dX6_called_29 : decode cX6_called 29 = .ok (.if_icmp .ne 10, 3) := by decide +kernel
theorem dX6_called_32 : decode cX6_called 32 = .ok (.iconst 1, 1) := by decide +kernel
theorem dX6_called_33 : decode cX6_called 33 = .ok (.iload 4, 2) := by decide +kernel
theorem dX6_called_35 : decode cX6_called 35 = .ok (.ishl, 1) := by decide +kernel
theorem dX6_called_36 : decode cX6_called 36 = .ok (.goto 4, 3) := by decide +kernel
theorem dX6_called_39 : decode cX6_called 39 = .ok (.iconst 0, 1) := by decide +kernel
theorem dX6_called_40 : decode cX6_called 40 = .ok (.ior, 1) := by decide +kernel
theorem dX6_called_41 : decode cX6_called 41 = .ok (.istore_n 3, 1) := by decide +kernel
theorem dX6_called_42 : decode cX6_called 42 = .ok (.iinc 4 1, 3) := by decide +kernel
theorem dX6_called_45 : decode cX6_called 45 = .ok (.goto (-40), 3) := by decide +kernel
theorem dX6_called_48 : decode cX6_called 48 = .ok (.iload_n 3, 1) := by decide +kernel
theorem dX6_called_49 : decode cX6_called 49 = .ok (.ireturn, 1) := by decide +kernel
set_option maxRecDepth 20000 in
theorem ggX6_byHowMuch_X6_leavesNone : GoodIn wsX6_byHowMuch wsX6_leavesNone := goodIn_r _ [6, 1, 7, 8, 9, 5, 10, 11, 12, 13, 14, 15, 16, 17, 18, 19, 20] (by decide +kernel) (by decide +kernel)
set_option maxRecDepth 20000 in
theorem gX6_byHowMuch_X6_leavesNone : GoodIn wsX6_byHowMuch (wsV RX6 68 RX6 yX6_leavesNone wsX6_leavesNone) := goodIn_app (goodIn_of _ (by decide +kernel)) ggX6_byHowMuch_X6_leavesNone
theorem dX6_byHowMuch_0 : decode cX6_byHowMuch 0 = .ok (.iconst 0, 1) := by decide +kernel
theorem dX6_byHowMuch_1 : decode cX6_byHowMuch 1 = .ok (.istore_n 2, 1) := by decide +kernel
theorem dX6_byHowMuch_2 : decode cX6_byHowMuch 2 = .ok (.iconst 0, 1) := by decide +kernel
theorem dX6_byHowMuch_3 : decode cX6_byHowMuch 3 = .ok (.istore_n 3, 1) := by decide +kernel
theorem dX6_byHowMuch_4 : decode cX6_byHowMuch 4 = .ok (.iload_n 3, 1) := by decide +kernel
theorem dX6_byHowMuch_5 : decode cX6_byHowMuch 5 = .ok (.aload_n 0, 1) := by decide +kernel
theorem dX6_byHowMuch_6 : decode cX6_byHowMuch 6 = .ok (.getfield 7, 3) := by decide +kernel
theorem dX6_byHowMuch_9 : decode cX6_byHowMuch 9 = .ok (.iconst 0, 1) := by decide +kernel
theorem dX6_byHowMuch_10 : decode cX6_byHowMuch 10 = .ok (.iaload, 1) := by decide +kernel
theorem dX6_byHowMuch_11 : decode cX6_byHowMuch 11 = .ok (.if_icmp .ge 31, 3) := by decide +kernel
theorem dX6_byHowMuch_14 : decode cX6_byHowMuch 14 = .ok (.iload_n 2, 1) := by decide +kernel
theorem dX6_byHowMuch_15 : decode cX6_byHowMuch 15 = .ok (.ifCond .ne 15, 3) := by decide +kernel
theorem dX6_byHowMuch_18 : decode cX6_byHowMuch 18 = .ok (.aload_n 0, 1) := by decide +kernel
theorem dX6_byHowMuch_19 : decode cX6_byHowMuch 19 = .ok (.getfield 7, 3) := by decide +kernel
theorem dX6_byHowMuch_22 : decode cX6_byHowMuch 22 = .ok (.bipush 9, 2) := by decide +kernel
theorem dX6_byHowMuch_24 : decode cX6_byHowMuch 24 = .ok (.iload_n 3, 1) := by decide +kernel
theorem dX6_byHowMuch_25 : decode cX6_byHowMuch 25 = .ok (.iadd, 1) := by decide +kernel
theorem dX6_byHowMuch_26 : decode cX6_byHowMuch 26 = .ok (.iaload, 1) := by decide +kernel
theorem dX6_byHowMuch_27 : decode cX6_byHowMuch 27 = .ok (.ifCond .ge 7, 3) := by decide +kernel
theorem dX6_byHowMuch_30 : decode cX6_byHowMuch 30 = .ok (.iconst 1, 1) := by decide +kernel
theorem dX6_byHowMuch_31 : decode cX6_byHowMuch 31 = .ok (.goto 4, 3) := by decide +kernel
theorem dX6_byHowMuch_34 : decode cX6_byHowMuch 34 = .ok (.iconst 0, 1) := by decide +kernel
theorem dX6_byHowMuch_35 : decode cX6_byHowMuch 35 = .ok (.istore_n 2, 1) := by decide +kernel
theorem dX6_byHowMuch_36 : decode cX6_byHowMuch 36 = .ok (.iinc 3 1, 3) := by decide +kernel
theorem dX6_byHowMuch_39 : decode cX6_byHowMuch 39 = .ok (.goto (-35), 3) := by decide +kernel
theorem dX6_byHowMuch_42 : decode cX6_byHowMuch 42 = .ok (.iconst 2, 1) := by decide +kernel
theorem dX6_byHowMuch_43 : decode cX6_byHowMuch 43 = .ok (.istore_n 3, 1) := by decide +kernel
theorem dX6_byHowMuch_44 : decode cX6_byHowMuch 44 = .ok (.iload_n 3, 1) := by decide +kernel
theorem dX6_byHowMuch_45 : decode cX6_byHowMuch 45 = .ok (.bipush 20, 2) := by decide +kernel
theorem dX6_byHowMuch_47 : decode cX6_byHowMuch 47 = .ok (.if_icmp .ge 44, 3) := by decide +kernel
theorem dX6_byHowMuch_50 : decode cX6_byHowMuch 50 = .ok (.iload_n 2, 1) := by decide +kernel
theorem dX6_byHowMuch_51 : decode cX6_byHowMuch 51 = .ok (.ifCond .eq 40, 3) := by decide +kernel
theorem dX6_byHowMuch_54 : decode cX6_byHowMuch 54 = .ok (.iload_n 3, 1) := by decide +kernel
theorem dX6_byHowMuch_55 : decode cX6_byHowMuch 55 = .ok (.iconst 2, 1) := by decide +kernel
theorem dX6_byHowMuch_56 : decode cX6_byHowMuch 56 = .ok (.irem, 1) := by decide +kernel
theorem dX6_byHowMuch_57 : decode cX6_byHowMuch 57 = .ok (.ifCond .ne 9, 3) := by decide +kernel
theorem dX6_byHowMuch_60 : decode cX6_byHowMuch 60 = .ok (.iload_n 3, 1) := by decide +kernel
theorem dX6_byHowMuch_61 : decode cX6_byHowMuch 61 = .ok (.iconst 2, 1) := by decide +kernel
theorem dX6_byHowMuch_62 : decode cX6_byHowMuch 62 = .ok (.idiv, 1) := by decide +kernel
theorem dX6_byHowMuch_63 : decode cX6_byHowMuch 63 = .ok (.goto 7, 3) := by decide +kernel
theorem dX6_byHowMuch_66 : decode cX6_byHowMuch 66 = .ok (.iload_n 3, 1) := by decide +kernel
theorem dX6_byHowMuch_67 : decode cX6_byHowMuch 67 = .ok (.iconst 2, 1) := by decide +kernel
theorem dX6_byHowMuch_68 : decode cX6_byHowMuch 68 = .ok (.idiv, 1) := by decide +kernel
theorem dX6_byHowMuch_69 : decode cX6_byHowMuch 69 = .ok (.ineg, 1) := by decide +kernel
theorem dX6_byHowMuch_70 : decode cX6_byHowMuch 70 = .ok (.istore 4, 2) := by decide +kernel
theorem dX6_byHowMuch_72 : decode cX6_byHowMuch 72 = .ok (.aload_n 0, 1) := by decide +kernel
theorem dX6_byHowMuch_73 : decode cX6_byHowMuch 73 = .ok (.iload_n 1, 1) := by decide +kernel
theorem dX6_byHowMuch_74 : decode cX6_byHowMuch 74 = .ok (.iload 4, 2) := by decide +kernel
theorem dX6_byHowMuch_76 : decode cX6_byHowMuch 76 = .ok (.invokevirtual 68, 3) := by decide +kernel
theorem dX6_byHowMuch_79 : decode cX6_byHowMuch 79 = .ok (.ifCond .eq 6, 3) := by decide +kernel
theorem dX6_byHowMuch_82 : decode cX6_byHowMuch 82 = .ok (.iload 4, 2) := by decide +kernel
theorem dX6_byHowMuch_84 : decode cX6_byHowMuch 84 = .ok (.ireturn, 1) := by decide +kernel
theorem dX6_byHowMuch_85 : decode cX6_byHowMuch 85 = .ok (.iinc 3 1, 3) := by decide +kernel
theorem dX6_byHowMuch_88 : decode cX6_byHowMuch 88 = .ok (.goto (-44), 3) := by decide +kernel
theorem dX6_byHowMuch_91 : decode cX6_byHowMuch 91 = .ok (.iconst 0, 1) := by decide +kernel
theorem dX6_byHowMuch_92 : decode cX6_byHowMuch 92 = .ok (.ireturn, 1) := by decide +kernel
set_option maxRecDepth 20000 in
theorem ggX6_leavesNone_X6_rightOf : GoodIn wsX6_leavesNone wsX6_rightOf := goodIn_r _ [6, 1, 11, 12, 13, 14, 15, 16] (by decide +kernel) (by decide +kernel)
set_option maxRecDepth 20000 in
theorem gX6_leavesNone_X6_rightOf : GoodIn wsX6_leavesNone (wsV RX6 27 RX6 yX6_rightOf wsX6_rightOf) := goodIn_app (goodIn_of _ (by decide +kernel)) ggX6_leavesNone_X6_rightOf
set_option maxRecDepth 20000 in
theorem ggX6_leavesNone_X6_leftOf : GoodIn wsX6_leavesNone wsX6_leftOf := goodIn_r _ [10, 1, 11, 12, 13, 14, 15, 16] (by decide +kernel) (by decide +kernel)
set_option maxRecDepth 20000 in
theorem gX6_leavesNone_X6_leftOf : GoodIn wsX6_leavesNone (wsV RX6 31 RX6 yX6_leftOf wsX6_leftOf) := goodIn_app (goodIn_of _ (by decide +kernel)) ggX6_leavesNone_X6_leftOf
theorem dX6_leavesNone_0 : decode cX6_leavesNone 0 = .ok (.iconst 1, 1) := by decide +kernel
theorem dX6_leavesNone_1 : decode cX6_leavesNone 1 = .ok (.istore_n 3, 1) := by decide +kernel
theorem dX6_leavesNone_2 : decode cX6_leavesNone 2 = .ok (.iconst 0, 1) := by decide +kernel
theorem dX6_leavesNone_3 : decode cX6_leavesNone 3 = .ok (.istore 4, 2) := by decide +kernel
theorem dX6_leavesNone_5 : decode cX6_leavesNone 5 = .ok (.iload 4, 2) := by decide +kernel
theorem dX6_leavesNone_7 : decode cX6_leavesNone 7 = .ok (.aload_n 0, 1) := by decide +kernel
theorem dX6_leavesNone_8 : decode cX6_leavesNone 8 = .ok (.getfield 7, 3) := by decide +kernel
theorem dX6_leavesNone_11 : decode cX6_leavesNone 11 = .ok (.iconst 0, 1) := by decide +kernel
theorem dX6_leavesNone_12 : decode cX6_leavesNone 12 = .ok (.iaload, 1) := by decide +kernel
theorem dX6_leavesNone_13 : decode cX6_leavesNone 13 = .ok (.if_icmp .ge 68, 3) := by decide +kernel
theorem dX6_leavesNone_16 : decode cX6_leavesNone 16 = .ok (.aload_n 0, 1) := by decide +kernel
theorem dX6_leavesNone_17 : decode cX6_leavesNone 17 = .ok (.getfield 7, 3) := by decide +kernel
theorem dX6_leavesNone_20 : decode cX6_leavesNone 20 = .ok (.bipush 9, 2) := by decide +kernel
theorem dX6_leavesNone_22 : decode cX6_leavesNone 22 = .ok (.iload 4, 2) := by decide +kernel
theorem dX6_leavesNone_24 : decode cX6_leavesNone 24 = .ok (.iadd, 1) := by decide +kernel
theorem dX6_leavesNone_25 : decode cX6_leavesNone 25 = .ok (.iaload, 1) := by decide +kernel
theorem dX6_leavesNone_26 : decode cX6_leavesNone 26 = .ok (.aload_n 0, 1) := by decide +kernel
theorem dX6_leavesNone_27 : decode cX6_leavesNone 27 = .ok (.iload_n 1, 1) := by decide +kernel
theorem dX6_leavesNone_28 : decode cX6_leavesNone 28 = .ok (.invokevirtual 27, 3) := by decide +kernel
theorem dX6_leavesNone_31 : decode cX6_leavesNone 31 = .ok (.iload 4, 2) := by decide +kernel
theorem dX6_leavesNone_33 : decode cX6_leavesNone 33 = .ok (.if_icmp .ne 7, 3) := by decide +kernel
theorem dX6_leavesNone_36 : decode cX6_leavesNone 36 = .ok (.iload_n 2, 1) := by decide +kernel
theorem dX6_leavesNone_37 : decode cX6_leavesNone 37 = .ok (.goto 4, 3) := by decide +kernel
theorem dX6_leavesNone_40 : decode cX6_leavesNone 40 = .ok (.iconst 0, 1) := by decide +kernel
theorem dX6_leavesNone_41 : decode cX6_leavesNone 41 = .ok (.iadd, 1) := by decide +kernel
theorem dX6_leavesNone_42 : decode cX6_leavesNone 42 = .ok (.aload_n 0, 1) := by decide +kernel
theorem dX6_leavesNone_43 : decode cX6_leavesNone 43 = .ok (.iload_n 1, 1) := by decide +kernel
theorem dX6_leavesNone_44 : decode cX6_leavesNone 44 = .ok (.invokevirtual 31, 3) := by decide +kernel
theorem dX6_leavesNone_47 : decode cX6_leavesNone 47 = .ok (.iload 4, 2) := by decide +kernel
theorem dX6_leavesNone_49 : decode cX6_leavesNone 49 = .ok (.if_icmp .ne 7, 3) := by decide +kernel
theorem dX6_leavesNone_52 : decode cX6_leavesNone 52 = .ok (.iload_n 2, 1) := by decide +kernel
theorem dX6_leavesNone_53 : decode cX6_leavesNone 53 = .ok (.goto 4, 3) := by decide +kernel
theorem dX6_leavesNone_56 : decode cX6_leavesNone 56 = .ok (.iconst 0, 1) := by decide +kernel
theorem dX6_leavesNone_57 : decode cX6_leavesNone 57 = .ok (.isub, 1) := by decide +kernel
theorem dX6_leavesNone_58 : decode cX6_leavesNone 58 = .ok (.istore 5, 2) := by decide +kernel
theorem dX6_leavesNone_60 : decode cX6_leavesNone 60 = .ok (.iload_n 3, 1) := by decide +kernel
theorem dX6_leavesNone_61 : decode cX6_leavesNone 61 = .ok (.ifCond .eq 12, 3) := by decide +kernel
theorem dX6_leavesNone_64 : decode cX6_leavesNone 64 = .ok (.iload 5, 2) := by decide +kernel
theorem dX6_leavesNone_66 : decode cX6_leavesNone 66 = .ok (.ifCond .lt 7, 3) := by decide +kernel
theorem dX6_leavesNone_69 : decode cX6_leavesNone 69 = .ok (.iconst 1, 1) := by decide +kernel
theorem dX6_leavesNone_70 : decode cX6_leavesNone 70 = .ok (.goto 4, 3) := by decide +kernel
theorem dX6_leavesNone_73 : decode cX6_leavesNone 73 = .ok (.iconst 0, 1) := by decide +kernel
theorem dX6_leavesNone_74 : decode cX6_leavesNone 74 = .ok (.istore_n 3, 1) := by decide +kernel
theorem dX6_leavesNone_75 : decode cX6_leavesNone 75 = .ok (.iinc 4 1, 3) := by decide +kernel
theorem dX6_leavesNone_78 : decode cX6_leavesNone 78 = .ok (.goto (-73), 3) := by decide +kernel
theorem dX6_leavesNone_81 : decode cX6_leavesNone 81 = .ok (.iload_n 3, 1) := by decide +kernel
theorem dX6_leavesNone_82 : decode cX6_leavesNone 82 = .ok (.ireturn, 1) := by decide +kernel
theorem dX6_setOf_0 : decode cX6_setOf 0 = .ok (.iconst 0, 1) := by decide +kernel
theorem dX6_setOf_1 : decode cX6_setOf 1 = .ok (.istore_n 2, 1) := by decide +kernel
theorem dX6_setOf_2 : decode cX6_setOf 2 = .ok (.iconst 0, 1) := by decide +kernel
theorem dX6_setOf_3 : decode cX6_setOf 3 = .ok (.istore_n 3, 1) := by decide +kernel
theorem dX6_setOf_4 : decode cX6_setOf 4 = .ok (.iload_n 3, 1) := by decide +kernel
theorem dX6_setOf_5 : decode cX6_setOf 5 = .ok (.aload_n 0, 1) := by decide +kernel
theorem dX6_setOf_6 : decode cX6_setOf 6 = .ok (.getfield 7, 3) := by decide +kernel
theorem dX6_setOf_9 : decode cX6_setOf 9 = .ok (.iconst 0, 1) := by decide +kernel
theorem dX6_setOf_10 : decode cX6_setOf 10 = .ok (.iaload, 1) := by decide +kernel
theorem dX6_setOf_11 : decode cX6_setOf 11 = .ok (.if_icmp .ge 97, 3) := by decide +kernel
theorem dX6_setOf_14 : decode cX6_setOf 14 = .ok (.aload_n 0, 1) := by decide +kernel
theorem dX6_setOf_15 : decode cX6_setOf 15 = .ok (.getfield 7, 3) := by decide +kernel
theorem dX6_setOf_18 : decode cX6_setOf 18 = .ok (.iconst 3, 1) := by decide +kernel
theorem dX6_setOf_19 : decode cX6_setOf 19 = .ok (.iload_n 3, 1) := by decide +kernel
theorem dX6_setOf_20 : decode cX6_setOf 20 = .ok (.iadd, 1) := by decide +kernel
theorem dX6_setOf_21 : decode cX6_setOf 21 = .ok (.iaload, 1) := by decide +kernel
theorem dX6_setOf_22 : decode cX6_setOf 22 = .ok (.ifCond .ne 7, 3) := by decide +kernel
theorem dX6_setOf_25 : decode cX6_setOf 25 = .ok (.iconst 1, 1) := by decide +kernel
theorem dX6_setOf_26 : decode cX6_setOf 26 = .ok (.goto 4, 3) := by decide +kernel
theorem dX6_setOf_29 : decode cX6_setOf 29 = .ok (.iconst 0, 1) := by decide +kernel
theorem dX6_setOf_30 : decode cX6_setOf 30 = .ok (.istore 4, 2) := by decide +kernel
theorem dX6_setOf_32 : decode cX6_setOf 32 = .ok (.iload_n 1, 1) := by decide +kernel
theorem dX6_setOf_33 : decode cX6_setOf 33 = .ok (.bipush 8, 2) := by decide +kernel
theorem dX6_setOf_35 : decode cX6_setOf 35 = .ok (.if_icmp .ne 28, 3) := by decide +kernel
theorem dX6_setOf_38 : decode cX6_setOf 38 = .ok (.iload 4, 2) := by decide +kernel
theorem dX6_setOf_40 : decode cX6_setOf 40 = .ok (.ifCond .eq 19, 3) := by decide +kernel
theorem dX6_setOf_43 : decode cX6_setOf 43 = .ok (.aload_n 0, 1) := by decide +kernel
theorem dX6_setOf_44 : decode cX6_setOf 44 = .ok (.getfield 7, 3) := by decide +kernel
theorem dX6_setOf_47 : decode cX6_setOf 47 = .ok (.bipush 15, 2) := by decide +kernel
theorem dX6_setOf_49 : decode cX6_setOf 49 = .ok (.iload_n 3, 1) := by decide +kernel
theorem dX6_setOf_50 : decode cX6_setOf 50 = .ok (.iadd, 1) := by decide +kernel
theorem dX6_setOf_51 : decode cX6_setOf 51 = .ok (.iaload, 1) := by decide +kernel
theorem dX6_setOf_52 : decode cX6_setOf 52 = .ok (.ifCond .le 7, 3) := by decide +kernel
theorem dX6_setOf_55 : decode cX6_setOf 55 = .ok (.iconst 1, 1) := by decide +kernel
theorem dX6_setOf_56 : decode cX6_setOf 56 = .ok (.goto 29, 3) := by decide +kernel
theorem dX6_setOf_59 : decode cX6_setOf 59 = .ok (.iconst 0, 1) := by decide +kernel
theorem dX6_setOf_60 : decode cX6_setOf 60 = .ok (.goto 25, 3) := by decide +kernel
theorem dX6_setOf_63 : decode cX6_setOf 63 = .ok (.iload 4, 2) := by decide +kernel
theorem dX6_setOf_65 : decode cX6_setOf 65 = .ok (.ifCond .ne 19, 3) := by decide +kernel
theorem dX6_setOf_68 : decode cX6_setOf 68 = .ok (.aload_n 0, 1) := by decide +kernel
theorem dX6_setOf_69 : decode cX6_setOf 69 = .ok (.getfield 7, 3) := by decide +kernel
theorem dX6_setOf_72 : decode cX6_setOf 72 = .ok (.bipush 15, 2) := by decide +kernel
theorem dX6_setOf_74 : decode cX6_setOf 74 = .ok (.iload_n 3, 1) := by decide +kernel
theorem dX6_setOf_75 : decode cX6_setOf 75 = .ok (.iadd, 1) := by decide +kernel
theorem dX6_setOf_76 : decode cX6_setOf 76 = .ok (.iaload, 1) := by decide +kernel
theorem dX6_setOf_77 : decode cX6_setOf 77 = .ok (.ifCond .ne 7, 3) := by decide +kernel
theorem dX6_setOf_80 : decode cX6_setOf 80 = .ok (.iconst 1, 1) := by decide +kernel
theorem dX6_setOf_81 : decode cX6_setOf 81 = .ok (.goto 4, 3) := by decide +kernel
theorem dX6_setOf_84 : decode cX6_setOf 84 = .ok (.iconst 0, 1) := by decide +kernel
theorem dX6_setOf_85 : decode cX6_setOf 85 = .ok (.istore 5, 2) := by decide +kernel
theorem dX6_setOf_87 : decode cX6_setOf 87 = .ok (.iload_n 2, 1) := by decide +kernel
theorem dX6_setOf_88 : decode cX6_setOf 88 = .ok (.iload 5, 2) := by decide +kernel
theorem dX6_setOf_90 : decode cX6_setOf 90 = .ok (.ifCond .eq 9, 3) := by decide +kernel
theorem dX6_setOf_93 : decode cX6_setOf 93 = .ok (.iconst 1, 1) := by decide +kernel
theorem dX6_setOf_94 : decode cX6_setOf 94 = .ok (.iload_n 3, 1) := by decide +kernel
theorem dX6_setOf_95 : decode cX6_setOf 95 = .ok (.ishl, 1) := by decide +kernel
theorem dX6_setOf_96 : decode cX6_setOf 96 = .ok (.goto 4, 3) := by decide +kernel
theorem dX6_setOf_99 : decode cX6_setOf 99 = .ok (.iconst 0, 1) := by decide +kernel
theorem dX6_setOf_100 : decode cX6_setOf 100 = .ok (.ior, 1) := by decide +kernel
theorem dX6_setOf_101 : decode cX6_setOf 101 = .ok (.istore_n 2, 1) := by decide +kernel
theorem dX6_setOf_102 : decode cX6_setOf 102 = .ok (.iinc 3 1, 3) := by decide +kernel
theorem dX6_setOf_105 : decode cX6_setOf 105 = .ok (.goto (-101), 3) := by decide +kernel
theorem dX6_setOf_108 : decode cX6_setOf 108 = .ok (.iload_n 2, 1) := by decide +kernel
theorem dX6_setOf_109 : decode cX6_setOf 109 = .ok (.ireturn, 1) := by decide +kernel
set_option maxRecDepth 20000 in
theorem ggX6_headSet_X6_heads : GoodIn wsX6_headSet wsX6_heads := goodIn_r _ [6, 1, 23, 24, 25, 26, 27, 28] (by decide +kernel) (by decide +kernel)
set_option maxRecDepth 20000 in
theorem gX6_headSet_X6_heads : GoodIn wsX6_headSet (wsV RX6 23 RX6 yX6_heads wsX6_heads) := goodIn_app (goodIn_of _ (by decide +kernel)) ggX6_headSet_X6_heads
set_option maxRecDepth 20000 in
theorem ggX6_headSet_X6_byHowMuch : GoodIn wsX6_headSet wsX6_byHowMuch := goodIn_r _ [10, 1, 11, 12, 13, 5, 14, 15, 16, 17, 18, 19, 20, 21, 22, 23, 24, 25, 26, 27, 28] (by decide +kernel) (by decide +kernel)
set_option maxRecDepth 20000 in
theorem gX6_headSet_X6_byHowMuch : GoodIn wsX6_headSet (wsV RX6 71 RX6 yX6_byHowMuch wsX6_byHowMuch) := goodIn_app (goodIn_of _ (by decide +kernel)) ggX6_headSet_X6_byHowMuch
theorem dX6_headSet_0 : decode cX6_headSet 0 = .ok (.iconst 0, 1) := by decide +kernel
theorem dX6_headSet_1 : decode cX6_headSet 1 = .ok (.istore_n 2, 1) := by decide +kernel
theorem dX6_headSet_2 : decode cX6_headSet 2 = .ok (.iconst 0, 1) := by decide +kernel
theorem dX6_headSet_3 : decode cX6_headSet 3 = .ok (.istore_n 3, 1) := by decide +kernel
theorem dX6_headSet_4 : decode cX6_headSet 4 = .ok (.iload_n 3, 1) := by decide +kernel
theorem dX6_headSet_5 : decode cX6_headSet 5 = .ok (.aload_n 0, 1) := by decide +kernel
theorem dX6_headSet_6 : decode cX6_headSet 6 = .ok (.invokevirtual 23, 3) := by decide +kernel
theorem dX6_headSet_9 : decode cX6_headSet 9 = .ok (.if_icmp .ge 64, 3) := by decide +kernel
theorem dX6_headSet_12 : decode cX6_headSet 12 = .ok (.iload_n 1, 1) := by decide +kernel
theorem dX6_headSet_13 : decode cX6_headSet 13 = .ok (.ifCond .eq 24, 3) := by decide +kernel
theorem dX6_headSet_16 : decode cX6_headSet 16 = .ok (.aload_n 0, 1) := by decide +kernel
theorem dX6_headSet_17 : decode cX6_headSet 17 = .ok (.getfield 7, 3) := by decide +kernel
theorem dX6_headSet_20 : decode cX6_headSet 20 = .ok (.bipush 62, 2) := by decide +kernel
theorem dX6_headSet_22 : decode cX6_headSet 22 = .ok (.iload_n 3, 1) := by decide +kernel
theorem dX6_headSet_23 : decode cX6_headSet 23 = .ok (.iadd, 1) := by decide +kernel
theorem dX6_headSet_24 : decode cX6_headSet 24 = .ok (.iaload, 1) := by decide +kernel
theorem dX6_headSet_25 : decode cX6_headSet 25 = .ok (.iconst 1, 1) := by decide +kernel
theorem dX6_headSet_26 : decode cX6_headSet 26 = .ok (.if_icmp .ne 7, 3) := by decide +kernel
theorem dX6_headSet_29 : decode cX6_headSet 29 = .ok (.iconst 1, 1) := by decide +kernel
theorem dX6_headSet_30 : decode cX6_headSet 30 = .ok (.goto 20, 3) := by decide +kernel
theorem dX6_headSet_33 : decode cX6_headSet 33 = .ok (.iconst 0, 1) := by decide +kernel
theorem dX6_headSet_34 : decode cX6_headSet 34 = .ok (.goto 16, 3) := by decide +kernel
theorem dX6_headSet_37 : decode cX6_headSet 37 = .ok (.aload_n 0, 1) := by decide +kernel
theorem dX6_headSet_38 : decode cX6_headSet 38 = .ok (.iload_n 3, 1) := by decide +kernel
theorem dX6_headSet_39 : decode cX6_headSet 39 = .ok (.invokevirtual 71, 3) := by decide +kernel
theorem dX6_headSet_42 : decode cX6_headSet 42 = .ok (.ifCond .eq 7, 3) := by decide +kernel
theorem dX6_headSet_45 : decode cX6_headSet 45 = .ok (.iconst 1, 1) := by decide +kernel
theorem dX6_headSet_46 : decode cX6_headSet 46 = .ok (.goto 4, 3) := by decide +kernel
theorem dX6_headSet_49 : decode cX6_headSet 49 = .ok (.iconst 0, 1) := by decide +kernel
theorem dX6_headSet_50 : decode cX6_headSet 50 = .ok (.istore 4, 2) := by decide +kernel
theorem dX6_headSet_52 : decode cX6_headSet 52 = .ok (.iload_n 2, 1) := by decide +kernel
theorem dX6_headSet_53 : decode cX6_headSet 53 = .ok (.iload 4, 2) := by decide +kernel
theorem dX6_headSet_55 : decode cX6_headSet 55 = .ok (.ifCond .eq 9, 3) := by decide +kernel
theorem dX6_headSet_58 : decode cX6_headSet 58 = .ok (.iconst 1, 1) := by decide +kernel
theorem dX6_headSet_59 : decode cX6_headSet 59 = .ok (.iload_n 3, 1) := by decide +kernel
theorem dX6_headSet_60 : decode cX6_headSet 60 = .ok (.ishl, 1) := by decide +kernel
theorem dX6_headSet_61 : decode cX6_headSet 61 = .ok (.goto 4, 3) := by decide +kernel
theorem dX6_headSet_64 : decode cX6_headSet 64 = .ok (.iconst 0, 1) := by decide +kernel
theorem dX6_headSet_65 : decode cX6_headSet 65 = .ok (.ior, 1) := by decide +kernel
theorem dX6_headSet_66 : decode cX6_headSet 66 = .ok (.istore_n 2, 1) := by decide +kernel
theorem dX6_headSet_67 : decode cX6_headSet 67 = .ok (.iinc 3 1, 3) := by decide +kernel
theorem dX6_headSet_70 : decode cX6_headSet 70 = .ok (.goto (-66), 3) := by decide +kernel
theorem dX6_headSet_73 : decode cX6_headSet 73 = .ok (.iload_n 2, 1) := by decide +kernel
theorem dX6_headSet_74 : decode cX6_headSet 74 = .ok (.ireturn, 1) := by decide +kernel
theorem dX6_allOf_0 : decode cX6_allOf 0 = .ok (.iconst 0, 1) := by decide +kernel
theorem dX6_allOf_1 : decode cX6_allOf 1 = .ok (.istore_n 2, 1) := by decide +kernel
theorem dX6_allOf_2 : decode cX6_allOf 2 = .ok (.iconst 0, 1) := by decide +kernel
theorem dX6_allOf_3 : decode cX6_allOf 3 = .ok (.istore_n 3, 1) := by decide +kernel
theorem dX6_allOf_4 : decode cX6_allOf 4 = .ok (.iload_n 3, 1) := by decide +kernel
theorem dX6_allOf_5 : decode cX6_allOf 5 = .ok (.aload_n 0, 1) := by decide +kernel
theorem dX6_allOf_6 : decode cX6_allOf 6 = .ok (.getfield 7, 3) := by decide +kernel
theorem dX6_allOf_9 : decode cX6_allOf 9 = .ok (.iconst 0, 1) := by decide +kernel
theorem dX6_allOf_10 : decode cX6_allOf 10 = .ok (.iaload, 1) := by decide +kernel
theorem dX6_allOf_11 : decode cX6_allOf 11 = .ok (.if_icmp .ge 20, 3) := by decide +kernel
theorem dX6_allOf_14 : decode cX6_allOf 14 = .ok (.iload_n 2, 1) := by decide +kernel
theorem dX6_allOf_15 : decode cX6_allOf 15 = .ok (.aload_n 0, 1) := by decide +kernel
theorem dX6_allOf_16 : decode cX6_allOf 16 = .ok (.getfield 7, 3) := by decide +kernel
theorem dX6_allOf_19 : decode cX6_allOf 19 = .ok (.iload_n 1, 1) := by decide +kernel
theorem dX6_allOf_20 : decode cX6_allOf 20 = .ok (.iload_n 3, 1) := by decide +kernel
theorem dX6_allOf_21 : decode cX6_allOf 21 = .ok (.iadd, 1) := by decide +kernel
theorem dX6_allOf_22 : decode cX6_allOf 22 = .ok (.iaload, 1) := by decide +kernel
theorem dX6_allOf_23 : decode cX6_allOf 23 = .ok (.iadd, 1) := by decide +kernel
theorem dX6_allOf_24 : decode cX6_allOf 24 = .ok (.istore_n 2, 1) := by decide +kernel
theorem dX6_allOf_25 : decode cX6_allOf 25 = .ok (.iinc 3 1, 3) := by decide +kernel
theorem dX6_allOf_28 : decode cX6_allOf 28 = .ok (.goto (-24), 3) := by decide +kernel
theorem dX6_allOf_31 : decode cX6_allOf 31 = .ok (.iload_n 2, 1) := by decide +kernel
theorem dX6_allOf_32 : decode cX6_allOf 32 = .ok (.ireturn, 1) := by decide +kernel
set_option maxRecDepth 20000 in
theorem ggX6_wrongEntry_X6_isSection : GoodIn wsX6_wrongEntry wsX6_isSection := goodIn_r _ [9, 3, 10, 11, 8, 12, 13, 14, 15, 16, 17, 18] (by decide +kernel) (by decide +kernel)
set_option maxRecDepth 20000 in
theorem gX6_wrongEntry_X6_isSection : GoodIn wsX6_wrongEntry (wsV RX6 78 RX6 yX6_isSection wsX6_isSection) := goodIn_app (goodIn_of _ (by decide +kernel)) ggX6_wrongEntry_X6_isSection
theorem dX6_wrongEntry_0 : decode cX6_wrongEntry 0 = .ok (.iconst 0, 1) := by decide +kernel
theorem dX6_wrongEntry_1 : decode cX6_wrongEntry 1 = .ok (.istore_n 1, 1) := by decide +kernel
theorem dX6_wrongEntry_2 : decode cX6_wrongEntry 2 = .ok (.iload_n 1, 1) := by decide +kernel
theorem dX6_wrongEntry_3 : decode cX6_wrongEntry 3 = .ok (.aload_n 0, 1) := by decide +kernel
theorem dX6_wrongEntry_4 : decode cX6_wrongEntry 4 = .ok (.getfield 74, 3) := by decide +kernel
theorem dX6_wrongEntry_7 : decode cX6_wrongEntry 7 = .ok (.if_icmp .ge 46, 3) := by decide +kernel
theorem dX6_wrongEntry_10 : decode cX6_wrongEntry 10 = .ok (.aload_n 0, 1) := by decide +kernel
theorem dX6_wrongEntry_11 : decode cX6_wrongEntry 11 = .ok (.aload_n 0, 1) := by decide +kernel
theorem dX6_wrongEntry_12 : decode cX6_wrongEntry 12 = .ok (.getfield 13, 3) := by decide +kernel
theorem dX6_wrongEntry_15 : decode cX6_wrongEntry 15 = .ok (.iload_n 1, 1) := by decide +kernel
theorem dX6_wrongEntry_16 : decode cX6_wrongEntry 16 = .ok (.iaload, 1) := by decide +kernel
theorem dX6_wrongEntry_17 : decode cX6_wrongEntry 17 = .ok (.invokevirtual 78, 3) := by decide +kernel
theorem dX6_wrongEntry_20 : decode cX6_wrongEntry 20 = .ok (.ifCond .eq 25, 3) := by decide +kernel
theorem dX6_wrongEntry_23 : decode cX6_wrongEntry 23 = .ok (.aload_n 0, 1) := by decide +kernel
theorem dX6_wrongEntry_24 : decode cX6_wrongEntry 24 = .ok (.getfield 7, 3) := by decide +kernel
theorem dX6_wrongEntry_27 : decode cX6_wrongEntry 27 = .ok (.iconst 3, 1) := by decide +kernel
theorem dX6_wrongEntry_28 : decode cX6_wrongEntry 28 = .ok (.aload_n 0, 1) := by decide +kernel
theorem dX6_wrongEntry_29 : decode cX6_wrongEntry 29 = .ok (.getfield 13, 3) := by decide +kernel
theorem dX6_wrongEntry_32 : decode cX6_wrongEntry 32 = .ok (.iload_n 1, 1) := by decide +kernel
theorem dX6_wrongEntry_33 : decode cX6_wrongEntry 33 = .ok (.iaload, 1) := by decide +kernel
theorem dX6_wrongEntry_34 : decode cX6_wrongEntry 34 = .ok (.iadd, 1) := by decide +kernel
theorem dX6_wrongEntry_35 : decode cX6_wrongEntry 35 = .ok (.iaload, 1) := by decide +kernel
theorem dX6_wrongEntry_36 : decode cX6_wrongEntry 36 = .ok (.aload_n 0, 1) := by decide +kernel
theorem dX6_wrongEntry_37 : decode cX6_wrongEntry 37 = .ok (.getfield 16, 3) := by decide +kernel
theorem dX6_wrongEntry_40 : decode cX6_wrongEntry 40 = .ok (.iload_n 1, 1) := by decide +kernel
theorem dX6_wrongEntry_41 : decode cX6_wrongEntry 41 = .ok (.iaload, 1) := by decide +kernel
theorem dX6_wrongEntry_42 : decode cX6_wrongEntry 42 = .ok (.if_icmp .eq 5, 3) := by decide +kernel
theorem dX6_wrongEntry_45 : decode cX6_wrongEntry 45 = .ok (.iload_n 1, 1) := by decide +kernel
theorem dX6_wrongEntry_46 : decode cX6_wrongEntry 46 = .ok (.ireturn, 1) := by decide +kernel
theorem dX6_wrongEntry_47 : decode cX6_wrongEntry 47 = .ok (.iinc 1 1, 3) := by decide +kernel
theorem dX6_wrongEntry_50 : decode cX6_wrongEntry 50 = .ok (.goto (-48), 3) := by decide +kernel
theorem dX6_wrongEntry_53 : decode cX6_wrongEntry 53 = .ok (.iconst (-1), 1) := by decide +kernel
theorem dX6_wrongEntry_54 : decode cX6_wrongEntry 54 = .ok (.ireturn, 1) := by decide +kernel
set_option maxRecDepth 20000 in
theorem ggX6_told_X6_heads : GoodIn wsX6_told wsX6_heads := goodIn_r _ [9, 1, 55, 56, 57, 58, 59, 60] (by decide +kernel) (by decide +kernel)
set_option maxRecDepth 20000 in
theorem gX6_told_X6_heads : GoodIn wsX6_told (wsV RX6 23 RX6 yX6_heads wsX6_heads) := goodIn_app (goodIn_of _ (by decide +kernel)) ggX6_told_X6_heads
set_option maxRecDepth 20000 in
theorem ggX6_told_X6_called : GoodIn wsX6_told wsX6_called := goodIn_r _ [13, 1, 55, 56, 57, 58, 59, 60] (by decide +kernel) (by decide +kernel)
set_option maxRecDepth 20000 in
theorem gX6_told_X6_called : GoodIn wsX6_told (wsV RX6 81 RX6 yX6_called wsX6_called) := goodIn_app (goodIn_of _ (by decide +kernel)) ggX6_told_X6_called
set_option maxRecDepth 20000 in
theorem ggX6_told_X6_setOf : GoodIn wsX6_told wsX6_setOf := goodIn_r _ [17, 1, 55, 56, 57, 58, 59, 60] (by decide +kernel) (by decide +kernel)
set_option maxRecDepth 20000 in
theorem gX6_told_X6_setOf : GoodIn wsX6_told (wsV RX6 85 RX6 yX6_setOf wsX6_setOf) := goodIn_app (goodIn_of _ (by decide +kernel)) ggX6_told_X6_setOf
set_option maxRecDepth 20000 in
theorem ggX6_told_X6_headSet : GoodIn wsX6_told wsX6_headSet := goodIn_r _ [21, 1, 5, 6, 7, 8, 9, 22, 23, 24, 25, 26, 27, 28, 29, 30, 31, 32, 33, 34, 35, 36, 37, 55, 56, 57, 58, 59, 60] (by decide +kernel) (by decide +kernel)
set_option maxRecDepth 20000 in
theorem gX6_told_X6_headSet : GoodIn wsX6_told (wsV RX6 88 RX6 yX6_headSet wsX6_headSet) := goodIn_app (goodIn_of _ (by decide +kernel)) ggX6_told_X6_headSet
set_option maxRecDepth 20000 in
theorem ggX6_told_X6_allOf : GoodIn wsX6_told wsX6_allOf := goodIn_r _ [41, 1, 55, 56, 57, 58, 59, 60] (by decide +kernel) (by decide +kernel)
set_option maxRecDepth 20000 in
theorem gX6_told_X6_allOf : GoodIn wsX6_told (wsV RX6 92 RX6 yX6_allOf wsX6_allOf) := goodIn_app (goodIn_of _ (by decide +kernel)) ggX6_told_X6_allOf
set_option maxRecDepth 20000 in
theorem ggX6_told_X6_wrongEntry : GoodIn wsX6_told wsX6_wrongEntry := goodIn_r _ [45, 2, 46, 1, 47, 48, 49, 50, 8, 51, 52, 53, 54, 55, 56, 57, 58, 59, 60] (by decide +kernel) (by decide +kernel)
set_option maxRecDepth 20000 in
theorem gX6_told_X6_wrongEntry : GoodIn wsX6_told (wsV RX6 95 RX6 yX6_wrongEntry wsX6_wrongEntry) := goodIn_app (goodIn_of _ (by decide +kernel)) ggX6_told_X6_wrongEntry
theorem dX6_told_0 : decode cX6_told 0 = .ok (.iload_n 1, 1) := by decide +kernel
theorem dX6_told_1 : decode cX6_told 1 = .ok (.tableswitch 169 0 16 #[83, 90, 95, 102, 109, 109, 109, 109, 118, 118, 124, 130, 136, 143, 154, 159, 164], 83) := by decide +kernel
theorem dX6_told_84 : decode cX6_told 84 = .ok (.aload_n 0, 1) := by decide +kernel
theorem dX6_told_85 : decode cX6_told 85 = .ok (.getfield 7, 3) := by decide +kernel
theorem dX6_told_88 : decode cX6_told 88 = .ok (.iconst 0, 1) := by decide +kernel
theorem dX6_told_89 : decode cX6_told 89 = .ok (.iaload, 1) := by decide +kernel
theorem dX6_told_90 : decode cX6_told 90 = .ok (.ireturn, 1) := by decide +kernel
theorem dX6_told_91 : decode cX6_told 91 = .ok (.aload_n 0, 1) := by decide +kernel
theorem dX6_told_92 : decode cX6_told 92 = .ok (.invokevirtual 23, 3) := by decide +kernel
theorem dX6_told_95 : decode cX6_told 95 = .ok (.ireturn, 1) := by decide +kernel
theorem dX6_told_96 : decode cX6_told 96 = .ok (.aload_n 0, 1) := by decide +kernel
theorem dX6_told_97 : decode cX6_told 97 = .ok (.getfield 7, 3) := by decide +kernel
theorem dX6_told_100 : decode cX6_told 100 = .ok (.iconst 1, 1) := by decide +kernel
theorem dX6_told_101 : decode cX6_told 101 = .ok (.iaload, 1) := by decide +kernel
theorem dX6_told_102 : decode cX6_told 102 = .ok (.ireturn, 1) := by decide +kernel
theorem dX6_told_103 : decode cX6_told 103 = .ok (.aload_n 0, 1) := by decide +kernel
theorem dX6_told_104 : decode cX6_told 104 = .ok (.getfield 7, 3) := by decide +kernel
theorem dX6_told_107 : decode cX6_told 107 = .ok (.iconst 2, 1) := by decide +kernel
theorem dX6_told_108 : decode cX6_told 108 = .ok (.iaload, 1) := by decide +kernel
theorem dX6_told_109 : decode cX6_told 109 = .ok (.ireturn, 1) := by decide +kernel
theorem dX6_told_110 : decode cX6_told 110 = .ok (.aload_n 0, 1) := by decide +kernel
theorem dX6_told_111 : decode cX6_told 111 = .ok (.iconst 0, 1) := by decide +kernel
theorem dX6_told_112 : decode cX6_told 112 = .ok (.iload_n 1, 1) := by decide +kernel
theorem dX6_told_113 : decode cX6_told 113 = .ok (.iconst 4, 1) := by decide +kernel
theorem dX6_told_114 : decode cX6_told 114 = .ok (.isub, 1) := by decide +kernel
theorem dX6_told_115 : decode cX6_told 115 = .ok (.invokevirtual 81, 3) := by decide +kernel
theorem dX6_told_118 : decode cX6_told 118 = .ok (.ireturn, 1) := by decide +kernel
theorem dX6_told_119 : decode cX6_told 119 = .ok (.aload_n 0, 1) := by decide +kernel
theorem dX6_told_120 : decode cX6_told 120 = .ok (.iload_n 1, 1) := by decide +kernel
theorem dX6_told_121 : decode cX6_told 121 = .ok (.invokevirtual 85, 3) := by decide +kernel
theorem dX6_told_124 : decode cX6_told 124 = .ok (.ireturn, 1) := by decide +kernel
theorem dX6_told_125 : decode cX6_told 125 = .ok (.aload_n 0, 1) := by decide +kernel
theorem dX6_told_126 : decode cX6_told 126 = .ok (.iconst 1, 1) := by decide +kernel
theorem dX6_told_127 : decode cX6_told 127 = .ok (.invokevirtual 88, 3) := by decide +kernel
theorem dX6_told_130 : decode cX6_told 130 = .ok (.ireturn, 1) := by decide +kernel
theorem dX6_told_131 : decode cX6_told 131 = .ok (.aload_n 0, 1) := by decide +kernel
theorem dX6_told_132 : decode cX6_told 132 = .ok (.iconst 0, 1) := by decide +kernel
theorem dX6_told_133 : decode cX6_told 133 = .ok (.invokevirtual 88, 3) := by decide +kernel
theorem dX6_told_136 : decode cX6_told 136 = .ok (.ireturn, 1) := by decide +kernel
theorem dX6_told_137 : decode cX6_told 137 = .ok (.aload_n 0, 1) := by decide +kernel
theorem dX6_told_138 : decode cX6_told 138 = .ok (.bipush 15, 2) := by decide +kernel
theorem dX6_told_140 : decode cX6_told 140 = .ok (.invokevirtual 92, 3) := by decide +kernel
theorem dX6_told_143 : decode cX6_told 143 = .ok (.ireturn, 1) := by decide +kernel
theorem dX6_told_144 : decode cX6_told 144 = .ok (.aload_n 0, 1) := by decide +kernel
theorem dX6_told_145 : decode cX6_told 145 = .ok (.bipush 9, 2) := by decide +kernel
theorem dX6_told_147 : decode cX6_told 147 = .ok (.invokevirtual 92, 3) := by decide +kernel
theorem dX6_told_150 : decode cX6_told 150 = .ok (.sipush 1000, 3) := by decide +kernel
theorem dX6_told_153 : decode cX6_told 153 = .ok (.iadd, 1) := by decide +kernel
theorem dX6_told_154 : decode cX6_told 154 = .ok (.ireturn, 1) := by decide +kernel
theorem dX6_told_155 : decode cX6_told 155 = .ok (.aload_n 0, 1) := by decide +kernel
theorem dX6_told_156 : decode cX6_told 156 = .ok (.getfield 74, 3) := by decide +kernel
theorem dX6_told_159 : decode cX6_told 159 = .ok (.ireturn, 1) := by decide +kernel
theorem dX6_told_160 : decode cX6_told 160 = .ok (.aload_n 0, 1) := by decide +kernel
theorem dX6_told_161 : decode cX6_told 161 = .ok (.invokevirtual 95, 3) := by decide +kernel
theorem dX6_told_164 : decode cX6_told 164 = .ok (.ireturn, 1) := by decide +kernel
theorem dX6_told_165 : decode cX6_told 165 = .ok (.aload_n 0, 1) := by decide +kernel
theorem dX6_told_166 : decode cX6_told 166 = .ok (.getfield 98, 3) := by decide +kernel
theorem dX6_told_169 : decode cX6_told 169 = .ok (.ireturn, 1) := by decide +kernel
theorem dX6_told_170 : decode cX6_told 170 = .ok (.ldc 101, 2) := by decide +kernel
theorem dX6_told_172 : decode cX6_told 172 = .ok (.ireturn, 1) := by decide +kernel
set_option maxRecDepth 20000 in
theorem ggX6_leftTelegrams_X6_rightHead : GoodIn wsX6_leftTelegrams wsX6_rightHead := goodIn_r _ [6, 1, 7, 8, 9, 10, 11, 12] (by decide +kernel) (by decide +kernel)
set_option maxRecDepth 20000 in
theorem gX6_leftTelegrams_X6_rightHead : GoodIn wsX6_leftTelegrams (wsV RX6 38 RX6 yX6_rightHead wsX6_rightHead) := goodIn_app (goodIn_of _ (by decide +kernel)) ggX6_leftTelegrams_X6_rightHead
theorem dX6_leftTelegrams_0 : decode cX6_leftTelegrams 0 = .ok (.aload_n 0, 1) := by decide +kernel
theorem dX6_leftTelegrams_1 : decode cX6_leftTelegrams 1 = .ok (.getfield 7, 3) := by decide +kernel
theorem dX6_leftTelegrams_4 : decode cX6_leftTelegrams 4 = .ok (.bipush 55, 2) := by decide +kernel
theorem dX6_leftTelegrams_6 : decode cX6_leftTelegrams 6 = .ok (.iload_n 1, 1) := by decide +kernel
theorem dX6_leftTelegrams_7 : decode cX6_leftTelegrams 7 = .ok (.iadd, 1) := by decide +kernel
theorem dX6_leftTelegrams_8 : decode cX6_leftTelegrams 8 = .ok (.iaload, 1) := by decide +kernel
theorem dX6_leftTelegrams_9 : decode cX6_leftTelegrams 9 = .ok (.iconst 3, 1) := by decide +kernel
theorem dX6_leftTelegrams_10 : decode cX6_leftTelegrams 10 = .ok (.if_icmp .le 7, 3) := by decide +kernel
theorem dX6_leftTelegrams_13 : decode cX6_leftTelegrams 13 = .ok (.iconst 0, 1) := by decide +kernel
theorem dX6_leftTelegrams_14 : decode cX6_leftTelegrams 14 = .ok (.goto 14, 3) := by decide +kernel
theorem dX6_leftTelegrams_17 : decode cX6_leftTelegrams 17 = .ok (.iconst 4, 1) := by decide +kernel
theorem dX6_leftTelegrams_18 : decode cX6_leftTelegrams 18 = .ok (.aload_n 0, 1) := by decide +kernel
theorem dX6_leftTelegrams_19 : decode cX6_leftTelegrams 19 = .ok (.getfield 7, 3) := by decide +kernel
theorem dX6_leftTelegrams_22 : decode cX6_leftTelegrams 22 = .ok (.bipush 55, 2) := by decide +kernel
theorem dX6_leftTelegrams_24 : decode cX6_leftTelegrams 24 = .ok (.iload_n 1, 1) := by decide +kernel
theorem dX6_leftTelegrams_25 : decode cX6_leftTelegrams 25 = .ok (.iadd, 1) := by decide +kernel
theorem dX6_leftTelegrams_26 : decode cX6_leftTelegrams 26 = .ok (.iaload, 1) := by decide +kernel
theorem dX6_leftTelegrams_27 : decode cX6_leftTelegrams 27 = .ok (.isub, 1) := by decide +kernel
theorem dX6_leftTelegrams_28 : decode cX6_leftTelegrams 28 = .ok (.istore_n 2, 1) := by decide +kernel
theorem dX6_leftTelegrams_29 : decode cX6_leftTelegrams 29 = .ok (.aload_n 0, 1) := by decide +kernel
theorem dX6_leftTelegrams_30 : decode cX6_leftTelegrams 30 = .ok (.getfield 7, 3) := by decide +kernel
theorem dX6_leftTelegrams_33 : decode cX6_leftTelegrams 33 = .ok (.bipush 55, 2) := by decide +kernel
theorem dX6_leftTelegrams_35 : decode cX6_leftTelegrams 35 = .ok (.aload_n 0, 1) := by decide +kernel
theorem dX6_leftTelegrams_36 : decode cX6_leftTelegrams 36 = .ok (.iload_n 1, 1) := by decide +kernel
theorem dX6_leftTelegrams_37 : decode cX6_leftTelegrams 37 = .ok (.invokevirtual 38, 3) := by decide +kernel
theorem dX6_leftTelegrams_40 : decode cX6_leftTelegrams 40 = .ok (.iadd, 1) := by decide +kernel
theorem dX6_leftTelegrams_41 : decode cX6_leftTelegrams 41 = .ok (.iaload, 1) := by decide +kernel
theorem dX6_leftTelegrams_42 : decode cX6_leftTelegrams 42 = .ok (.iconst 3, 1) := by decide +kernel
theorem dX6_leftTelegrams_43 : decode cX6_leftTelegrams 43 = .ok (.if_icmp .le 7, 3) := by decide +kernel
theorem dX6_leftTelegrams_46 : decode cX6_leftTelegrams 46 = .ok (.iconst 0, 1) := by decide +kernel
theorem dX6_leftTelegrams_47 : decode cX6_leftTelegrams 47 = .ok (.goto 18, 3) := by decide +kernel
theorem dX6_leftTelegrams_50 : decode cX6_leftTelegrams 50 = .ok (.iconst 4, 1) := by decide +kernel
theorem dX6_leftTelegrams_51 : decode cX6_leftTelegrams 51 = .ok (.aload_n 0, 1) := by decide +kernel
theorem dX6_leftTelegrams_52 : decode cX6_leftTelegrams 52 = .ok (.getfield 7, 3) := by decide +kernel
theorem dX6_leftTelegrams_55 : decode cX6_leftTelegrams 55 = .ok (.bipush 55, 2) := by decide +kernel
theorem dX6_leftTelegrams_57 : decode cX6_leftTelegrams 57 = .ok (.aload_n 0, 1) := by decide +kernel
theorem dX6_leftTelegrams_58 : decode cX6_leftTelegrams 58 = .ok (.iload_n 1, 1) := by decide +kernel
theorem dX6_leftTelegrams_59 : decode cX6_leftTelegrams 59 = .ok (.invokevirtual 38, 3) := by decide +kernel
theorem dX6_leftTelegrams_62 : decode cX6_leftTelegrams 62 = .ok (.iadd, 1) := by decide +kernel
theorem dX6_leftTelegrams_63 : decode cX6_leftTelegrams 63 = .ok (.iaload, 1) := by decide +kernel
theorem dX6_leftTelegrams_64 : decode cX6_leftTelegrams 64 = .ok (.isub, 1) := by decide +kernel
theorem dX6_leftTelegrams_65 : decode cX6_leftTelegrams 65 = .ok (.istore_n 3, 1) := by decide +kernel
theorem dX6_leftTelegrams_66 : decode cX6_leftTelegrams 66 = .ok (.iload_n 2, 1) := by decide +kernel
theorem dX6_leftTelegrams_67 : decode cX6_leftTelegrams 67 = .ok (.iload_n 3, 1) := by decide +kernel
theorem dX6_leftTelegrams_68 : decode cX6_leftTelegrams 68 = .ok (.if_icmp .ge 7, 3) := by decide +kernel
theorem dX6_leftTelegrams_71 : decode cX6_leftTelegrams 71 = .ok (.iload_n 2, 1) := by decide +kernel
theorem dX6_leftTelegrams_72 : decode cX6_leftTelegrams 72 = .ok (.goto 4, 3) := by decide +kernel
theorem dX6_leftTelegrams_75 : decode cX6_leftTelegrams 75 = .ok (.iload_n 3, 1) := by decide +kernel
theorem dX6_leftTelegrams_76 : decode cX6_leftTelegrams 76 = .ok (.ireturn, 1) := by decide +kernel
theorem dX6_run_0 : decode cX6_run 0 = .ok (.iconst 0, 1) := by decide +kernel
theorem dX6_run_1 : decode cX6_run 1 = .ok (.istore_n 2, 1) := by decide +kernel
theorem dX6_run_2 : decode cX6_run 2 = .ok (.iload_n 1, 1) := by decide +kernel
theorem dX6_run_3 : decode cX6_run 3 = .ok (.istore_n 3, 1) := by decide +kernel
theorem dX6_run_4 : decode cX6_run 4 = .ok (.iload_n 2, 1) := by decide +kernel
theorem dX6_run_5 : decode cX6_run 5 = .ok (.aload_n 0, 1) := by decide +kernel
theorem dX6_run_6 : decode cX6_run 6 = .ok (.getfield 7, 3) := by decide +kernel
theorem dX6_run_9 : decode cX6_run 9 = .ok (.iconst 0, 1) := by decide +kernel
theorem dX6_run_10 : decode cX6_run 10 = .ok (.iaload, 1) := by decide +kernel
theorem dX6_run_11 : decode cX6_run 11 = .ok (.if_icmp .ge 57, 3) := by decide +kernel
theorem dX6_run_14 : decode cX6_run 14 = .ok (.iload_n 3, 1) := by decide +kernel
theorem dX6_run_15 : decode cX6_run 15 = .ok (.aload_n 0, 1) := by decide +kernel
theorem dX6_run_16 : decode cX6_run 16 = .ok (.getfield 7, 3) := by decide +kernel
theorem dX6_run_19 : decode cX6_run 19 = .ok (.iconst 0, 1) := by decide +kernel
theorem dX6_run_20 : decode cX6_run 20 = .ok (.iaload, 1) := by decide +kernel
theorem dX6_run_21 : decode cX6_run 21 = .ok (.if_icmp .ge 47, 3) := by decide +kernel
theorem dX6_run_24 : decode cX6_run 24 = .ok (.aload_n 0, 1) := by decide +kernel
theorem dX6_run_25 : decode cX6_run 25 = .ok (.getfield 7, 3) := by decide +kernel
theorem dX6_run_28 : decode cX6_run 28 = .ok (.iconst 3, 1) := by decide +kernel
theorem dX6_run_29 : decode cX6_run 29 = .ok (.iload_n 3, 1) := by decide +kernel
theorem dX6_run_30 : decode cX6_run 30 = .ok (.iadd, 1) := by decide +kernel
