theorem dX6_run_31 : decode cX6_run 31 = .ok (.iaload, 1) := by decide +kernel
theorem dX6_run_32 : decode cX6_run 32 = .ok (.ifCond .ne 36, 3) := by decide +kernel
theorem dX6_run_35 : decode cX6_run 35 = .ok (.iinc 2 1, 3) := by decide +kernel
theorem dX6_run_38 : decode cX6_run 38 = .ok (.aload_n 0, 1) := by decide +kernel
theorem dX6_run_39 : decode cX6_run 39 = .ok (.getfield 7, 3) := by decide +kernel
theorem dX6_run_42 : decode cX6_run 42 = .ok (.iconst 1, 1) := by decide +kernel
theorem dX6_run_43 : decode cX6_run 43 = .ok (.iaload, 1) := by decide +kernel
theorem dX6_run_44 : decode cX6_run 44 = .ok (.iconst 1, 1) := by decide +kernel
theorem dX6_run_45 : decode cX6_run 45 = .ok (.if_icmp .ne 16, 3) := by decide +kernel
theorem dX6_run_48 : decode cX6_run 48 = .ok (.iload_n 3, 1) := by decide +kernel
theorem dX6_run_49 : decode cX6_run 49 = .ok (.iconst 1, 1) := by decide +kernel
theorem dX6_run_50 : decode cX6_run 50 = .ok (.iadd, 1) := by decide +kernel
theorem dX6_run_51 : decode cX6_run 51 = .ok (.aload_n 0, 1) := by decide +kernel
theorem dX6_run_52 : decode cX6_run 52 = .ok (.getfield 7, 3) := by decide +kernel
theorem dX6_run_55 : decode cX6_run 55 = .ok (.iconst 0, 1) := by decide +kernel
theorem dX6_run_56 : decode cX6_run 56 = .ok (.iaload, 1) := by decide +kernel
theorem dX6_run_57 : decode cX6_run 57 = .ok (.irem, 1) := by decide +kernel
theorem dX6_run_58 : decode cX6_run 58 = .ok (.goto 6, 3) := by decide +kernel
theorem dX6_run_61 : decode cX6_run 61 = .ok (.iload_n 3, 1) := by decide +kernel
theorem dX6_run_62 : decode cX6_run 62 = .ok (.iconst 1, 1) := by decide +kernel
theorem dX6_run_63 : decode cX6_run 63 = .ok (.iadd, 1) := by decide +kernel
theorem dX6_run_64 : decode cX6_run 64 = .ok (.istore_n 3, 1) := by decide +kernel
theorem dX6_run_65 : decode cX6_run 65 = .ok (.goto (-61), 3) := by decide +kernel
theorem dX6_run_68 : decode cX6_run 68 = .ok (.iload_n 2, 1) := by decide +kernel
theorem dX6_run_69 : decode cX6_run 69 = .ok (.ireturn, 1) := by decide +kernel
set_option maxRecDepth 20000 in
theorem ggX6_section_X6_isSection : GoodIn wsX6_section wsX6_isSection := goodIn_r _ [8, 2, 9, 10, 7, 11, 36, 37, 38, 39, 40, 41] (by decide +kernel) (by decide +kernel)
set_option maxRecDepth 20000 in
theorem gX6_section_X6_isSection : GoodIn wsX6_section (wsV RX6 78 RX6 yX6_isSection wsX6_isSection) := goodIn_app (goodIn_of _ (by decide +kernel)) ggX6_section_X6_isSection
set_option maxRecDepth 20000 in
theorem ggX6_section_X6_isTrouble : GoodIn wsX6_section wsX6_isTrouble := goodIn_r _ [15, 2, 16, 17, 18, 7, 19, 20, 21, 22, 23, 24, 25, 26, 27, 36, 37, 38, 39, 40, 41] (by decide +kernel) (by decide +kernel)
set_option maxRecDepth 20000 in
theorem gX6_section_X6_isTrouble : GoodIn wsX6_section (wsV RX6 44 RX6 yX6_isTrouble wsX6_isTrouble) := goodIn_app (goodIn_of _ (by decide +kernel)) ggX6_section_X6_isTrouble
set_option maxRecDepth 20000 in
theorem ggX6_section_X6_leftTelegrams : GoodIn wsX6_section wsX6_leftTelegrams := goodIn_r _ [31, 2, 24, 25, 26, 7, 27, 36, 37, 38, 39, 40, 41] (by decide +kernel) (by decide +kernel)
set_option maxRecDepth 20000 in
theorem gX6_section_X6_leftTelegrams : GoodIn wsX6_section (wsV RX6 103 RX6 yX6_leftTelegrams wsX6_leftTelegrams) := goodIn_app (goodIn_of _ (by decide +kernel)) ggX6_section_X6_leftTelegrams
set_option maxRecDepth 20000 in
theorem ggX6_section_X6_run : GoodIn wsX6_section wsX6_run := goodIn_r _ [35, 2, 36, 37, 38, 39, 40, 41] (by decide +kernel) (by decide +kernel)
set_option maxRecDepth 20000 in
theorem gX6_section_X6_run : GoodIn wsX6_section (wsV RX6 106 RX6 yX6_run wsX6_run) := goodIn_app (goodIn_of _ (by decide +kernel)) ggX6_section_X6_run
theorem dX6_section_0 : decode cX6_section 0 = .ok (.aload_n 0, 1) := by decide +kernel
theorem dX6_section_1 : decode cX6_section 1 = .ok (.iload_n 1, 1) := by decide +kernel
theorem dX6_section_2 : decode cX6_section 2 = .ok (.invokevirtual 78, 3) := by decide +kernel
theorem dX6_section_5 : decode cX6_section 5 = .ok (.ifCond .ne 6, 3) := by decide +kernel
theorem dX6_section_8 : decode cX6_section 8 = .ok (.ldc 102, 2) := by decide +kernel
theorem dX6_section_10 : decode cX6_section 10 = .ok (.ireturn, 1) := by decide +kernel
theorem dX6_section_11 : decode cX6_section 11 = .ok (.iload_n 2, 1) := by decide +kernel
theorem dX6_section_12 : decode cX6_section 12 = .ok (.tableswitch 114 0 6 #[44, 53, 67, 77, 92, 102, 108], 44) := by decide +kernel
theorem dX6_section_56 : decode cX6_section 56 = .ok (.aload_n 0, 1) := by decide +kernel
theorem dX6_section_57 : decode cX6_section 57 = .ok (.getfield 7, 3) := by decide +kernel
theorem dX6_section_60 : decode cX6_section 60 = .ok (.iconst 3, 1) := by decide +kernel
theorem dX6_section_61 : decode cX6_section 61 = .ok (.iload_n 1, 1) := by decide +kernel
theorem dX6_section_62 : decode cX6_section 62 = .ok (.iadd, 1) := by decide +kernel
theorem dX6_section_63 : decode cX6_section 63 = .ok (.iaload, 1) := by decide +kernel
theorem dX6_section_64 : decode cX6_section 64 = .ok (.ireturn, 1) := by decide +kernel
theorem dX6_section_65 : decode cX6_section 65 = .ok (.aload_n 0, 1) := by decide +kernel
theorem dX6_section_66 : decode cX6_section 66 = .ok (.getfield 7, 3) := by decide +kernel
theorem dX6_section_69 : decode cX6_section 69 = .ok (.bipush 9, 2) := by decide +kernel
theorem dX6_section_71 : decode cX6_section 71 = .ok (.iload_n 1, 1) := by decide +kernel
theorem dX6_section_72 : decode cX6_section 72 = .ok (.iadd, 1) := by decide +kernel
theorem dX6_section_73 : decode cX6_section 73 = .ok (.iaload, 1) := by decide +kernel
theorem dX6_section_74 : decode cX6_section 74 = .ok (.sipush 1000, 3) := by decide +kernel
theorem dX6_section_77 : decode cX6_section 77 = .ok (.iadd, 1) := by decide +kernel
theorem dX6_section_78 : decode cX6_section 78 = .ok (.ireturn, 1) := by decide +kernel
theorem dX6_section_79 : decode cX6_section 79 = .ok (.aload_n 0, 1) := by decide +kernel
theorem dX6_section_80 : decode cX6_section 80 = .ok (.getfield 7, 3) := by decide +kernel
theorem dX6_section_83 : decode cX6_section 83 = .ok (.bipush 15, 2) := by decide +kernel
theorem dX6_section_85 : decode cX6_section 85 = .ok (.iload_n 1, 1) := by decide +kernel
theorem dX6_section_86 : decode cX6_section 86 = .ok (.iadd, 1) := by decide +kernel
theorem dX6_section_87 : decode cX6_section 87 = .ok (.iaload, 1) := by decide +kernel
theorem dX6_section_88 : decode cX6_section 88 = .ok (.ireturn, 1) := by decide +kernel
theorem dX6_section_89 : decode cX6_section 89 = .ok (.aload_n 0, 1) := by decide +kernel
theorem dX6_section_90 : decode cX6_section 90 = .ok (.iconst 0, 1) := by decide +kernel
theorem dX6_section_91 : decode cX6_section 91 = .ok (.iload_n 1, 1) := by decide +kernel
theorem dX6_section_92 : decode cX6_section 92 = .ok (.invokevirtual 44, 3) := by decide +kernel
theorem dX6_section_95 : decode cX6_section 95 = .ok (.ifCond .eq 7, 3) := by decide +kernel
theorem dX6_section_98 : decode cX6_section 98 = .ok (.iconst 1, 1) := by decide +kernel
theorem dX6_section_99 : decode cX6_section 99 = .ok (.goto 4, 3) := by decide +kernel
theorem dX6_section_102 : decode cX6_section 102 = .ok (.iconst 0, 1) := by decide +kernel
theorem dX6_section_103 : decode cX6_section 103 = .ok (.ireturn, 1) := by decide +kernel
theorem dX6_section_104 : decode cX6_section 104 = .ok (.aload_n 0, 1) := by decide +kernel
theorem dX6_section_105 : decode cX6_section 105 = .ok (.getfield 7, 3) := by decide +kernel
theorem dX6_section_108 : decode cX6_section 108 = .ok (.bipush 21, 2) := by decide +kernel
theorem dX6_section_110 : decode cX6_section 110 = .ok (.iload_n 1, 1) := by decide +kernel
theorem dX6_section_111 : decode cX6_section 111 = .ok (.iadd, 1) := by decide +kernel
theorem dX6_section_112 : decode cX6_section 112 = .ok (.iaload, 1) := by decide +kernel
theorem dX6_section_113 : decode cX6_section 113 = .ok (.ireturn, 1) := by decide +kernel
theorem dX6_section_114 : decode cX6_section 114 = .ok (.aload_n 0, 1) := by decide +kernel
theorem dX6_section_115 : decode cX6_section 115 = .ok (.iload_n 1, 1) := by decide +kernel
theorem dX6_section_116 : decode cX6_section 116 = .ok (.invokevirtual 103, 3) := by decide +kernel
theorem dX6_section_119 : decode cX6_section 119 = .ok (.ireturn, 1) := by decide +kernel
theorem dX6_section_120 : decode cX6_section 120 = .ok (.aload_n 0, 1) := by decide +kernel
theorem dX6_section_121 : decode cX6_section 121 = .ok (.iload_n 1, 1) := by decide +kernel
theorem dX6_section_122 : decode cX6_section 122 = .ok (.invokevirtual 106, 3) := by decide +kernel
theorem dX6_section_125 : decode cX6_section 125 = .ok (.ireturn, 1) := by decide +kernel
theorem dX6_section_126 : decode cX6_section 126 = .ok (.ldc 101, 2) := by decide +kernel
theorem dX6_section_128 : decode cX6_section 128 = .ok (.ireturn, 1) := by decide +kernel
set_option maxRecDepth 20000 in
theorem ggX6_joint_X6_isJoint : GoodIn wsX6_joint wsX6_isJoint := goodIn_r _ [6, 7, 8, 9, 5, 10, 1, 11, 12, 13, 14, 15, 16, 17, 18, 19, 20] (by decide +kernel) (by decide +kernel)
set_option maxRecDepth 20000 in
theorem gX6_joint_X6_isJoint : GoodIn wsX6_joint (wsV RX6 61 RX6 yX6_isJoint wsX6_isJoint) := goodIn_app (goodIn_of _ (by decide +kernel)) ggX6_joint_X6_isJoint
set_option maxRecDepth 20000 in
theorem ggX6_joint_X6_leftOf : GoodIn wsX6_joint wsX6_leftOf := goodIn_r _ [10, 1, 15, 16, 17, 18, 19, 20] (by decide +kernel) (by decide +kernel)
set_option maxRecDepth 20000 in
theorem gX6_joint_X6_leftOf : GoodIn wsX6_joint (wsV RX6 31 RX6 yX6_leftOf wsX6_leftOf) := goodIn_app (goodIn_of _ (by decide +kernel)) ggX6_joint_X6_leftOf
set_option maxRecDepth 20000 in
theorem ggX6_joint_X6_rightOf : GoodIn wsX6_joint wsX6_rightOf := goodIn_r _ [14, 1, 15, 16, 17, 18, 19, 20] (by decide +kernel) (by decide +kernel)
set_option maxRecDepth 20000 in
theorem gX6_joint_X6_rightOf : GoodIn wsX6_joint (wsV RX6 27 RX6 yX6_rightOf wsX6_rightOf) := goodIn_app (goodIn_of _ (by decide +kernel)) ggX6_joint_X6_rightOf
theorem dX6_joint_0 : decode cX6_joint 0 = .ok (.aload_n 0, 1) := by decide +kernel
theorem dX6_joint_1 : decode cX6_joint 1 = .ok (.iload_n 1, 1) := by decide +kernel
theorem dX6_joint_2 : decode cX6_joint 2 = .ok (.invokevirtual 61, 3) := by decide +kernel
theorem dX6_joint_5 : decode cX6_joint 5 = .ok (.ifCond .eq 37, 3) := by decide +kernel
theorem dX6_joint_8 : decode cX6_joint 8 = .ok (.aload_n 0, 1) := by decide +kernel
theorem dX6_joint_9 : decode cX6_joint 9 = .ok (.getfield 7, 3) := by decide +kernel
theorem dX6_joint_12 : decode cX6_joint 12 = .ok (.bipush 9, 2) := by decide +kernel
theorem dX6_joint_14 : decode cX6_joint 14 = .ok (.aload_n 0, 1) := by decide +kernel
theorem dX6_joint_15 : decode cX6_joint 15 = .ok (.iload_n 1, 1) := by decide +kernel
theorem dX6_joint_16 : decode cX6_joint 16 = .ok (.invokevirtual 31, 3) := by decide +kernel
theorem dX6_joint_19 : decode cX6_joint 19 = .ok (.iadd, 1) := by decide +kernel
theorem dX6_joint_20 : decode cX6_joint 20 = .ok (.iaload, 1) := by decide +kernel
theorem dX6_joint_21 : decode cX6_joint 21 = .ok (.aload_n 0, 1) := by decide +kernel
theorem dX6_joint_22 : decode cX6_joint 22 = .ok (.getfield 7, 3) := by decide +kernel
theorem dX6_joint_25 : decode cX6_joint 25 = .ok (.bipush 9, 2) := by decide +kernel
theorem dX6_joint_27 : decode cX6_joint 27 = .ok (.aload_n 0, 1) := by decide +kernel
theorem dX6_joint_28 : decode cX6_joint 28 = .ok (.iload_n 1, 1) := by decide +kernel
theorem dX6_joint_29 : decode cX6_joint 29 = .ok (.invokevirtual 27, 3) := by decide +kernel
theorem dX6_joint_32 : decode cX6_joint 32 = .ok (.iadd, 1) := by decide +kernel
theorem dX6_joint_33 : decode cX6_joint 33 = .ok (.iaload, 1) := by decide +kernel
theorem dX6_joint_34 : decode cX6_joint 34 = .ok (.iadd, 1) := by decide +kernel
theorem dX6_joint_35 : decode cX6_joint 35 = .ok (.sipush 2000, 3) := by decide +kernel
theorem dX6_joint_38 : decode cX6_joint 38 = .ok (.iadd, 1) := by decide +kernel
theorem dX6_joint_39 : decode cX6_joint 39 = .ok (.goto 4, 3) := by decide +kernel
theorem dX6_joint_42 : decode cX6_joint 42 = .ok (.iconst (-1), 1) := by decide +kernel
theorem dX6_joint_43 : decode cX6_joint 43 = .ok (.ireturn, 1) := by decide +kernel
set_option maxRecDepth 20000 in
theorem ggX6_head_X6_isHead : GoodIn wsX6_head wsX6_isHead := goodIn_r _ [8, 9, 10, 11, 7, 12, 2, 13, 14, 15, 40, 41, 42, 43, 44, 45] (by decide +kernel) (by decide +kernel)
set_option maxRecDepth 20000 in
theorem gX6_head_X6_isHead : GoodIn wsX6_head (wsV RX6 109 RX6 yX6_isHead wsX6_isHead) := goodIn_app (goodIn_of _ (by decide +kernel)) ggX6_head_X6_isHead
set_option maxRecDepth 20000 in
theorem ggX6_head_X6_joint : GoodIn wsX6_head wsX6_joint := goodIn_r _ [19, 2, 20, 21, 22, 7, 23, 24, 25, 26, 27, 28, 29, 30, 31, 40, 41, 42, 43, 44, 45] (by decide +kernel) (by decide +kernel)
set_option maxRecDepth 20000 in
theorem gX6_head_X6_joint : GoodIn wsX6_head (wsV RX6 112 RX6 yX6_joint wsX6_joint) := goodIn_app (goodIn_of _ (by decide +kernel)) ggX6_head_X6_joint
set_option maxRecDepth 20000 in
theorem ggX6_head_X6_byHowMuch : GoodIn wsX6_head wsX6_byHowMuch := goodIn_r _ [35, 2, 36, 37, 38, 7, 39, 28, 29, 30, 31, 24, 25, 26, 27, 40, 41, 42, 43, 44, 45] (by decide +kernel) (by decide +kernel)
set_option maxRecDepth 20000 in
theorem gX6_head_X6_byHowMuch : GoodIn wsX6_head (wsV RX6 71 RX6 yX6_byHowMuch wsX6_byHowMuch) := goodIn_app (goodIn_of _ (by decide +kernel)) ggX6_head_X6_byHowMuch
theorem dX6_head_0 : decode cX6_head 0 = .ok (.aload_n 0, 1) := by decide +kernel
theorem dX6_head_1 : decode cX6_head 1 = .ok (.iload_n 1, 1) := by decide +kernel
theorem dX6_head_2 : decode cX6_head 2 = .ok (.invokevirtual 109, 3) := by decide +kernel
theorem dX6_head_5 : decode cX6_head 5 = .ok (.ifCond .ne 6, 3) := by decide +kernel
theorem dX6_head_8 : decode cX6_head 8 = .ok (.ldc 102, 2) := by decide +kernel
theorem dX6_head_10 : decode cX6_head 10 = .ok (.ireturn, 1) := by decide +kernel
theorem dX6_head_11 : decode cX6_head 11 = .ok (.iload_n 2, 1) := by decide +kernel
theorem dX6_head_12 : decode cX6_head 12 = .ok (.tableswitch 169 0 9 #[56, 66, 78, 92, 102, 112, 122, 132, 142, 148], 56) := by decide +kernel
theorem dX6_head_68 : decode cX6_head 68 = .ok (.aload_n 0, 1) := by decide +kernel
theorem dX6_head_69 : decode cX6_head 69 = .ok (.getfield 7, 3) := by decide +kernel
theorem dX6_head_72 : decode cX6_head 72 = .ok (.bipush 27, 2) := by decide +kernel
theorem dX6_head_74 : decode cX6_head 74 = .ok (.iload_n 1, 1) := by decide +kernel
theorem dX6_head_75 : decode cX6_head 75 = .ok (.iadd, 1) := by decide +kernel
theorem dX6_head_76 : decode cX6_head 76 = .ok (.iaload, 1) := by decide +kernel
theorem dX6_head_77 : decode cX6_head 77 = .ok (.ireturn, 1) := by decide +kernel
theorem dX6_head_78 : decode cX6_head 78 = .ok (.aload_n 0, 1) := by decide +kernel
theorem dX6_head_79 : decode cX6_head 79 = .ok (.getfield 7, 3) := by decide +kernel
theorem dX6_head_82 : decode cX6_head 82 = .ok (.bipush 34, 2) := by decide +kernel
theorem dX6_head_84 : decode cX6_head 84 = .ok (.iload_n 1, 1) := by decide +kernel
theorem dX6_head_85 : decode cX6_head 85 = .ok (.iadd, 1) := by decide +kernel
theorem dX6_head_86 : decode cX6_head 86 = .ok (.iaload, 1) := by decide +kernel
theorem dX6_head_87 : decode cX6_head 87 = .ok (.iconst 4, 1) := by decide +kernel
theorem dX6_head_88 : decode cX6_head 88 = .ok (.iadd, 1) := by decide +kernel
theorem dX6_head_89 : decode cX6_head 89 = .ok (.ireturn, 1) := by decide +kernel
theorem dX6_head_90 : decode cX6_head 90 = .ok (.aload_n 0, 1) := by decide +kernel
theorem dX6_head_91 : decode cX6_head 91 = .ok (.getfield 7, 3) := by decide +kernel
theorem dX6_head_94 : decode cX6_head 94 = .ok (.bipush 41, 2) := by decide +kernel
theorem dX6_head_96 : decode cX6_head 96 = .ok (.iload_n 1, 1) := by decide +kernel
theorem dX6_head_97 : decode cX6_head 97 = .ok (.iadd, 1) := by decide +kernel
theorem dX6_head_98 : decode cX6_head 98 = .ok (.iaload, 1) := by decide +kernel
theorem dX6_head_99 : decode cX6_head 99 = .ok (.sipush 10000, 3) := by decide +kernel
theorem dX6_head_102 : decode cX6_head 102 = .ok (.iadd, 1) := by decide +kernel
theorem dX6_head_103 : decode cX6_head 103 = .ok (.ireturn, 1) := by decide +kernel
theorem dX6_head_104 : decode cX6_head 104 = .ok (.aload_n 0, 1) := by decide +kernel
theorem dX6_head_105 : decode cX6_head 105 = .ok (.getfield 7, 3) := by decide +kernel
theorem dX6_head_108 : decode cX6_head 108 = .ok (.bipush 48, 2) := by decide +kernel
theorem dX6_head_110 : decode cX6_head 110 = .ok (.iload_n 1, 1) := by decide +kernel
theorem dX6_head_111 : decode cX6_head 111 = .ok (.iadd, 1) := by decide +kernel
theorem dX6_head_112 : decode cX6_head 112 = .ok (.iaload, 1) := by decide +kernel
theorem dX6_head_113 : decode cX6_head 113 = .ok (.ireturn, 1) := by decide +kernel
theorem dX6_head_114 : decode cX6_head 114 = .ok (.aload_n 0, 1) := by decide +kernel
theorem dX6_head_115 : decode cX6_head 115 = .ok (.getfield 7, 3) := by decide +kernel
theorem dX6_head_118 : decode cX6_head 118 = .ok (.bipush 55, 2) := by decide +kernel
theorem dX6_head_120 : decode cX6_head 120 = .ok (.iload_n 1, 1) := by decide +kernel
theorem dX6_head_121 : decode cX6_head 121 = .ok (.iadd, 1) := by decide +kernel
theorem dX6_head_122 : decode cX6_head 122 = .ok (.iaload, 1) := by decide +kernel
theorem dX6_head_123 : decode cX6_head 123 = .ok (.ireturn, 1) := by decide +kernel
theorem dX6_head_124 : decode cX6_head 124 = .ok (.aload_n 0, 1) := by decide +kernel
theorem dX6_head_125 : decode cX6_head 125 = .ok (.getfield 7, 3) := by decide +kernel
theorem dX6_head_128 : decode cX6_head 128 = .ok (.bipush 62, 2) := by decide +kernel
theorem dX6_head_130 : decode cX6_head 130 = .ok (.iload_n 1, 1) := by decide +kernel
theorem dX6_head_131 : decode cX6_head 131 = .ok (.iadd, 1) := by decide +kernel
theorem dX6_head_132 : decode cX6_head 132 = .ok (.iaload, 1) := by decide +kernel
theorem dX6_head_133 : decode cX6_head 133 = .ok (.ireturn, 1) := by decide +kernel
theorem dX6_head_134 : decode cX6_head 134 = .ok (.aload_n 0, 1) := by decide +kernel
theorem dX6_head_135 : decode cX6_head 135 = .ok (.getfield 7, 3) := by decide +kernel
theorem dX6_head_138 : decode cX6_head 138 = .ok (.bipush 69, 2) := by decide +kernel
theorem dX6_head_140 : decode cX6_head 140 = .ok (.iload_n 1, 1) := by decide +kernel
theorem dX6_head_141 : decode cX6_head 141 = .ok (.iadd, 1) := by decide +kernel
theorem dX6_head_142 : decode cX6_head 142 = .ok (.iaload, 1) := by decide +kernel
theorem dX6_head_143 : decode cX6_head 143 = .ok (.ireturn, 1) := by decide +kernel
theorem dX6_head_144 : decode cX6_head 144 = .ok (.aload_n 0, 1) := by decide +kernel
theorem dX6_head_145 : decode cX6_head 145 = .ok (.getfield 7, 3) := by decide +kernel
theorem dX6_head_148 : decode cX6_head 148 = .ok (.bipush 76, 2) := by decide +kernel
theorem dX6_head_150 : decode cX6_head 150 = .ok (.iload_n 1, 1) := by decide +kernel
theorem dX6_head_151 : decode cX6_head 151 = .ok (.iadd, 1) := by decide +kernel
theorem dX6_head_152 : decode cX6_head 152 = .ok (.iaload, 1) := by decide +kernel
theorem dX6_head_153 : decode cX6_head 153 = .ok (.ireturn, 1) := by decide +kernel
theorem dX6_head_154 : decode cX6_head 154 = .ok (.aload_n 0, 1) := by decide +kernel
theorem dX6_head_155 : decode cX6_head 155 = .ok (.iload_n 1, 1) := by decide +kernel
theorem dX6_head_156 : decode cX6_head 156 = .ok (.invokevirtual 112, 3) := by decide +kernel
theorem dX6_head_159 : decode cX6_head 159 = .ok (.ireturn, 1) := by decide +kernel
theorem dX6_head_160 : decode cX6_head 160 = .ok (.aload_n 0, 1) := by decide +kernel
theorem dX6_head_161 : decode cX6_head 161 = .ok (.iload_n 1, 1) := by decide +kernel
theorem dX6_head_162 : decode cX6_head 162 = .ok (.invokevirtual 71, 3) := by decide +kernel
theorem dX6_head_165 : decode cX6_head 165 = .ok (.ifCond .ne 7, 3) := by decide +kernel
theorem dX6_head_168 : decode cX6_head 168 = .ok (.iconst (-1), 1) := by decide +kernel
theorem dX6_head_169 : decode cX6_head 169 = .ok (.goto 11, 3) := by decide +kernel
theorem dX6_head_172 : decode cX6_head 172 = .ok (.aload_n 0, 1) := by decide +kernel
theorem dX6_head_173 : decode cX6_head 173 = .ok (.iload_n 1, 1) := by decide +kernel
theorem dX6_head_174 : decode cX6_head 174 = .ok (.invokevirtual 71, 3) := by decide +kernel
theorem dX6_head_177 : decode cX6_head 177 = .ok (.bipush 10, 2) := by decide +kernel
theorem dX6_head_179 : decode cX6_head 179 = .ok (.iadd, 1) := by decide +kernel
theorem dX6_head_180 : decode cX6_head 180 = .ok (.ireturn, 1) := by decide +kernel
theorem dX6_head_181 : decode cX6_head 181 = .ok (.ldc 101, 2) := by decide +kernel
theorem dX6_head_183 : decode cX6_head 183 = .ok (.ireturn, 1) := by decide +kernel
set_option maxRecDepth 20000 in
theorem ggX6_remember_X6_copyRow : GoodIn wsX6_remember wsX6_copyRow := goodIn_r _ [6, 7, 8, 9, 10, 11, 12, 13] (by decide +kernel) (by decide +kernel)
set_option maxRecDepth 20000 in
theorem gX6_remember_X6_copyRow : GoodIn wsX6_remember (wsV RX6 115 RX6 yX6_copyRow wsX6_copyRow) := goodIn_app (goodIn_of _ (by decide +kernel)) ggX6_remember_X6_copyRow
theorem dX6_remember_0 : decode cX6_remember 0 = .ok (.aload_n 0, 1) := by decide +kernel
theorem dX6_remember_1 : decode cX6_remember 1 = .ok (.getfield 98, 3) := by decide +kernel
theorem dX6_remember_4 : decode cX6_remember 4 = .ok (.bipush 16, 2) := by decide +kernel
theorem dX6_remember_6 : decode cX6_remember 6 = .ok (.if_icmp .ne 41, 3) := by decide +kernel
theorem dX6_remember_9 : decode cX6_remember 9 = .ok (.iconst 1, 1) := by decide +kernel
theorem dX6_remember_10 : decode cX6_remember 10 = .ok (.istore_n 1, 1) := by decide +kernel
theorem dX6_remember_11 : decode cX6_remember 11 = .ok (.iload_n 1, 1) := by decide +kernel
theorem dX6_remember_12 : decode cX6_remember 12 = .ok (.bipush 16, 2) := by decide +kernel
theorem dX6_remember_14 : decode cX6_remember 14 = .ok (.if_icmp .ge 23, 3) := by decide +kernel
theorem dX6_remember_17 : decode cX6_remember 17 = .ok (.aload_n 0, 1) := by decide +kernel
theorem dX6_remember_18 : decode cX6_remember 18 = .ok (.bipush 84, 2) := by decide +kernel
theorem dX6_remember_20 : decode cX6_remember 20 = .ok (.iload_n 1, 1) := by decide +kernel
theorem dX6_remember_21 : decode cX6_remember 21 = .ok (.iconst 1, 1) := by decide +kernel
theorem dX6_remember_22 : decode cX6_remember 22 = .ok (.iadd, 1) := by decide +kernel
theorem dX6_remember_23 : decode cX6_remember 23 = .ok (.imul, 1) := by decide +kernel
theorem dX6_remember_24 : decode cX6_remember 24 = .ok (.bipush 84, 2) := by decide +kernel
theorem dX6_remember_26 : decode cX6_remember 26 = .ok (.iload_n 1, 1) := by decide +kernel
theorem dX6_remember_27 : decode cX6_remember 27 = .ok (.imul, 1) := by decide +kernel
theorem dX6_remember_28 : decode cX6_remember 28 = .ok (.invokevirtual 115, 3) := by decide +kernel
theorem dX6_remember_31 : decode cX6_remember 31 = .ok (.iinc 1 1, 3) := by decide +kernel
theorem dX6_remember_34 : decode cX6_remember 34 = .ok (.goto (-23), 3) := by decide +kernel
theorem dX6_remember_37 : decode cX6_remember 37 = .ok (.aload_n 0, 1) := by decide +kernel
theorem dX6_remember_38 : decode cX6_remember 38 = .ok (.dup, 1) := by decide +kernel
theorem dX6_remember_39 : decode cX6_remember 39 = .ok (.getfield 98, 3) := by decide +kernel
theorem dX6_remember_42 : decode cX6_remember 42 = .ok (.iconst 1, 1) := by decide +kernel
theorem dX6_remember_43 : decode cX6_remember 43 = .ok (.isub, 1) := by decide +kernel
theorem dX6_remember_44 : decode cX6_remember 44 = .ok (.putfield 98, 3) := by decide +kernel
theorem dX6_remember_47 : decode cX6_remember 47 = .ok (.aload_n 0, 1) := by decide +kernel
theorem dX6_remember_48 : decode cX6_remember 48 = .ok (.iconst 0, 1) := by decide +kernel
theorem dX6_remember_49 : decode cX6_remember 49 = .ok (.bipush 84, 2) := by decide +kernel
theorem dX6_remember_51 : decode cX6_remember 51 = .ok (.aload_n 0, 1) := by decide +kernel
theorem dX6_remember_52 : decode cX6_remember 52 = .ok (.getfield 98, 3) := by decide +kernel
theorem dX6_remember_55 : decode cX6_remember 55 = .ok (.iconst 1, 1) := by decide +kernel
theorem dX6_remember_56 : decode cX6_remember 56 = .ok (.iadd, 1) := by decide +kernel
theorem dX6_remember_57 : decode cX6_remember 57 = .ok (.imul, 1) := by decide +kernel
theorem dX6_remember_58 : decode cX6_remember 58 = .ok (.invokevirtual 115, 3) := by decide +kernel
theorem dX6_remember_61 : decode cX6_remember 61 = .ok (.aload_n 0, 1) := by decide +kernel
theorem dX6_remember_62 : decode cX6_remember 62 = .ok (.dup, 1) := by decide +kernel
theorem dX6_remember_63 : decode cX6_remember 63 = .ok (.getfield 98, 3) := by decide +kernel
theorem dX6_remember_66 : decode cX6_remember 66 = .ok (.iconst 1, 1) := by decide +kernel
theorem dX6_remember_67 : decode cX6_remember 67 = .ok (.iadd, 1) := by decide +kernel
theorem dX6_remember_68 : decode cX6_remember 68 = .ok (.putfield 98, 3) := by decide +kernel
theorem dX6_remember_71 : decode cX6_remember 71 = .ok (.return_, 1) := by decide +kernel
set_option maxRecDepth 20000 in
theorem ggX6_line_X6_in : GoodIn wsX6_line wsX6_in := goodIn_r _ [7] (by decide +kernel) (by decide +kernel)
set_option maxRecDepth 20000 in
theorem gX6_line_X6_in : GoodIn wsX6_line (va_wsS RX6 19 yX6_in wsX6_in) := goodIn_app (goodIn_of _ (by decide +kernel)) ggX6_line_X6_in
set_option maxRecDepth 20000 in
theorem ggX6_line_X6_remember : GoodIn wsX6_line wsX6_remember := goodIn_r _ [11, 12, 13, 14, 15, 6, 16, 2, 21, 22, 23, 24, 25, 26] (by decide +kernel) (by decide +kernel)
set_option maxRecDepth 20000 in
theorem gX6_line_X6_remember : GoodIn wsX6_line (wsV RX6 118 RX6 yX6_remember wsX6_remember) := goodIn_app (goodIn_of _ (by decide +kernel)) ggX6_line_X6_remember
set_option maxRecDepth 20000 in
theorem ggX6_line_X6_heads : GoodIn wsX6_line wsX6_heads := goodIn_r _ [20, 2, 21, 22, 23, 24, 25, 26] (by decide +kernel) (by decide +kernel)
set_option maxRecDepth 20000 in
theorem gX6_line_X6_heads : GoodIn wsX6_line (wsV RX6 23 RX6 yX6_heads wsX6_heads) := goodIn_app (goodIn_of _ (by decide +kernel)) ggX6_line_X6_heads
theorem dX6_line_0 : decode cX6_line 0 = .ok (.iload_n 1, 1) := by decide +kernel
theorem dX6_line_1 : decode cX6_line 1 = .ok (.iload_n 2, 1) := by decide +kernel
theorem dX6_line_2 : decode cX6_line 2 = .ok (.ifCond .eq 7, 3) := by decide +kernel
theorem dX6_line_5 : decode cX6_line 5 = .ok (.iconst 2, 1) := by decide +kernel
theorem dX6_line_6 : decode cX6_line 6 = .ok (.goto 4, 3) := by decide +kernel
theorem dX6_line_9 : decode cX6_line 9 = .ok (.iconst 1, 1) := by decide +kernel
theorem dX6_line_10 : decode cX6_line 10 = .ok (.bipush 6, 2) := by decide +kernel
theorem dX6_line_12 : decode cX6_line 12 = .ok (.invokestatic 19, 3) := by decide +kernel
theorem dX6_line_15 : decode cX6_line 15 = .ok (.ifCond .ne 6, 3) := by decide +kernel
theorem dX6_line_18 : decode cX6_line 18 = .ok (.ldc 101, 2) := by decide +kernel
theorem dX6_line_20 : decode cX6_line 20 = .ok (.ireturn, 1) := by decide +kernel
theorem dX6_line_21 : decode cX6_line 21 = .ok (.aload_n 0, 1) := by decide +kernel
theorem dX6_line_22 : decode cX6_line 22 = .ok (.invokevirtual 118, 3) := by decide +kernel
theorem dX6_line_25 : decode cX6_line 25 = .ok (.iconst 1, 1) := by decide +kernel
theorem dX6_line_26 : decode cX6_line 26 = .ok (.istore_n 3, 1) := by decide +kernel
theorem dX6_line_27 : decode cX6_line 27 = .ok (.iload_n 3, 1) := by decide +kernel
theorem dX6_line_28 : decode cX6_line 28 = .ok (.bipush 83, 2) := by decide +kernel
theorem dX6_line_30 : decode cX6_line 30 = .ok (.if_icmp .ge 16, 3) := by decide +kernel
theorem dX6_line_33 : decode cX6_line 33 = .ok (.aload_n 0, 1) := by decide +kernel
theorem dX6_line_34 : decode cX6_line 34 = .ok (.getfield 7, 3) := by decide +kernel
theorem dX6_line_37 : decode cX6_line 37 = .ok (.iload_n 3, 1) := by decide +kernel
theorem dX6_line_38 : decode cX6_line 38 = .ok (.iconst 0, 1) := by decide +kernel
theorem dX6_line_39 : decode cX6_line 39 = .ok (.iastore, 1) := by decide +kernel
theorem dX6_line_40 : decode cX6_line 40 = .ok (.iinc 3 1, 3) := by decide +kernel
theorem dX6_line_43 : decode cX6_line 43 = .ok (.goto (-16), 3) := by decide +kernel
theorem dX6_line_46 : decode cX6_line 46 = .ok (.aload_n 0, 1) := by decide +kernel
theorem dX6_line_47 : decode cX6_line 47 = .ok (.getfield 7, 3) := by decide +kernel
theorem dX6_line_50 : decode cX6_line 50 = .ok (.iconst 0, 1) := by decide +kernel
theorem dX6_line_51 : decode cX6_line 51 = .ok (.iload_n 1, 1) := by decide +kernel
theorem dX6_line_52 : decode cX6_line 52 = .ok (.iastore, 1) := by decide +kernel
theorem dX6_line_53 : decode cX6_line 53 = .ok (.aload_n 0, 1) := by decide +kernel
theorem dX6_line_54 : decode cX6_line 54 = .ok (.getfield 7, 3) := by decide +kernel
theorem dX6_line_57 : decode cX6_line 57 = .ok (.iconst 1, 1) := by decide +kernel
theorem dX6_line_58 : decode cX6_line 58 = .ok (.iload_n 2, 1) := by decide +kernel
theorem dX6_line_59 : decode cX6_line 59 = .ok (.ifCond .eq 7, 3) := by decide +kernel
theorem dX6_line_62 : decode cX6_line 62 = .ok (.iconst 1, 1) := by decide +kernel
theorem dX6_line_63 : decode cX6_line 63 = .ok (.goto 4, 3) := by decide +kernel
theorem dX6_line_66 : decode cX6_line 66 = .ok (.iconst 0, 1) := by decide +kernel
theorem dX6_line_67 : decode cX6_line 67 = .ok (.iastore, 1) := by decide +kernel
theorem dX6_line_68 : decode cX6_line 68 = .ok (.aload_n 0, 1) := by decide +kernel
theorem dX6_line_69 : decode cX6_line 69 = .ok (.iconst 0, 1) := by decide +kernel
theorem dX6_line_70 : decode cX6_line 70 = .ok (.putfield 74, 3) := by decide +kernel
theorem dX6_line_73 : decode cX6_line 73 = .ok (.aload_n 0, 1) := by decide +kernel
theorem dX6_line_74 : decode cX6_line 74 = .ok (.invokevirtual 23, 3) := by decide +kernel
theorem dX6_line_77 : decode cX6_line 77 = .ok (.ireturn, 1) := by decide +kernel
theorem dX6_placeOf_0 : decode cX6_placeOf 0 = .ok (.iload_n 0, 1) := by decide +kernel
theorem dX6_placeOf_1 : decode cX6_placeOf 1 = .ok (.ifCond .ne 7, 3) := by decide +kernel
theorem dX6_placeOf_4 : decode cX6_placeOf 4 = .ok (.iconst 0, 1) := by decide +kernel
theorem dX6_placeOf_5 : decode cX6_placeOf 5 = .ok (.goto 22, 3) := by decide +kernel
theorem dX6_placeOf_8 : decode cX6_placeOf 8 = .ok (.iload_n 0, 1) := by decide +kernel
theorem dX6_placeOf_9 : decode cX6_placeOf 9 = .ok (.iconst 2, 1) := by decide +kernel
theorem dX6_placeOf_10 : decode cX6_placeOf 10 = .ok (.if_icmp .ne 7, 3) := by decide +kernel
theorem dX6_placeOf_13 : decode cX6_placeOf 13 = .ok (.iconst 1, 1) := by decide +kernel
theorem dX6_placeOf_14 : decode cX6_placeOf 14 = .ok (.goto 13, 3) := by decide +kernel
theorem dX6_placeOf_17 : decode cX6_placeOf 17 = .ok (.iload_n 0, 1) := by decide +kernel
theorem dX6_placeOf_18 : decode cX6_placeOf 18 = .ok (.iconst 3, 1) := by decide +kernel
theorem dX6_placeOf_19 : decode cX6_placeOf 19 = .ok (.if_icmp .ne 7, 3) := by decide +kernel
theorem dX6_placeOf_22 : decode cX6_placeOf 22 = .ok (.iconst 2, 1) := by decide +kernel
theorem dX6_placeOf_23 : decode cX6_placeOf 23 = .ok (.goto 4, 3) := by decide +kernel
theorem dX6_placeOf_26 : decode cX6_placeOf 26 = .ok (.iconst 3, 1) := by decide +kernel
theorem dX6_placeOf_27 : decode cX6_placeOf 27 = .ok (.ireturn, 1) := by decide +kernel
set_option maxRecDepth 20000 in
theorem ggX6_feelOne_X6_placeOf : GoodIn wsX6_feelOne wsX6_placeOf := goodIn_r _ [5] (by decide +kernel) (by decide +kernel)
set_option maxRecDepth 20000 in
theorem gX6_feelOne_X6_placeOf : GoodIn wsX6_feelOne (va_wsS RX6 121 yX6_placeOf wsX6_placeOf) := goodIn_app (goodIn_of _ (by decide +kernel)) ggX6_feelOne_X6_placeOf
theorem dX6_feelOne_0 : decode cX6_feelOne 0 = .ok (.iload_n 2, 1) := by decide +kernel
theorem dX6_feelOne_1 : decode cX6_feelOne 1 = .ok (.invokestatic 121, 3) := by decide +kernel
theorem dX6_feelOne_4 : decode cX6_feelOne 4 = .ok (.aload_n 0, 1) := by decide +kernel
theorem dX6_feelOne_5 : decode cX6_feelOne 5 = .ok (.getfield 7, 3) := by decide +kernel
theorem dX6_feelOne_8 : decode cX6_feelOne 8 = .ok (.bipush 27, 2) := by decide +kernel
theorem dX6_feelOne_10 : decode cX6_feelOne 10 = .ok (.iload_n 1, 1) := by decide +kernel
theorem dX6_feelOne_11 : decode cX6_feelOne 11 = .ok (.iadd, 1) := by decide +kernel
theorem dX6_feelOne_12 : decode cX6_feelOne 12 = .ok (.iaload, 1) := by decide +kernel
theorem dX6_feelOne_13 : decode cX6_feelOne 13 = .ok (.invokestatic 121, 3) := by decide +kernel
theorem dX6_feelOne_16 : decode cX6_feelOne 16 = .ok (.isub, 1) := by decide +kernel
theorem dX6_feelOne_17 : decode cX6_feelOne 17 = .ok (.iconst 4, 1) := by decide +kernel
theorem dX6_feelOne_18 : decode cX6_feelOne 18 = .ok (.iadd, 1) := by decide +kernel
theorem dX6_feelOne_19 : decode cX6_feelOne 19 = .ok (.iconst 4, 1) := by decide +kernel
theorem dX6_feelOne_20 : decode cX6_feelOne 20 = .ok (.irem, 1) := by decide +kernel
theorem dX6_feelOne_21 : decode cX6_feelOne 21 = .ok (.istore_n 3, 1) := by decide +kernel
theorem dX6_feelOne_22 : decode cX6_feelOne 22 = .ok (.iload_n 3, 1) := by decide +kernel
theorem dX6_feelOne_23 : decode cX6_feelOne 23 = .ok (.iconst 2, 1) := by decide +kernel
theorem dX6_feelOne_24 : decode cX6_feelOne 24 = .ok (.if_icmp .ne 15, 3) := by decide +kernel
theorem dX6_feelOne_27 : decode cX6_feelOne 27 = .ok (.aload_n 0, 1) := by decide +kernel
theorem dX6_feelOne_28 : decode cX6_feelOne 28 = .ok (.getfield 7, 3) := by decide +kernel
theorem dX6_feelOne_31 : decode cX6_feelOne 31 = .ok (.bipush 62, 2) := by decide +kernel
theorem dX6_feelOne_33 : decode cX6_feelOne 33 = .ok (.iload_n 1, 1) := by decide +kernel
theorem dX6_feelOne_34 : decode cX6_feelOne 34 = .ok (.iadd, 1) := by decide +kernel
theorem dX6_feelOne_35 : decode cX6_feelOne 35 = .ok (.iconst 1, 1) := by decide +kernel
theorem dX6_feelOne_36 : decode cX6_feelOne 36 = .ok (.iastore, 1) := by decide +kernel
theorem dX6_feelOne_37 : decode cX6_feelOne 37 = .ok (.iconst 3, 1) := by decide +kernel
theorem dX6_feelOne_38 : decode cX6_feelOne 38 = .ok (.ireturn, 1) := by decide +kernel
theorem dX6_feelOne_39 : decode cX6_feelOne 39 = .ok (.aload_n 0, 1) := by decide +kernel
theorem dX6_feelOne_40 : decode cX6_feelOne 40 = .ok (.getfield 7, 3) := by decide +kernel
theorem dX6_feelOne_43 : decode cX6_feelOne 43 = .ok (.bipush 27, 2) := by decide +kernel
theorem dX6_feelOne_45 : decode cX6_feelOne 45 = .ok (.iload_n 1, 1) := by decide +kernel
theorem dX6_feelOne_46 : decode cX6_feelOne 46 = .ok (.iadd, 1) := by decide +kernel
theorem dX6_feelOne_47 : decode cX6_feelOne 47 = .ok (.iload_n 2, 1) := by decide +kernel
theorem dX6_feelOne_48 : decode cX6_feelOne 48 = .ok (.iastore, 1) := by decide +kernel
theorem dX6_feelOne_49 : decode cX6_feelOne 49 = .ok (.aload_n 0, 1) := by decide +kernel
theorem dX6_feelOne_50 : decode cX6_feelOne 50 = .ok (.getfield 7, 3) := by decide +kernel
theorem dX6_feelOne_53 : decode cX6_feelOne 53 = .ok (.bipush 34, 2) := by decide +kernel
theorem dX6_feelOne_55 : decode cX6_feelOne 55 = .ok (.iload_n 1, 1) := by decide +kernel
theorem dX6_feelOne_56 : decode cX6_feelOne 56 = .ok (.iadd, 1) := by decide +kernel
theorem dX6_feelOne_57 : decode cX6_feelOne 57 = .ok (.dup2, 1) := by decide +kernel
theorem dX6_feelOne_58 : decode cX6_feelOne 58 = .ok (.iaload, 1) := by decide +kernel
theorem dX6_feelOne_59 : decode cX6_feelOne 59 = .ok (.iload_n 3, 1) := by decide +kernel
theorem dX6_feelOne_60 : decode cX6_feelOne 60 = .ok (.iconst 1, 1) := by decide +kernel
theorem dX6_feelOne_61 : decode cX6_feelOne 61 = .ok (.if_icmp .ne 7, 3) := by decide +kernel
theorem dX6_feelOne_64 : decode cX6_feelOne 64 = .ok (.iconst 1, 1) := by decide +kernel
theorem dX6_feelOne_65 : decode cX6_feelOne 65 = .ok (.goto 4, 3) := by decide +kernel
theorem dX6_feelOne_68 : decode cX6_feelOne 68 = .ok (.iconst (-1), 1) := by decide +kernel
theorem dX6_feelOne_69 : decode cX6_feelOne 69 = .ok (.iadd, 1) := by decide +kernel
theorem dX6_feelOne_70 : decode cX6_feelOne 70 = .ok (.iastore, 1) := by decide +kernel
theorem dX6_feelOne_71 : decode cX6_feelOne 71 = .ok (.aload_n 0, 1) := by decide +kernel
theorem dX6_feelOne_72 : decode cX6_feelOne 72 = .ok (.getfield 7, 3) := by decide +kernel
theorem dX6_feelOne_75 : decode cX6_feelOne 75 = .ok (.bipush 34, 2) := by decide +kernel
theorem dX6_feelOne_77 : decode cX6_feelOne 77 = .ok (.iload_n 1, 1) := by decide +kernel
theorem dX6_feelOne_78 : decode cX6_feelOne 78 = .ok (.iadd, 1) := by decide +kernel
theorem dX6_feelOne_79 : decode cX6_feelOne 79 = .ok (.iaload, 1) := by decide +kernel
theorem dX6_feelOne_80 : decode cX6_feelOne 80 = .ok (.istore 4, 2) := by decide +kernel
theorem dX6_feelOne_82 : decode cX6_feelOne 82 = .ok (.iload 4, 2) := by decide +kernel
theorem dX6_feelOne_84 : decode cX6_feelOne 84 = .ok (.iconst 4, 1) := by decide +kernel
theorem dX6_feelOne_85 : decode cX6_feelOne 85 = .ok (.if_icmp .eq 12, 3) := by decide +kernel
theorem dX6_feelOne_88 : decode cX6_feelOne 88 = .ok (.iload 4, 2) := by decide +kernel
theorem dX6_feelOne_90 : decode cX6_feelOne 90 = .ok (.bipush (-4), 2) := by decide +kernel
theorem dX6_feelOne_92 : decode cX6_feelOne 92 = .ok (.if_icmp .eq 5, 3) := by decide +kernel
theorem dX6_feelOne_95 : decode cX6_feelOne 95 = .ok (.iconst 0, 1) := by decide +kernel
theorem dX6_feelOne_96 : decode cX6_feelOne 96 = .ok (.ireturn, 1) := by decide +kernel
theorem dX6_feelOne_97 : decode cX6_feelOne 97 = .ok (.aload_n 0, 1) := by decide +kernel
theorem dX6_feelOne_98 : decode cX6_feelOne 98 = .ok (.getfield 7, 3) := by decide +kernel
theorem dX6_feelOne_101 : decode cX6_feelOne 101 = .ok (.bipush 34, 2) := by decide +kernel
theorem dX6_feelOne_103 : decode cX6_feelOne 103 = .ok (.iload_n 1, 1) := by decide +kernel
theorem dX6_feelOne_104 : decode cX6_feelOne 104 = .ok (.iadd, 1) := by decide +kernel
theorem dX6_feelOne_105 : decode cX6_feelOne 105 = .ok (.iconst 0, 1) := by decide +kernel
theorem dX6_feelOne_106 : decode cX6_feelOne 106 = .ok (.iastore, 1) := by decide +kernel
theorem dX6_feelOne_107 : decode cX6_feelOne 107 = .ok (.aload_n 0, 1) := by decide +kernel
theorem dX6_feelOne_108 : decode cX6_feelOne 108 = .ok (.getfield 7, 3) := by decide +kernel
theorem dX6_feelOne_111 : decode cX6_feelOne 111 = .ok (.bipush 41, 2) := by decide +kernel
theorem dX6_feelOne_113 : decode cX6_feelOne 113 = .ok (.iload_n 1, 1) := by decide +kernel
theorem dX6_feelOne_114 : decode cX6_feelOne 114 = .ok (.iadd, 1) := by decide +kernel
theorem dX6_feelOne_115 : decode cX6_feelOne 115 = .ok (.dup2, 1) := by decide +kernel
theorem dX6_feelOne_116 : decode cX6_feelOne 116 = .ok (.iaload, 1) := by decide +kernel
theorem dX6_feelOne_117 : decode cX6_feelOne 117 = .ok (.iload 4, 2) := by decide +kernel
theorem dX6_feelOne_119 : decode cX6_feelOne 119 = .ok (.iconst 4, 1) := by decide +kernel
theorem dX6_feelOne_120 : decode cX6_feelOne 120 = .ok (.if_icmp .ne 7, 3) := by decide +kernel
theorem dX6_feelOne_123 : decode cX6_feelOne 123 = .ok (.iconst 1, 1) := by decide +kernel
theorem dX6_feelOne_124 : decode cX6_feelOne 124 = .ok (.goto 4, 3) := by decide +kernel
theorem dX6_feelOne_127 : decode cX6_feelOne 127 = .ok (.iconst (-1), 1) := by decide +kernel
theorem dX6_feelOne_128 : decode cX6_feelOne 128 = .ok (.iadd, 1) := by decide +kernel
theorem dX6_feelOne_129 : decode cX6_feelOne 129 = .ok (.iastore, 1) := by decide +kernel
theorem dX6_feelOne_130 : decode cX6_feelOne 130 = .ok (.iload 4, 2) := by decide +kernel
theorem dX6_feelOne_132 : decode cX6_feelOne 132 = .ok (.iconst 4, 1) := by decide +kernel
theorem dX6_feelOne_133 : decode cX6_feelOne 133 = .ok (.if_icmp .ne 7, 3) := by decide +kernel
theorem dX6_feelOne_136 : decode cX6_feelOne 136 = .ok (.iconst 1, 1) := by decide +kernel
theorem dX6_feelOne_137 : decode cX6_feelOne 137 = .ok (.goto 4, 3) := by decide +kernel
theorem dX6_feelOne_140 : decode cX6_feelOne 140 = .ok (.iconst 2, 1) := by decide +kernel
theorem dX6_feelOne_141 : decode cX6_feelOne 141 = .ok (.ireturn, 1) := by decide +kernel
set_option maxRecDepth 20000 in
theorem ggX6_feel_X6_isHead : GoodIn wsX6_feel wsX6_isHead := goodIn_r _ [9, 10, 11, 12, 8, 13, 3, 14, 15, 16, 33, 34, 35, 36, 37, 38] (by decide +kernel) (by decide +kernel)
set_option maxRecDepth 20000 in
theorem gX6_feel_X6_isHead : GoodIn wsX6_feel (wsV RX6 109 RX6 yX6_isHead wsX6_isHead) := goodIn_app (goodIn_of _ (by decide +kernel)) ggX6_feel_X6_isHead
set_option maxRecDepth 20000 in
theorem ggX6_feel_X6_in : GoodIn wsX6_feel wsX6_in := goodIn_r _ [16] (by decide +kernel) (by decide +kernel)
set_option maxRecDepth 20000 in
theorem gX6_feel_X6_in : GoodIn wsX6_feel (va_wsS RX6 19 yX6_in wsX6_in) := goodIn_app (goodIn_of _ (by decide +kernel)) ggX6_feel_X6_in
set_option maxRecDepth 20000 in
theorem ggX6_feel_X6_remember : GoodIn wsX6_feel wsX6_remember := goodIn_r _ [20, 21, 22, 23, 24, 8, 25, 3, 33, 34, 35, 36, 37, 38] (by decide +kernel) (by decide +kernel)
set_option maxRecDepth 20000 in
theorem gX6_feel_X6_remember : GoodIn wsX6_feel (wsV RX6 118 RX6 yX6_remember wsX6_remember) := goodIn_app (goodIn_of _ (by decide +kernel)) ggX6_feel_X6_remember
set_option maxRecDepth 20000 in
theorem ggX6_feel_X6_feelOne : GoodIn wsX6_feel wsX6_feelOne := goodIn_r _ [29, 3, 30, 31, 8, 32, 33, 34, 35, 36, 37, 38] (by decide +kernel) (by decide +kernel)
set_option maxRecDepth 20000 in
theorem gX6_feel_X6_feelOne : GoodIn wsX6_feel (wsV RX6 125 RX6 yX6_feelOne wsX6_feelOne) := goodIn_app (goodIn_of _ (by decide +kernel)) ggX6_feel_X6_feelOne
theorem dX6_feel_0 : decode cX6_feel 0 = .ok (.aload_n 0, 1) := by decide +kernel
theorem dX6_feel_1 : decode cX6_feel 1 = .ok (.iload_n 1, 1) := by decide +kernel
theorem dX6_feel_2 : decode cX6_feel 2 = .ok (.invokevirtual 109, 3) := by decide +kernel
theorem dX6_feel_5 : decode cX6_feel 5 = .ok (.ifCond .ne 6, 3) := by decide +kernel
theorem dX6_feel_8 : decode cX6_feel 8 = .ok (.ldc 102, 2) := by decide +kernel
theorem dX6_feel_10 : decode cX6_feel 10 = .ok (.ireturn, 1) := by decide +kernel
theorem dX6_feel_11 : decode cX6_feel 11 = .ok (.iload_n 2, 1) := by decide +kernel
theorem dX6_feel_12 : decode cX6_feel 12 = .ok (.iconst 0, 1) := by decide +kernel
theorem dX6_feel_13 : decode cX6_feel 13 = .ok (.iconst 3, 1) := by decide +kernel
theorem dX6_feel_14 : decode cX6_feel 14 = .ok (.invokestatic 19, 3) := by decide +kernel
theorem dX6_feel_17 : decode cX6_feel 17 = .ok (.ifCond .ne 6, 3) := by decide +kernel
theorem dX6_feel_20 : decode cX6_feel 20 = .ok (.ldc 101, 2) := by decide +kernel
theorem dX6_feel_22 : decode cX6_feel 22 = .ok (.ireturn, 1) := by decide +kernel
theorem dX6_feel_23 : decode cX6_feel 23 = .ok (.aload_n 0, 1) := by decide +kernel
theorem dX6_feel_24 : decode cX6_feel 24 = .ok (.getfield 7, 3) := by decide +kernel
theorem dX6_feel_27 : decode cX6_feel 27 = .ok (.bipush 62, 2) := by decide +kernel
theorem dX6_feel_29 : decode cX6_feel 29 = .ok (.iload_n 1, 1) := by decide +kernel
theorem dX6_feel_30 : decode cX6_feel 30 = .ok (.iadd, 1) := by decide +kernel
theorem dX6_feel_31 : decode cX6_feel 31 = .ok (.iaload, 1) := by decide +kernel
theorem dX6_feel_32 : decode cX6_feel 32 = .ok (.iconst 1, 1) := by decide +kernel
theorem dX6_feel_33 : decode cX6_feel 33 = .ok (.if_icmp .eq 16, 3) := by decide +kernel
theorem dX6_feel_36 : decode cX6_feel 36 = .ok (.aload_n 0, 1) := by decide +kernel
theorem dX6_feel_37 : decode cX6_feel 37 = .ok (.getfield 7, 3) := by decide +kernel
theorem dX6_feel_40 : decode cX6_feel 40 = .ok (.bipush 27, 2) := by decide +kernel
theorem dX6_feel_42 : decode cX6_feel 42 = .ok (.iload_n 1, 1) := by decide +kernel
theorem dX6_feel_43 : decode cX6_feel 43 = .ok (.iadd, 1) := by decide +kernel
theorem dX6_feel_44 : decode cX6_feel 44 = .ok (.iaload, 1) := by decide +kernel
theorem dX6_feel_45 : decode cX6_feel 45 = .ok (.iload_n 2, 1) := by decide +kernel
theorem dX6_feel_46 : decode cX6_feel 46 = .ok (.if_icmp .ne 6, 3) := by decide +kernel
theorem dX6_feel_49 : decode cX6_feel 49 = .ok (.ldc 124, 2) := by decide +kernel
theorem dX6_feel_51 : decode cX6_feel 51 = .ok (.ireturn, 1) := by decide +kernel
theorem dX6_feel_52 : decode cX6_feel 52 = .ok (.aload_n 0, 1) := by decide +kernel
theorem dX6_feel_53 : decode cX6_feel 53 = .ok (.invokevirtual 118, 3) := by decide +kernel
theorem dX6_feel_56 : decode cX6_feel 56 = .ok (.aload_n 0, 1) := by decide +kernel
theorem dX6_feel_57 : decode cX6_feel 57 = .ok (.iload_n 1, 1) := by decide +kernel
theorem dX6_feel_58 : decode cX6_feel 58 = .ok (.iload_n 2, 1) := by decide +kernel
theorem dX6_feel_59 : decode cX6_feel 59 = .ok (.invokevirtual 125, 3) := by decide +kernel
theorem dX6_feel_62 : decode cX6_feel 62 = .ok (.ireturn, 1) := by decide +kernel
set_option maxRecDepth 20000 in
theorem ggX6_canGo_X6_leftOf : GoodIn wsX6_canGo wsX6_leftOf := goodIn_r _ [6, 1, 11, 12, 13, 14, 15, 16] (by decide +kernel) (by decide +kernel)
set_option maxRecDepth 20000 in
theorem gX6_canGo_X6_leftOf : GoodIn wsX6_canGo (wsV RX6 31 RX6 yX6_leftOf wsX6_leftOf) := goodIn_app (goodIn_of _ (by decide +kernel)) ggX6_canGo_X6_leftOf
set_option maxRecDepth 20000 in
theorem ggX6_canGo_X6_rightOf : GoodIn wsX6_canGo wsX6_rightOf := goodIn_r _ [10, 1, 11, 12, 13, 14, 15, 16] (by decide +kernel) (by decide +kernel)
set_option maxRecDepth 20000 in
theorem gX6_canGo_X6_rightOf : GoodIn wsX6_canGo (wsV RX6 27 RX6 yX6_rightOf wsX6_rightOf) := goodIn_app (goodIn_of _ (by decide +kernel)) ggX6_canGo_X6_rightOf
theorem dX6_canGo_0 : decode cX6_canGo 0 = .ok (.iload_n 2, 1) := by decide +kernel
theorem dX6_canGo_1 : decode cX6_canGo 1 = .ok (.ifCond .ne 11, 3) := by decide +kernel
theorem dX6_canGo_4 : decode cX6_canGo 4 = .ok (.aload_n 0, 1) := by decide +kernel
theorem dX6_canGo_5 : decode cX6_canGo 5 = .ok (.iload_n 1, 1) := by decide +kernel
theorem dX6_canGo_6 : decode cX6_canGo 6 = .ok (.invokevirtual 31, 3) := by decide +kernel
theorem dX6_canGo_9 : decode cX6_canGo 9 = .ok (.goto 8, 3) := by decide +kernel
theorem dX6_canGo_12 : decode cX6_canGo 12 = .ok (.aload_n 0, 1) := by decide +kernel
theorem dX6_canGo_13 : decode cX6_canGo 13 = .ok (.iload_n 1, 1) := by decide +kernel
theorem dX6_canGo_14 : decode cX6_canGo 14 = .ok (.invokevirtual 27, 3) := by decide +kernel
theorem dX6_canGo_17 : decode cX6_canGo 17 = .ok (.istore 4, 2) := by decide +kernel
theorem dX6_canGo_19 : decode cX6_canGo 19 = .ok (.iload 4, 2) := by decide +kernel
theorem dX6_canGo_21 : decode cX6_canGo 21 = .ok (.iconst (-1), 1) := by decide +kernel
theorem dX6_canGo_22 : decode cX6_canGo 22 = .ok (.if_icmp .eq 17, 3) := by decide +kernel
theorem dX6_canGo_25 : decode cX6_canGo 25 = .ok (.aload_n 0, 1) := by decide +kernel
theorem dX6_canGo_26 : decode cX6_canGo 26 = .ok (.getfield 7, 3) := by decide +kernel
theorem dX6_canGo_29 : decode cX6_canGo 29 = .ok (.bipush 15, 2) := by decide +kernel
theorem dX6_canGo_31 : decode cX6_canGo 31 = .ok (.iload 4, 2) := by decide +kernel
theorem dX6_canGo_33 : decode cX6_canGo 33 = .ok (.iadd, 1) := by decide +kernel
theorem dX6_canGo_34 : decode cX6_canGo 34 = .ok (.iaload, 1) := by decide +kernel
theorem dX6_canGo_35 : decode cX6_canGo 35 = .ok (.iload_n 3, 1) := by decide +kernel
theorem dX6_canGo_36 : decode cX6_canGo 36 = .ok (.if_icmp .lt 7, 3) := by decide +kernel
theorem dX6_canGo_39 : decode cX6_canGo 39 = .ok (.iconst 1, 1) := by decide +kernel
theorem dX6_canGo_40 : decode cX6_canGo 40 = .ok (.goto 4, 3) := by decide +kernel
theorem dX6_canGo_43 : decode cX6_canGo 43 = .ok (.iconst 0, 1) := by decide +kernel
theorem dX6_canGo_44 : decode cX6_canGo 44 = .ok (.ireturn, 1) := by decide +kernel
theorem dX6_feels_0 : decode cX6_feels 0 = .ok (.aload_n 0, 1) := by decide +kernel
theorem dX6_feels_1 : decode cX6_feels 1 = .ok (.getfield 7, 3) := by decide +kernel
theorem dX6_feels_4 : decode cX6_feels 4 = .ok (.bipush 62, 2) := by decide +kernel
theorem dX6_feels_6 : decode cX6_feels 6 = .ok (.iload_n 1, 1) := by decide +kernel
theorem dX6_feels_7 : decode cX6_feels 7 = .ok (.iadd, 1) := by decide +kernel
theorem dX6_feels_8 : decode cX6_feels 8 = .ok (.iaload, 1) := by decide +kernel
theorem dX6_feels_9 : decode cX6_feels 9 = .ok (.ifCond .ne 19, 3) := by decide +kernel
theorem dX6_feels_12 : decode cX6_feels 12 = .ok (.aload_n 0, 1) := by decide +kernel
theorem dX6_feels_13 : decode cX6_feels 13 = .ok (.getfield 7, 3) := by decide +kernel
theorem dX6_feels_16 : decode cX6_feels 16 = .ok (.bipush 27, 2) := by decide +kernel
theorem dX6_feels_18 : decode cX6_feels 18 = .ok (.iload_n 1, 1) := by decide +kernel
theorem dX6_feels_19 : decode cX6_feels 19 = .ok (.iadd, 1) := by decide +kernel
theorem dX6_feels_20 : decode cX6_feels 20 = .ok (.iaload, 1) := by decide +kernel
theorem dX6_feels_21 : decode cX6_feels 21 = .ok (.ifCond .ne 7, 3) := by decide +kernel
theorem dX6_feels_24 : decode cX6_feels 24 = .ok (.iconst 1, 1) := by decide +kernel
theorem dX6_feels_25 : decode cX6_feels 25 = .ok (.goto 4, 3) := by decide +kernel
theorem dX6_feels_28 : decode cX6_feels 28 = .ok (.iconst 0, 1) := by decide +kernel
theorem dX6_feels_29 : decode cX6_feels 29 = .ok (.ireturn, 1) := by decide +kernel
set_option maxRecDepth 20000 in
theorem ggX6_goOver_X6_leftOf : GoodIn wsX6_goOver wsX6_leftOf := goodIn_r _ [6, 1, 11, 12, 13, 14, 15, 16] (by decide +kernel) (by decide +kernel)
set_option maxRecDepth 20000 in
theorem gX6_goOver_X6_leftOf : GoodIn wsX6_goOver (wsV RX6 31 RX6 yX6_leftOf wsX6_leftOf) := goodIn_app (goodIn_of _ (by decide +kernel)) ggX6_goOver_X6_leftOf
set_option maxRecDepth 20000 in
theorem ggX6_goOver_X6_rightOf : GoodIn wsX6_goOver wsX6_rightOf := goodIn_r _ [10, 1, 11, 12, 13, 14, 15, 16] (by decide +kernel) (by decide +kernel)
set_option maxRecDepth 20000 in
theorem gX6_goOver_X6_rightOf : GoodIn wsX6_goOver (wsV RX6 27 RX6 yX6_rightOf wsX6_rightOf) := goodIn_app (goodIn_of _ (by decide +kernel)) ggX6_goOver_X6_rightOf
theorem dX6_goOver_0 : decode cX6_goOver 0 = .ok (.iload_n 2, 1) := by decide +kernel
theorem dX6_goOver_1 : decode cX6_goOver 1 = .ok (.ifCond .ne 11, 3) := by decide +kernel
theorem dX6_goOver_4 : decode cX6_goOver 4 = .ok (.aload_n 0, 1) := by decide +kernel
theorem dX6_goOver_5 : decode cX6_goOver 5 = .ok (.iload_n 1, 1) := by decide +kernel
theorem dX6_goOver_6 : decode cX6_goOver 6 = .ok (.invokevirtual 31, 3) := by decide +kernel
theorem dX6_goOver_9 : decode cX6_goOver 9 = .ok (.goto 8, 3) := by decide +kernel
theorem dX6_goOver_12 : decode cX6_goOver 12 = .ok (.aload_n 0, 1) := by decide +kernel
theorem dX6_goOver_13 : decode cX6_goOver 13 = .ok (.iload_n 1, 1) := by decide +kernel
theorem dX6_goOver_14 : decode cX6_goOver 14 = .ok (.invokevirtual 27, 3) := by decide +kernel
theorem dX6_goOver_17 : decode cX6_goOver 17 = .ok (.istore 5, 2) := by decide +kernel
theorem dX6_goOver_19 : decode cX6_goOver 19 = .ok (.iload_n 2, 1) := by decide +kernel
theorem dX6_goOver_20 : decode cX6_goOver 20 = .ok (.ifCond .ne 11, 3) := by decide +kernel
theorem dX6_goOver_23 : decode cX6_goOver 23 = .ok (.aload_n 0, 1) := by decide +kernel
theorem dX6_goOver_24 : decode cX6_goOver 24 = .ok (.iload_n 1, 1) := by decide +kernel
theorem dX6_goOver_25 : decode cX6_goOver 25 = .ok (.invokevirtual 27, 3) := by decide +kernel
theorem dX6_goOver_28 : decode cX6_goOver 28 = .ok (.goto 8, 3) := by decide +kernel
theorem dX6_goOver_31 : decode cX6_goOver 31 = .ok (.aload_n 0, 1) := by decide +kernel
theorem dX6_goOver_32 : decode cX6_goOver 32 = .ok (.iload_n 1, 1) := by decide +kernel
theorem dX6_goOver_33 : decode cX6_goOver 33 = .ok (.invokevirtual 31, 3) := by decide +kernel
theorem dX6_goOver_36 : decode cX6_goOver 36 = .ok (.istore 6, 2) := by decide +kernel
theorem dX6_goOver_38 : decode cX6_goOver 38 = .ok (.iload 5, 2) := by decide +kernel
theorem dX6_goOver_40 : decode cX6_goOver 40 = .ok (.iconst (-1), 1) := by decide +kernel
theorem dX6_goOver_41 : decode cX6_goOver 41 = .ok (.if_icmp .eq 17, 3) := by decide +kernel
theorem dX6_goOver_44 : decode cX6_goOver 44 = .ok (.aload_n 0, 1) := by decide +kernel
theorem dX6_goOver_45 : decode cX6_goOver 45 = .ok (.getfield 7, 3) := by decide +kernel
theorem dX6_goOver_48 : decode cX6_goOver 48 = .ok (.bipush 15, 2) := by decide +kernel
theorem dX6_goOver_50 : decode cX6_goOver 50 = .ok (.iload 5, 2) := by decide +kernel
theorem dX6_goOver_52 : decode cX6_goOver 52 = .ok (.iadd, 1) := by decide +kernel
theorem dX6_goOver_53 : decode cX6_goOver 53 = .ok (.dup2, 1) := by decide +kernel
theorem dX6_goOver_54 : decode cX6_goOver 54 = .ok (.iaload, 1) := by decide +kernel
theorem dX6_goOver_55 : decode cX6_goOver 55 = .ok (.iload_n 3, 1) := by decide +kernel
theorem dX6_goOver_56 : decode cX6_goOver 56 = .ok (.isub, 1) := by decide +kernel
theorem dX6_goOver_57 : decode cX6_goOver 57 = .ok (.iastore, 1) := by decide +kernel
theorem dX6_goOver_58 : decode cX6_goOver 58 = .ok (.iload 6, 2) := by decide +kernel
theorem dX6_goOver_60 : decode cX6_goOver 60 = .ok (.iconst (-1), 1) := by decide +kernel
theorem dX6_goOver_61 : decode cX6_goOver 61 = .ok (.if_icmp .eq 17, 3) := by decide +kernel
theorem dX6_goOver_64 : decode cX6_goOver 64 = .ok (.aload_n 0, 1) := by decide +kernel
theorem dX6_goOver_65 : decode cX6_goOver 65 = .ok (.getfield 7, 3) := by decide +kernel
theorem dX6_goOver_68 : decode cX6_goOver 68 = .ok (.bipush 15, 2) := by decide +kernel
theorem dX6_goOver_70 : decode cX6_goOver 70 = .ok (.iload 6, 2) := by decide +kernel
theorem dX6_goOver_72 : decode cX6_goOver 72 = .ok (.iadd, 1) := by decide +kernel
theorem dX6_goOver_73 : decode cX6_goOver 73 = .ok (.dup2, 1) := by decide +kernel
theorem dX6_goOver_74 : decode cX6_goOver 74 = .ok (.iaload, 1) := by decide +kernel
theorem dX6_goOver_75 : decode cX6_goOver 75 = .ok (.iload_n 3, 1) := by decide +kernel
theorem dX6_goOver_76 : decode cX6_goOver 76 = .ok (.iadd, 1) := by decide +kernel
theorem dX6_goOver_77 : decode cX6_goOver 77 = .ok (.iastore, 1) := by decide +kernel
theorem dX6_goOver_78 : decode cX6_goOver 78 = .ok (.iload 4, 2) := by decide +kernel
theorem dX6_goOver_80 : decode cX6_goOver 80 = .ok (.ifCond .eq 25, 3) := by decide +kernel
theorem dX6_goOver_83 : decode cX6_goOver 83 = .ok (.aload_n 0, 1) := by decide +kernel
theorem dX6_goOver_84 : decode cX6_goOver 84 = .ok (.getfield 7, 3) := by decide +kernel
theorem dX6_goOver_87 : decode cX6_goOver 87 = .ok (.bipush 41, 2) := by decide +kernel
theorem dX6_goOver_89 : decode cX6_goOver 89 = .ok (.iload_n 1, 1) := by decide +kernel
theorem dX6_goOver_90 : decode cX6_goOver 90 = .ok (.iadd, 1) := by decide +kernel
theorem dX6_goOver_91 : decode cX6_goOver 91 = .ok (.dup2, 1) := by decide +kernel
theorem dX6_goOver_92 : decode cX6_goOver 92 = .ok (.iaload, 1) := by decide +kernel
theorem dX6_goOver_93 : decode cX6_goOver 93 = .ok (.iload_n 2, 1) := by decide +kernel
theorem dX6_goOver_94 : decode cX6_goOver 94 = .ok (.ifCond .ne 7, 3) := by decide +kernel
theorem dX6_goOver_97 : decode cX6_goOver 97 = .ok (.iload_n 3, 1) := by decide +kernel
theorem dX6_goOver_98 : decode cX6_goOver 98 = .ok (.goto 5, 3) := by decide +kernel
theorem dX6_goOver_101 : decode cX6_goOver 101 = .ok (.iload_n 3, 1) := by decide +kernel
theorem dX6_goOver_102 : decode cX6_goOver 102 = .ok (.ineg, 1) := by decide +kernel
theorem dX6_goOver_103 : decode cX6_goOver 103 = .ok (.iadd, 1) := by decide +kernel
theorem dX6_goOver_104 : decode cX6_goOver 104 = .ok (.iastore, 1) := by decide +kernel
theorem dX6_goOver_105 : decode cX6_goOver 105 = .ok (.iload 6, 2) := by decide +kernel
theorem dX6_goOver_107 : decode cX6_goOver 107 = .ok (.iconst (-1), 1) := by decide +kernel
theorem dX6_goOver_108 : decode cX6_goOver 108 = .ok (.if_icmp .ne 7, 3) := by decide +kernel
theorem dX6_goOver_111 : decode cX6_goOver 111 = .ok (.iconst 0, 1) := by decide +kernel
theorem dX6_goOver_112 : decode cX6_goOver 112 = .ok (.goto 13, 3) := by decide +kernel
theorem dX6_goOver_115 : decode cX6_goOver 115 = .ok (.aload_n 0, 1) := by decide +kernel
theorem dX6_goOver_116 : decode cX6_goOver 116 = .ok (.getfield 7, 3) := by decide +kernel
theorem dX6_goOver_119 : decode cX6_goOver 119 = .ok (.bipush 15, 2) := by decide +kernel
theorem dX6_goOver_121 : decode cX6_goOver 121 = .ok (.iload 6, 2) := by decide +kernel
theorem dX6_goOver_123 : decode cX6_goOver 123 = .ok (.iadd, 1) := by decide +kernel
theorem dX6_goOver_124 : decode cX6_goOver 124 = .ok (.iaload, 1) := by decide +kernel
theorem dX6_goOver_125 : decode cX6_goOver 125 = .ok (.ireturn, 1) := by decide +kernel
set_option maxRecDepth 20000 in
theorem ggX6_goes_X6_isHead : GoodIn wsX6_goes wsX6_isHead := goodIn_r _ [8, 9, 10, 11, 7, 12, 13, 14, 15, 16, 46, 47, 48, 49, 50, 51] (by decide +kernel) (by decide +kernel)
set_option maxRecDepth 20000 in
theorem gX6_goes_X6_isHead : GoodIn wsX6_goes (wsV RX6 109 RX6 yX6_isHead wsX6_isHead) := goodIn_app (goodIn_of _ (by decide +kernel)) ggX6_goes_X6_isHead
set_option maxRecDepth 20000 in
theorem ggX6_goes_X6_in : GoodIn wsX6_goes wsX6_in := goodIn_r _ [16] (by decide +kernel) (by decide +kernel)
set_option maxRecDepth 20000 in
theorem gX6_goes_X6_in : GoodIn wsX6_goes (va_wsS RX6 19 yX6_in wsX6_in) := goodIn_app (goodIn_of _ (by decide +kernel)) ggX6_goes_X6_in
set_option maxRecDepth 20000 in
theorem ggX6_goes_X6_canGo : GoodIn wsX6_goes wsX6_canGo := goodIn_r _ [20, 13, 21, 22, 23, 7, 24, 25, 26, 27, 28, 46, 47, 48, 49, 50, 51] (by decide +kernel) (by decide +kernel)
set_option maxRecDepth 20000 in
theorem gX6_goes_X6_canGo : GoodIn wsX6_goes (wsV RX6 128 RX6 yX6_canGo wsX6_canGo) := goodIn_app (goodIn_of _ (by decide +kernel)) ggX6_goes_X6_canGo
set_option maxRecDepth 20000 in
theorem ggX6_goes_X6_feels : GoodIn wsX6_goes wsX6_feels := goodIn_r _ [32, 13, 46, 47, 48, 49, 50, 51] (by decide +kernel) (by decide +kernel)
set_option maxRecDepth 20000 in
theorem gX6_goes_X6_feels : GoodIn wsX6_goes (wsV RX6 131 RX6 yX6_feels wsX6_feels) := goodIn_app (goodIn_of _ (by decide +kernel)) ggX6_goes_X6_feels
set_option maxRecDepth 20000 in
theorem ggX6_goes_X6_remember : GoodIn wsX6_goes wsX6_remember := goodIn_r _ [36, 37, 38, 39, 40, 7, 41, 13, 46, 47, 48, 49, 50, 51] (by decide +kernel) (by decide +kernel)
set_option maxRecDepth 20000 in
theorem gX6_goes_X6_remember : GoodIn wsX6_goes (wsV RX6 118 RX6 yX6_remember wsX6_remember) := goodIn_app (goodIn_of _ (by decide +kernel)) ggX6_goes_X6_remember
set_option maxRecDepth 20000 in
theorem ggX6_goes_X6_goOver : GoodIn wsX6_goes wsX6_goOver := goodIn_r _ [45, 13, 21, 22, 23, 7, 24, 25, 26, 27, 28, 46, 47, 48, 49, 50, 51] (by decide +kernel) (by decide +kernel)
set_option maxRecDepth 20000 in
theorem gX6_goes_X6_goOver : GoodIn wsX6_goes (wsV RX6 134 RX6 yX6_goOver wsX6_goOver) := goodIn_app (goodIn_of _ (by decide +kernel)) ggX6_goes_X6_goOver
theorem dX6_goes_0 : decode cX6_goes 0 = .ok (.aload_n 0, 1) := by decide +kernel
theorem dX6_goes_1 : decode cX6_goes 1 = .ok (.iload_n 1, 1) := by decide +kernel
theorem dX6_goes_2 : decode cX6_goes 2 = .ok (.invokevirtual 109, 3) := by decide +kernel
theorem dX6_goes_5 : decode cX6_goes 5 = .ok (.ifCond .ne 6, 3) := by decide +kernel
theorem dX6_goes_8 : decode cX6_goes 8 = .ok (.ldc 102, 2) := by decide +kernel
theorem dX6_goes_10 : decode cX6_goes 10 = .ok (.ireturn, 1) := by decide +kernel
theorem dX6_goes_11 : decode cX6_goes 11 = .ok (.iload_n 2, 1) := by decide +kernel
theorem dX6_goes_12 : decode cX6_goes 12 = .ok (.iconst 0, 1) := by decide +kernel
theorem dX6_goes_13 : decode cX6_goes 13 = .ok (.iconst 1, 1) := by decide +kernel
theorem dX6_goes_14 : decode cX6_goes 14 = .ok (.invokestatic 19, 3) := by decide +kernel
theorem dX6_goes_17 : decode cX6_goes 17 = .ok (.ifCond .eq 13, 3) := by decide +kernel
theorem dX6_goes_20 : decode cX6_goes 20 = .ok (.iload_n 3, 1) := by decide +kernel
theorem dX6_goes_21 : decode cX6_goes 21 = .ok (.iconst 1, 1) := by decide +kernel
theorem dX6_goes_22 : decode cX6_goes 22 = .ok (.bipush 9, 2) := by decide +kernel
theorem dX6_goes_24 : decode cX6_goes 24 = .ok (.invokestatic 19, 3) := by decide +kernel
theorem dX6_goes_27 : decode cX6_goes 27 = .ok (.ifCond .ne 6, 3) := by decide +kernel
theorem dX6_goes_30 : decode cX6_goes 30 = .ok (.ldc 101, 2) := by decide +kernel
theorem dX6_goes_32 : decode cX6_goes 32 = .ok (.ireturn, 1) := by decide +kernel
theorem dX6_goes_33 : decode cX6_goes 33 = .ok (.aload_n 0, 1) := by decide +kernel
theorem dX6_goes_34 : decode cX6_goes 34 = .ok (.iload_n 1, 1) := by decide +kernel
theorem dX6_goes_35 : decode cX6_goes 35 = .ok (.iload_n 2, 1) := by decide +kernel
theorem dX6_goes_36 : decode cX6_goes 36 = .ok (.iload_n 3, 1) := by decide +kernel
theorem dX6_goes_37 : decode cX6_goes 37 = .ok (.invokevirtual 128, 3) := by decide +kernel
theorem dX6_goes_40 : decode cX6_goes 40 = .ok (.ifCond .eq 16, 3) := by decide +kernel
theorem dX6_goes_43 : decode cX6_goes 43 = .ok (.iload 4, 2) := by decide +kernel
theorem dX6_goes_45 : decode cX6_goes 45 = .ok (.ifCond .eq 14, 3) := by decide +kernel
theorem dX6_goes_48 : decode cX6_goes 48 = .ok (.aload_n 0, 1) := by decide +kernel
theorem dX6_goes_49 : decode cX6_goes 49 = .ok (.iload_n 1, 1) := by decide +kernel
theorem dX6_goes_50 : decode cX6_goes 50 = .ok (.invokevirtual 131, 3) := by decide +kernel
theorem dX6_goes_53 : decode cX6_goes 53 = .ok (.ifCond .ne 6, 3) := by decide +kernel
theorem dX6_goes_56 : decode cX6_goes 56 = .ok (.ldc 124, 2) := by decide +kernel
theorem dX6_goes_58 : decode cX6_goes 58 = .ok (.ireturn, 1) := by decide +kernel
theorem dX6_goes_59 : decode cX6_goes 59 = .ok (.aload_n 0, 1) := by decide +kernel
theorem dX6_goes_60 : decode cX6_goes 60 = .ok (.invokevirtual 118, 3) := by decide +kernel
theorem dX6_goes_63 : decode cX6_goes 63 = .ok (.aload_n 0, 1) := by decide +kernel
theorem dX6_goes_64 : decode cX6_goes 64 = .ok (.iload_n 1, 1) := by decide +kernel
theorem dX6_goes_65 : decode cX6_goes 65 = .ok (.iload_n 2, 1) := by decide +kernel
theorem dX6_goes_66 : decode cX6_goes 66 = .ok (.iload_n 3, 1) := by decide +kernel
theorem dX6_goes_67 : decode cX6_goes 67 = .ok (.iload 4, 2) := by decide +kernel
theorem dX6_goes_69 : decode cX6_goes 69 = .ok (.invokevirtual 134, 3) := by decide +kernel
theorem dX6_goes_72 : decode cX6_goes 72 = .ok (.ireturn, 1) := by decide +kernel
set_option maxRecDepth 20000 in
theorem ggX6_go_X6_goes : GoodIn wsX6_go wsX6_goes := goodIn_r _ [5, 6, 7, 8, 9, 10, 11, 4, 12, 13, 14, 15, 16, 17, 18, 19, 20, 21, 22, 23, 24, 25, 26, 27, 28, 29, 30, 31, 32, 33, 34, 35, 36, 37, 38, 39, 40, 41, 42, 43, 44, 45, 46, 47, 48, 49, 50, 51, 52, 53, 54, 55] (by decide +kernel) (by decide +kernel)
set_option maxRecDepth 20000 in
theorem gX6_go_X6_goes : GoodIn wsX6_go (wsV RX6 138 RX6 yX6_goes wsX6_goes) := goodIn_app (goodIn_of _ (by decide +kernel)) ggX6_go_X6_goes
theorem dX6_go_0 : decode cX6_go 0 = .ok (.aload_n 0, 1) := by decide +kernel
theorem dX6_go_1 : decode cX6_go 1 = .ok (.iload_n 1, 1) := by decide +kernel
theorem dX6_go_2 : decode cX6_go 2 = .ok (.iload_n 2, 1) := by decide +kernel
theorem dX6_go_3 : decode cX6_go 3 = .ok (.iload_n 3, 1) := by decide +kernel
theorem dX6_go_4 : decode cX6_go 4 = .ok (.iconst 1, 1) := by decide +kernel
theorem dX6_go_5 : decode cX6_go 5 = .ok (.invokevirtual 138, 3) := by decide +kernel
theorem dX6_go_8 : decode cX6_go 8 = .ok (.ireturn, 1) := by decide +kernel
set_option maxRecDepth 20000 in
theorem ggX6_miss_X6_goes : GoodIn wsX6_miss wsX6_goes := goodIn_r _ [5, 6, 7, 8, 9, 10, 11, 4, 12, 13, 14, 15, 16, 17, 18, 19, 20, 21, 22, 23, 24, 25, 26, 27, 28, 29, 30, 31, 32, 33, 34, 35, 36, 37, 38, 39, 40, 41, 42, 43, 44, 45, 46, 47, 48, 49, 50, 51, 52, 53, 54, 55] (by decide +kernel) (by decide +kernel)
set_option maxRecDepth 20000 in
theorem gX6_miss_X6_goes : GoodIn wsX6_miss (wsV RX6 138 RX6 yX6_goes wsX6_goes) := goodIn_app (goodIn_of _ (by decide +kernel)) ggX6_miss_X6_goes
theorem dX6_miss_0 : decode cX6_miss 0 = .ok (.aload_n 0, 1) := by decide +kernel
theorem dX6_miss_1 : decode cX6_miss 1 = .ok (.iload_n 1, 1) := by decide +kernel
theorem dX6_miss_2 : decode cX6_miss 2 = .ok (.iload_n 2, 1) := by decide +kernel
theorem dX6_miss_3 : decode cX6_miss 3 = .ok (.iload_n 3, 1) := by decide +kernel
theorem dX6_miss_4 : decode cX6_miss 4 = .ok (.iconst 0, 1) := by decide +kernel
theorem dX6_miss_5 : decode cX6_miss 5 = .ok (.invokevirtual 138, 3) := by decide +kernel
theorem dX6_miss_8 : decode cX6_miss 8 = .ok (.ireturn, 1) := by decide +kernel
set_option maxRecDepth 20000 in
theorem ggX6_tick_X6_isSet : GoodIn wsX6_tick wsX6_isSet := goodIn_r _ [6, 7, 8, 9, 5, 10, 11, 12, 13, 14, 79, 80, 81, 82, 83, 84] (by decide +kernel) (by decide +kernel)
set_option maxRecDepth 20000 in
theorem gX6_tick_X6_isSet : GoodIn wsX6_tick (wsV RX6 141 RX6 yX6_isSet wsX6_isSet) := goodIn_app (goodIn_of _ (by decide +kernel)) ggX6_tick_X6_isSet
set_option maxRecDepth 20000 in
theorem ggX6_tick_X6_remember : GoodIn wsX6_tick wsX6_remember := goodIn_r _ [18, 19, 20, 21, 22, 5, 23, 11, 79, 80, 81, 82, 83, 84] (by decide +kernel) (by decide +kernel)
set_option maxRecDepth 20000 in
theorem gX6_tick_X6_remember : GoodIn wsX6_tick (wsV RX6 118 RX6 yX6_remember wsX6_remember) := goodIn_app (goodIn_of _ (by decide +kernel)) ggX6_tick_X6_remember
set_option maxRecDepth 20000 in
theorem ggX6_tick_X6_tickIn : GoodIn wsX6_tick wsX6_tickIn := goodIn_r _ [27, 11, 7, 8, 9, 5, 10, 28, 29, 30, 31, 32, 33, 34, 35, 36, 37, 38, 39, 40, 41, 42, 43, 44, 45, 46, 47, 48, 49, 50, 51, 52, 53, 54, 55, 56, 57, 58, 59, 60, 61, 62, 63, 64, 65, 66, 67, 68, 69, 70, 71, 72, 73, 74, 79, 80, 81, 82, 83, 84] (by decide +kernel) (by decide +kernel)
set_option maxRecDepth 20000 in
theorem gX6_tick_X6_tickIn : GoodIn wsX6_tick (wsV RX6 144 RX6 yX6_tickIn wsX6_tickIn) := goodIn_app (goodIn_of _ (by decide +kernel)) ggX6_tick_X6_tickIn
set_option maxRecDepth 20000 in
theorem ggX6_tick_X6_called : GoodIn wsX6_tick wsX6_called := goodIn_r _ [78, 11, 79, 80, 81, 82, 83, 84] (by decide +kernel) (by decide +kernel)
set_option maxRecDepth 20000 in
theorem gX6_tick_X6_called : GoodIn wsX6_tick (wsV RX6 81 RX6 yX6_called wsX6_called) := goodIn_app (goodIn_of _ (by decide +kernel)) ggX6_tick_X6_called
theorem dX6_tick_0 : decode cX6_tick 0 = .ok (.aload_n 0, 1) := by decide +kernel
theorem dX6_tick_1 : decode cX6_tick 1 = .ok (.iload_n 1, 1) := by decide +kernel
theorem dX6_tick_2 : decode cX6_tick 2 = .ok (.invokevirtual 141, 3) := by decide +kernel
theorem dX6_tick_5 : decode cX6_tick 5 = .ok (.ifCond .ne 6, 3) := by decide +kernel
theorem dX6_tick_8 : decode cX6_tick 8 = .ok (.ldc 102, 2) := by decide +kernel
theorem dX6_tick_10 : decode cX6_tick 10 = .ok (.ireturn, 1) := by decide +kernel
theorem dX6_tick_11 : decode cX6_tick 11 = .ok (.aload_n 0, 1) := by decide +kernel
theorem dX6_tick_12 : decode cX6_tick 12 = .ok (.invokevirtual 118, 3) := by decide +kernel
theorem dX6_tick_15 : decode cX6_tick 15 = .ok (.aload_n 0, 1) := by decide +kernel
theorem dX6_tick_16 : decode cX6_tick 16 = .ok (.iconst 0, 1) := by decide +kernel
theorem dX6_tick_17 : decode cX6_tick 17 = .ok (.iload_n 1, 1) := by decide +kernel
theorem dX6_tick_18 : decode cX6_tick 18 = .ok (.invokevirtual 144, 3) := by decide +kernel
theorem dX6_tick_21 : decode cX6_tick 21 = .ok (.aload_n 0, 1) := by decide +kernel
theorem dX6_tick_22 : decode cX6_tick 22 = .ok (.iconst 0, 1) := by decide +kernel
theorem dX6_tick_23 : decode cX6_tick 23 = .ok (.iconst 0, 1) := by decide +kernel
theorem dX6_tick_24 : decode cX6_tick 24 = .ok (.invokevirtual 81, 3) := by decide +kernel
theorem dX6_tick_27 : decode cX6_tick 27 = .ok (.ireturn, 1) := by decide +kernel
set_option maxRecDepth 20000 in
theorem ggX6_reset_X6_isSection : GoodIn wsX6_reset wsX6_isSection := goodIn_r _ [8, 2, 9, 10, 7, 11, 21, 22, 23, 24, 25, 26] (by decide +kernel) (by decide +kernel)
set_option maxRecDepth 20000 in
theorem gX6_reset_X6_isSection : GoodIn wsX6_reset (wsV RX6 78 RX6 yX6_isSection wsX6_isSection) := goodIn_app (goodIn_of _ (by decide +kernel)) ggX6_reset_X6_isSection
set_option maxRecDepth 20000 in
theorem ggX6_reset_X6_remember : GoodIn wsX6_reset wsX6_remember := goodIn_r _ [15, 16, 17, 18, 19, 7, 20, 2, 21, 22, 23, 24, 25, 26] (by decide +kernel) (by decide +kernel)
set_option maxRecDepth 20000 in
theorem gX6_reset_X6_remember : GoodIn wsX6_reset (wsV RX6 118 RX6 yX6_remember wsX6_remember) := goodIn_app (goodIn_of _ (by decide +kernel)) ggX6_reset_X6_remember
theorem dX6_reset_0 : decode cX6_reset 0 = .ok (.aload_n 0, 1) := by decide +kernel
theorem dX6_reset_1 : decode cX6_reset 1 = .ok (.iload_n 1, 1) := by decide +kernel
theorem dX6_reset_2 : decode cX6_reset 2 = .ok (.invokevirtual 78, 3) := by decide +kernel
theorem dX6_reset_5 : decode cX6_reset 5 = .ok (.ifCond .ne 6, 3) := by decide +kernel
theorem dX6_reset_8 : decode cX6_reset 8 = .ok (.ldc 102, 2) := by decide +kernel
theorem dX6_reset_10 : decode cX6_reset 10 = .ok (.ireturn, 1) := by decide +kernel
theorem dX6_reset_11 : decode cX6_reset 11 = .ok (.aload_n 0, 1) := by decide +kernel
theorem dX6_reset_12 : decode cX6_reset 12 = .ok (.getfield 7, 3) := by decide +kernel
theorem dX6_reset_15 : decode cX6_reset 15 = .ok (.iconst 3, 1) := by decide +kernel
theorem dX6_reset_16 : decode cX6_reset 16 = .ok (.iload_n 1, 1) := by decide +kernel
theorem dX6_reset_17 : decode cX6_reset 17 = .ok (.iadd, 1) := by decide +kernel
theorem dX6_reset_18 : decode cX6_reset 18 = .ok (.iaload, 1) := by decide +kernel
theorem dX6_reset_19 : decode cX6_reset 19 = .ok (.iconst 2, 1) := by decide +kernel
theorem dX6_reset_20 : decode cX6_reset 20 = .ok (.if_icmp .eq 6, 3) := by decide +kernel
theorem dX6_reset_23 : decode cX6_reset 23 = .ok (.ldc 124, 2) := by decide +kernel
theorem dX6_reset_25 : decode cX6_reset 25 = .ok (.ireturn, 1) := by decide +kernel
theorem dX6_reset_26 : decode cX6_reset 26 = .ok (.aload_n 0, 1) := by decide +kernel
theorem dX6_reset_27 : decode cX6_reset 27 = .ok (.invokevirtual 118, 3) := by decide +kernel
theorem dX6_reset_30 : decode cX6_reset 30 = .ok (.aload_n 0, 1) := by decide +kernel
theorem dX6_reset_31 : decode cX6_reset 31 = .ok (.getfield 7, 3) := by decide +kernel
theorem dX6_reset_34 : decode cX6_reset 34 = .ok (.bipush 9, 2) := by decide +kernel
theorem dX6_reset_36 : decode cX6_reset 36 = .ok (.iload_n 1, 1) := by decide +kernel
theorem dX6_reset_37 : decode cX6_reset 37 = .ok (.iadd, 1) := by decide +kernel
theorem dX6_reset_38 : decode cX6_reset 38 = .ok (.iaload, 1) := by decide +kernel
theorem dX6_reset_39 : decode cX6_reset 39 = .ok (.sipush 1000, 3) := by decide +kernel
theorem dX6_reset_42 : decode cX6_reset 42 = .ok (.iadd, 1) := by decide +kernel
theorem dX6_reset_43 : decode cX6_reset 43 = .ok (.istore_n 2, 1) := by decide +kernel
theorem dX6_reset_44 : decode cX6_reset 44 = .ok (.aload_n 0, 1) := by decide +kernel
theorem dX6_reset_45 : decode cX6_reset 45 = .ok (.getfield 7, 3) := by decide +kernel
theorem dX6_reset_48 : decode cX6_reset 48 = .ok (.bipush 9, 2) := by decide +kernel
theorem dX6_reset_50 : decode cX6_reset 50 = .ok (.iload_n 1, 1) := by decide +kernel
theorem dX6_reset_51 : decode cX6_reset 51 = .ok (.iadd, 1) := by decide +kernel
theorem dX6_reset_52 : decode cX6_reset 52 = .ok (.iconst 0, 1) := by decide +kernel
theorem dX6_reset_53 : decode cX6_reset 53 = .ok (.iastore, 1) := by decide +kernel
theorem dX6_reset_54 : decode cX6_reset 54 = .ok (.aload_n 0, 1) := by decide +kernel
theorem dX6_reset_55 : decode cX6_reset 55 = .ok (.getfield 7, 3) := by decide +kernel
theorem dX6_reset_58 : decode cX6_reset 58 = .ok (.iconst 3, 1) := by decide +kernel
theorem dX6_reset_59 : decode cX6_reset 59 = .ok (.iload_n 1, 1) := by decide +kernel
theorem dX6_reset_60 : decode cX6_reset 60 = .ok (.iadd, 1) := by decide +kernel
theorem dX6_reset_61 : decode cX6_reset 61 = .ok (.iconst 3, 1) := by decide +kernel
theorem dX6_reset_62 : decode cX6_reset 62 = .ok (.iastore, 1) := by decide +kernel
theorem dX6_reset_63 : decode cX6_reset 63 = .ok (.aload_n 0, 1) := by decide +kernel
theorem dX6_reset_64 : decode cX6_reset 64 = .ok (.getfield 7, 3) := by decide +kernel
theorem dX6_reset_67 : decode cX6_reset 67 = .ok (.bipush 21, 2) := by decide +kernel
theorem dX6_reset_69 : decode cX6_reset 69 = .ok (.iload_n 1, 1) := by decide +kernel
theorem dX6_reset_70 : decode cX6_reset 70 = .ok (.iadd, 1) := by decide +kernel
theorem dX6_reset_71 : decode cX6_reset 71 = .ok (.iconst 0, 1) := by decide +kernel
theorem dX6_reset_72 : decode cX6_reset 72 = .ok (.iastore, 1) := by decide +kernel
theorem dX6_reset_73 : decode cX6_reset 73 = .ok (.iload_n 2, 1) := by decide +kernel
theorem dX6_reset_74 : decode cX6_reset 74 = .ok (.ireturn, 1) := by decide +kernel
set_option maxRecDepth 20000 in
theorem ggX6_repair_X6_isHead : GoodIn wsX6_repair wsX6_isHead := goodIn_r _ [8, 9, 10, 11, 7, 12, 2, 13, 14, 15, 25, 26, 27, 28, 29, 30] (by decide +kernel) (by decide +kernel)
set_option maxRecDepth 20000 in
theorem gX6_repair_X6_isHead : GoodIn wsX6_repair (wsV RX6 109 RX6 yX6_isHead wsX6_isHead) := goodIn_app (goodIn_of _ (by decide +kernel)) ggX6_repair_X6_isHead
set_option maxRecDepth 20000 in
theorem ggX6_repair_X6_remember : GoodIn wsX6_repair wsX6_remember := goodIn_r _ [19, 20, 21, 22, 23, 7, 24, 2, 25, 26, 27, 28, 29, 30] (by decide +kernel) (by decide +kernel)
set_option maxRecDepth 20000 in
theorem gX6_repair_X6_remember : GoodIn wsX6_repair (wsV RX6 118 RX6 yX6_remember wsX6_remember) := goodIn_app (goodIn_of _ (by decide +kernel)) ggX6_repair_X6_remember
theorem dX6_repair_0 : decode cX6_repair 0 = .ok (.aload_n 0, 1) := by decide +kernel
theorem dX6_repair_1 : decode cX6_repair 1 = .ok (.iload_n 1, 1) := by decide +kernel
theorem dX6_repair_2 : decode cX6_repair 2 = .ok (.invokevirtual 109, 3) := by decide +kernel
theorem dX6_repair_5 : decode cX6_repair 5 = .ok (.ifCond .ne 6, 3) := by decide +kernel
theorem dX6_repair_8 : decode cX6_repair 8 = .ok (.ldc 102, 2) := by decide +kernel
theorem dX6_repair_10 : decode cX6_repair 10 = .ok (.ireturn, 1) := by decide +kernel
theorem dX6_repair_11 : decode cX6_repair 11 = .ok (.aload_n 0, 1) := by decide +kernel
theorem dX6_repair_12 : decode cX6_repair 12 = .ok (.getfield 7, 3) := by decide +kernel
theorem dX6_repair_15 : decode cX6_repair 15 = .ok (.bipush 62, 2) := by decide +kernel
theorem dX6_repair_17 : decode cX6_repair 17 = .ok (.iload_n 1, 1) := by decide +kernel
theorem dX6_repair_18 : decode cX6_repair 18 = .ok (.iadd, 1) := by decide +kernel
theorem dX6_repair_19 : decode cX6_repair 19 = .ok (.iaload, 1) := by decide +kernel
theorem dX6_repair_20 : decode cX6_repair 20 = .ok (.ifCond .ne 6, 3) := by decide +kernel
theorem dX6_repair_23 : decode cX6_repair 23 = .ok (.ldc 124, 2) := by decide +kernel
theorem dX6_repair_25 : decode cX6_repair 25 = .ok (.ireturn, 1) := by decide +kernel
theorem dX6_repair_26 : decode cX6_repair 26 = .ok (.aload_n 0, 1) := by decide +kernel
theorem dX6_repair_27 : decode cX6_repair 27 = .ok (.invokevirtual 118, 3) := by decide +kernel
theorem dX6_repair_30 : decode cX6_repair 30 = .ok (.aload_n 0, 1) := by decide +kernel
theorem dX6_repair_31 : decode cX6_repair 31 = .ok (.getfield 7, 3) := by decide +kernel
theorem dX6_repair_34 : decode cX6_repair 34 = .ok (.bipush 27, 2) := by decide +kernel
theorem dX6_repair_36 : decode cX6_repair 36 = .ok (.iload_n 1, 1) := by decide +kernel
theorem dX6_repair_37 : decode cX6_repair 37 = .ok (.iadd, 1) := by decide +kernel
theorem dX6_repair_38 : decode cX6_repair 38 = .ok (.iaload, 1) := by decide +kernel
theorem dX6_repair_39 : decode cX6_repair 39 = .ok (.ifCond .ne 7, 3) := by decide +kernel
theorem dX6_repair_42 : decode cX6_repair 42 = .ok (.iconst 1, 1) := by decide +kernel
theorem dX6_repair_43 : decode cX6_repair 43 = .ok (.goto 4, 3) := by decide +kernel
theorem dX6_repair_46 : decode cX6_repair 46 = .ok (.iconst 0, 1) := by decide +kernel
theorem dX6_repair_47 : decode cX6_repair 47 = .ok (.istore_n 2, 1) := by decide +kernel
theorem dX6_repair_48 : decode cX6_repair 48 = .ok (.aload_n 0, 1) := by decide +kernel
theorem dX6_repair_49 : decode cX6_repair 49 = .ok (.getfield 7, 3) := by decide +kernel
theorem dX6_repair_52 : decode cX6_repair 52 = .ok (.bipush 62, 2) := by decide +kernel
theorem dX6_repair_54 : decode cX6_repair 54 = .ok (.iload_n 1, 1) := by decide +kernel
theorem dX6_repair_55 : decode cX6_repair 55 = .ok (.iadd, 1) := by decide +kernel
theorem dX6_repair_56 : decode cX6_repair 56 = .ok (.iconst 0, 1) := by decide +kernel
theorem dX6_repair_57 : decode cX6_repair 57 = .ok (.iastore, 1) := by decide +kernel
theorem dX6_repair_58 : decode cX6_repair 58 = .ok (.aload_n 0, 1) := by decide +kernel
theorem dX6_repair_59 : decode cX6_repair 59 = .ok (.getfield 7, 3) := by decide +kernel
theorem dX6_repair_62 : decode cX6_repair 62 = .ok (.bipush 27, 2) := by decide +kernel
theorem dX6_repair_64 : decode cX6_repair 64 = .ok (.iload_n 1, 1) := by decide +kernel
theorem dX6_repair_65 : decode cX6_repair 65 = .ok (.iadd, 1) := by decide +kernel
theorem dX6_repair_66 : decode cX6_repair 66 = .ok (.iconst 0, 1) := by decide +kernel
theorem dX6_repair_67 : decode cX6_repair 67 = .ok (.iastore, 1) := by decide +kernel
theorem dX6_repair_68 : decode cX6_repair 68 = .ok (.aload_n 0, 1) := by decide +kernel
theorem dX6_repair_69 : decode cX6_repair 69 = .ok (.getfield 7, 3) := by decide +kernel
theorem dX6_repair_72 : decode cX6_repair 72 = .ok (.bipush 34, 2) := by decide +kernel
theorem dX6_repair_74 : decode cX6_repair 74 = .ok (.iload_n 1, 1) := by decide +kernel
theorem dX6_repair_75 : decode cX6_repair 75 = .ok (.iadd, 1) := by decide +kernel
theorem dX6_repair_76 : decode cX6_repair 76 = .ok (.iconst 0, 1) := by decide +kernel
theorem dX6_repair_77 : decode cX6_repair 77 = .ok (.iastore, 1) := by decide +kernel
theorem dX6_repair_78 : decode cX6_repair 78 = .ok (.iload_n 2, 1) := by decide +kernel
theorem dX6_repair_79 : decode cX6_repair 79 = .ok (.ireturn, 1) := by decide +kernel
theorem dX6_draw_0 : decode cX6_draw 0 = .ok (.aload_n 0, 1) := by decide +kernel
theorem dX6_draw_1 : decode cX6_draw 1 = .ok (.getfield 7, 3) := by decide +kernel
theorem dX6_draw_4 : decode cX6_draw 4 = .ok (.bipush 83, 2) := by decide +kernel
theorem dX6_draw_6 : decode cX6_draw 6 = .ok (.iaload, 1) := by decide +kernel
theorem dX6_draw_7 : decode cX6_draw 7 = .ok (.i2l, 1) := by decide +kernel
theorem dX6_draw_8 : decode cX6_draw 8 = .ok (.ldc2_w 147, 3) := by decide +kernel
theorem dX6_draw_11 : decode cX6_draw 11 = .ok (.lmul, 1) := by decide +kernel
theorem dX6_draw_12 : decode cX6_draw 12 = .ok (.ldc2_w 149, 3) := by decide +kernel
theorem dX6_draw_15 : decode cX6_draw 15 = .ok (.ladd, 1) := by decide +kernel
theorem dX6_draw_16 : decode cX6_draw 16 = .ok (.ldc2_w 151, 3) := by decide +kernel
theorem dX6_draw_19 : decode cX6_draw 19 = .ok (.lrem, 1) := by decide +kernel
theorem dX6_draw_20 : decode cX6_draw 20 = .ok (.lstore_n 2, 1) := by decide +kernel
theorem dX6_draw_21 : decode cX6_draw 21 = .ok (.aload_n 0, 1) := by decide +kernel
theorem dX6_draw_22 : decode cX6_draw 22 = .ok (.getfield 7, 3) := by decide +kernel
theorem dX6_draw_25 : decode cX6_draw 25 = .ok (.bipush 83, 2) := by decide +kernel
theorem dX6_draw_27 : decode cX6_draw 27 = .ok (.lload_n 2, 1) := by decide +kernel
theorem dX6_draw_28 : decode cX6_draw 28 = .ok (.l2i, 1) := by decide +kernel
theorem dX6_draw_29 : decode cX6_draw 29 = .ok (.iastore, 1) := by decide +kernel
theorem dX6_draw_30 : decode cX6_draw 30 = .ok (.aload_n 0, 1) := by decide +kernel
theorem dX6_draw_31 : decode cX6_draw 31 = .ok (.getfield 7, 3) := by decide +kernel
theorem dX6_draw_34 : decode cX6_draw 34 = .ok (.bipush 83, 2) := by decide +kernel
theorem dX6_draw_36 : decode cX6_draw 36 = .ok (.iaload, 1) := by decide +kernel
theorem dX6_draw_37 : decode cX6_draw 37 = .ok (.ldc 153, 2) := by decide +kernel
theorem dX6_draw_39 : decode cX6_draw 39 = .ok (.idiv, 1) := by decide +kernel
theorem dX6_draw_40 : decode cX6_draw 40 = .ok (.iload_n 1, 1) := by decide +kernel
theorem dX6_draw_41 : decode cX6_draw 41 = .ok (.irem, 1) := by decide +kernel
theorem dX6_draw_42 : decode cX6_draw 42 = .ok (.ireturn, 1) := by decide +kernel
set_option maxRecDepth 20000 in
theorem ggX6_time_X6_heads : GoodIn wsX6_time wsX6_heads := goodIn_r _ [5, 6, 78, 79, 80, 81, 82, 83] (by decide +kernel) (by decide +kernel)
set_option maxRecDepth 20000 in
theorem gX6_time_X6_heads : GoodIn wsX6_time (wsV RX6 23 RX6 yX6_heads wsX6_heads) := goodIn_app (goodIn_of _ (by decide +kernel)) ggX6_time_X6_heads
set_option maxRecDepth 20000 in
theorem ggX6_time_X6_draw : GoodIn wsX6_time wsX6_draw := goodIn_r _ [10, 6, 11, 12, 13, 14, 78, 79, 80, 81, 82, 83] (by decide +kernel) (by decide +kernel)
set_option maxRecDepth 20000 in
theorem gX6_time_X6_draw : GoodIn wsX6_time (wsV RX6 154 RX6 yX6_draw wsX6_draw) := goodIn_app (goodIn_of _ (by decide +kernel)) ggX6_time_X6_draw
set_option maxRecDepth 20000 in
theorem ggX6_time_X6_canGo : GoodIn wsX6_time wsX6_canGo := goodIn_r _ [18, 6, 19, 20, 21, 4, 22, 23, 24, 25, 26, 78, 79, 80, 81, 82, 83] (by decide +kernel) (by decide +kernel)
set_option maxRecDepth 20000 in
theorem gX6_time_X6_canGo : GoodIn wsX6_time (wsV RX6 128 RX6 yX6_canGo wsX6_canGo) := goodIn_app (goodIn_of _ (by decide +kernel)) ggX6_time_X6_canGo
set_option maxRecDepth 20000 in
theorem ggX6_time_X6_feels : GoodIn wsX6_time wsX6_feels := goodIn_r _ [30, 6, 78, 79, 80, 81, 82, 83] (by decide +kernel) (by decide +kernel)
set_option maxRecDepth 20000 in
theorem gX6_time_X6_feels : GoodIn wsX6_time (wsV RX6 131 RX6 yX6_feels wsX6_feels) := goodIn_app (goodIn_of _ (by decide +kernel)) ggX6_time_X6_feels
set_option maxRecDepth 20000 in
theorem ggX6_time_X6_goOver : GoodIn wsX6_time wsX6_goOver := goodIn_r _ [34, 6, 19, 20, 21, 4, 22, 23, 24, 25, 26, 78, 79, 80, 81, 82, 83] (by decide +kernel) (by decide +kernel)
set_option maxRecDepth 20000 in
theorem gX6_time_X6_goOver : GoodIn wsX6_time (wsV RX6 134 RX6 yX6_goOver wsX6_goOver) := goodIn_app (goodIn_of _ (by decide +kernel)) ggX6_time_X6_goOver
set_option maxRecDepth 20000 in
theorem ggX6_time_X6_tickIn : GoodIn wsX6_time wsX6_tickIn := goodIn_r _ [38, 6, 1, 2, 3, 4, 5, 39, 40, 41, 42, 43, 44, 45, 23, 24, 25, 26, 19, 20, 21, 22, 46, 47, 48, 49, 50, 51, 52, 53, 54, 55, 56, 57, 58, 59, 60, 61, 62, 63, 64, 65, 66, 67, 68, 69, 70, 71, 72, 73, 74, 75, 76, 77, 78, 79, 80, 81, 82, 83] (by decide +kernel) (by decide +kernel)
set_option maxRecDepth 20000 in
theorem gX6_time_X6_tickIn : GoodIn wsX6_time (wsV RX6 144 RX6 yX6_tickIn wsX6_tickIn) := goodIn_app (goodIn_of _ (by decide +kernel)) ggX6_time_X6_tickIn
theorem dX6_time_0 : decode cX6_time 0 = .ok (.aload_n 0, 1) := by decide +kernel
theorem dX6_time_1 : decode cX6_time 1 = .ok (.aload_n 0, 1) := by decide +kernel
theorem dX6_time_2 : decode cX6_time 2 = .ok (.invokevirtual 23, 3) := by decide +kernel
theorem dX6_time_5 : decode cX6_time 5 = .ok (.invokevirtual 154, 3) := by decide +kernel
theorem dX6_time_8 : decode cX6_time 8 = .ok (.istore_n 1, 1) := by decide +kernel
theorem dX6_time_9 : decode cX6_time 9 = .ok (.aload_n 0, 1) := by decide +kernel
theorem dX6_time_10 : decode cX6_time 10 = .ok (.iconst 2, 1) := by decide +kernel
theorem dX6_time_11 : decode cX6_time 11 = .ok (.invokevirtual 154, 3) := by decide +kernel
theorem dX6_time_14 : decode cX6_time 14 = .ok (.istore_n 2, 1) := by decide +kernel
theorem dX6_time_15 : decode cX6_time 15 = .ok (.aload_n 0, 1) := by decide +kernel
theorem dX6_time_16 : decode cX6_time 16 = .ok (.iconst 3, 1) := by decide +kernel
theorem dX6_time_17 : decode cX6_time 17 = .ok (.invokevirtual 154, 3) := by decide +kernel
theorem dX6_time_20 : decode cX6_time 20 = .ok (.iconst 1, 1) := by decide +kernel
theorem dX6_time_21 : decode cX6_time 21 = .ok (.iadd, 1) := by decide +kernel
theorem dX6_time_22 : decode cX6_time 22 = .ok (.istore_n 3, 1) := by decide +kernel
theorem dX6_time_23 : decode cX6_time 23 = .ok (.aload_n 0, 1) := by decide +kernel
theorem dX6_time_24 : decode cX6_time 24 = .ok (.bipush 16, 2) := by decide +kernel
theorem dX6_time_26 : decode cX6_time 26 = .ok (.invokevirtual 154, 3) := by decide +kernel
theorem dX6_time_29 : decode cX6_time 29 = .ok (.istore 4, 2) := by decide +kernel
theorem dX6_time_31 : decode cX6_time 31 = .ok (.aload_n 0, 1) := by decide +kernel
theorem dX6_time_32 : decode cX6_time 32 = .ok (.iconst 1, 1) := by decide +kernel
theorem dX6_time_33 : decode cX6_time 33 = .ok (.aload_n 0, 1) := by decide +kernel
theorem dX6_time_34 : decode cX6_time 34 = .ok (.invokevirtual 23, 3) := by decide +kernel
theorem dX6_time_37 : decode cX6_time 37 = .ok (.ishl, 1) := by decide +kernel
theorem dX6_time_38 : decode cX6_time 38 = .ok (.invokevirtual 154, 3) := by decide +kernel
theorem dX6_time_41 : decode cX6_time 41 = .ok (.istore 5, 2) := by decide +kernel
theorem dX6_time_43 : decode cX6_time 43 = .ok (.aload_n 0, 1) := by decide +kernel
theorem dX6_time_44 : decode cX6_time 44 = .ok (.iload_n 1, 1) := by decide +kernel
theorem dX6_time_45 : decode cX6_time 45 = .ok (.iload_n 2, 1) := by decide +kernel
theorem dX6_time_46 : decode cX6_time 46 = .ok (.iload_n 3, 1) := by decide +kernel
theorem dX6_time_47 : decode cX6_time 47 = .ok (.invokevirtual 128, 3) := by decide +kernel
theorem dX6_time_50 : decode cX6_time 50 = .ok (.ifCond .eq 30, 3) := by decide +kernel
theorem dX6_time_53 : decode cX6_time 53 = .ok (.aload_n 0, 1) := by decide +kernel
theorem dX6_time_54 : decode cX6_time 54 = .ok (.iload_n 1, 1) := by decide +kernel
theorem dX6_time_55 : decode cX6_time 55 = .ok (.iload_n 2, 1) := by decide +kernel
theorem dX6_time_56 : decode cX6_time 56 = .ok (.iload_n 3, 1) := by decide +kernel
theorem dX6_time_57 : decode cX6_time 57 = .ok (.iload 4, 2) := by decide +kernel
theorem dX6_time_59 : decode cX6_time 59 = .ok (.ifCond .eq 15, 3) := by decide +kernel
theorem dX6_time_62 : decode cX6_time 62 = .ok (.aload_n 0, 1) := by decide +kernel
theorem dX6_time_63 : decode cX6_time 63 = .ok (.iload_n 1, 1) := by decide +kernel
theorem dX6_time_64 : decode cX6_time 64 = .ok (.invokevirtual 131, 3) := by decide +kernel
theorem dX6_time_67 : decode cX6_time 67 = .ok (.ifCond .eq 7, 3) := by decide +kernel
theorem dX6_time_70 : decode cX6_time 70 = .ok (.iconst 1, 1) := by decide +kernel
theorem dX6_time_71 : decode cX6_time 71 = .ok (.goto 4, 3) := by decide +kernel
theorem dX6_time_74 : decode cX6_time 74 = .ok (.iconst 0, 1) := by decide +kernel
theorem dX6_time_75 : decode cX6_time 75 = .ok (.invokevirtual 134, 3) := by decide +kernel
theorem dX6_time_78 : decode cX6_time 78 = .ok (.istore 6, 2) := by decide +kernel
theorem dX6_time_80 : decode cX6_time 80 = .ok (.aload_n 0, 1) := by decide +kernel
theorem dX6_time_81 : decode cX6_time 81 = .ok (.iconst 0, 1) := by decide +kernel
theorem dX6_time_82 : decode cX6_time 82 = .ok (.iload 4, 2) := by decide +kernel
theorem dX6_time_84 : decode cX6_time 84 = .ok (.iconst 4, 1) := by decide +kernel
theorem dX6_time_85 : decode cX6_time 85 = .ok (.if_icmp .ge 8, 3) := by decide +kernel
theorem dX6_time_88 : decode cX6_time 88 = .ok (.iload 5, 2) := by decide +kernel
theorem dX6_time_90 : decode cX6_time 90 = .ok (.goto 4, 3) := by decide +kernel
theorem dX6_time_93 : decode cX6_time 93 = .ok (.iconst 0, 1) := by decide +kernel
theorem dX6_time_94 : decode cX6_time 94 = .ok (.invokevirtual 144, 3) := by decide +kernel
theorem dX6_time_97 : decode cX6_time 97 = .ok (.return_, 1) := by decide +kernel
set_option maxRecDepth 20000 in
theorem ggX6_drift_X6_in : GoodIn wsX6_drift wsX6_in := goodIn_r _ [5] (by decide +kernel) (by decide +kernel)
set_option maxRecDepth 20000 in
theorem gX6_drift_X6_in : GoodIn wsX6_drift (va_wsS RX6 19 yX6_in wsX6_in) := goodIn_app (goodIn_of _ (by decide +kernel)) ggX6_drift_X6_in
set_option maxRecDepth 20000 in
theorem ggX6_drift_X6_remember : GoodIn wsX6_drift wsX6_remember := goodIn_r _ [9, 10, 11, 12, 13, 4, 14, 15, 99, 100, 101, 102, 103, 104] (by decide +kernel) (by decide +kernel)
set_option maxRecDepth 20000 in
theorem gX6_drift_X6_remember : GoodIn wsX6_drift (wsV RX6 118 RX6 yX6_remember wsX6_remember) := goodIn_app (goodIn_of _ (by decide +kernel)) ggX6_drift_X6_remember
set_option maxRecDepth 20000 in
theorem ggX6_drift_X6_time : GoodIn wsX6_drift wsX6_time := goodIn_r _ [19, 20, 21, 22, 4, 23, 15, 24, 25, 26, 27, 28, 29, 30, 31, 32, 33, 34, 35, 36, 37, 38, 39, 40, 41, 42, 43, 44, 45, 46, 47, 48, 49, 50, 51, 52, 53, 54, 55, 56, 57, 58, 59, 60, 61, 62, 63, 64, 65, 66, 67, 68, 69, 70, 71, 72, 73, 74, 75, 76, 77, 78, 79, 80, 81, 82, 83, 84, 85, 86, 87, 88, 89, 90, 91, 92, 93, 94, 99, 100, 101, 102, 103, 104] (by decide +kernel) (by decide +kernel)
set_option maxRecDepth 20000 in
theorem gX6_drift_X6_time : GoodIn wsX6_drift (wsV RX6 157 RX6 yX6_time wsX6_time) := goodIn_app (goodIn_of _ (by decide +kernel)) ggX6_drift_X6_time
set_option maxRecDepth 20000 in
theorem ggX6_drift_X6_called : GoodIn wsX6_drift wsX6_called := goodIn_r _ [98, 15, 99, 100, 101, 102, 103, 104] (by decide +kernel) (by decide +kernel)
set_option maxRecDepth 20000 in
theorem gX6_drift_X6_called : GoodIn wsX6_drift (wsV RX6 81 RX6 yX6_called wsX6_called) := goodIn_app (goodIn_of _ (by decide +kernel)) ggX6_drift_X6_called
theorem dX6_drift_0 : decode cX6_drift 0 = .ok (.iload_n 1, 1) := by decide +kernel
theorem dX6_drift_1 : decode cX6_drift 1 = .ok (.iconst 1, 1) := by decide +kernel
theorem dX6_drift_2 : decode cX6_drift 2 = .ok (.bipush 16, 2) := by decide +kernel
theorem dX6_drift_4 : decode cX6_drift 4 = .ok (.invokestatic 19, 3) := by decide +kernel
theorem dX6_drift_7 : decode cX6_drift 7 = .ok (.ifCond .ne 6, 3) := by decide +kernel
theorem dX6_drift_10 : decode cX6_drift 10 = .ok (.ldc 101, 2) := by decide +kernel
theorem dX6_drift_12 : decode cX6_drift 12 = .ok (.ireturn, 1) := by decide +kernel
theorem dX6_drift_13 : decode cX6_drift 13 = .ok (.iconst 0, 1) := by decide +kernel
theorem dX6_drift_14 : decode cX6_drift 14 = .ok (.istore_n 2, 1) := by decide +kernel
theorem dX6_drift_15 : decode cX6_drift 15 = .ok (.iload_n 2, 1) := by decide +kernel
theorem dX6_drift_16 : decode cX6_drift 16 = .ok (.iload_n 1, 1) := by decide +kernel
theorem dX6_drift_17 : decode cX6_drift 17 = .ok (.if_icmp .ge 17, 3) := by decide +kernel
theorem dX6_drift_20 : decode cX6_drift 20 = .ok (.aload_n 0, 1) := by decide +kernel
theorem dX6_drift_21 : decode cX6_drift 21 = .ok (.invokevirtual 118, 3) := by decide +kernel
theorem dX6_drift_24 : decode cX6_drift 24 = .ok (.aload_n 0, 1) := by decide +kernel
theorem dX6_drift_25 : decode cX6_drift 25 = .ok (.invokevirtual 157, 3) := by decide +kernel
theorem dX6_drift_28 : decode cX6_drift 28 = .ok (.iinc 2 1, 3) := by decide +kernel
theorem dX6_drift_31 : decode cX6_drift 31 = .ok (.goto (-16), 3) := by decide +kernel
theorem dX6_drift_34 : decode cX6_drift 34 = .ok (.aload_n 0, 1) := by decide +kernel
theorem dX6_drift_35 : decode cX6_drift 35 = .ok (.iconst 0, 1) := by decide +kernel
theorem dX6_drift_36 : decode cX6_drift 36 = .ok (.iconst 0, 1) := by decide +kernel
theorem dX6_drift_37 : decode cX6_drift 37 = .ok (.invokevirtual 81, 3) := by decide +kernel
theorem dX6_drift_40 : decode cX6_drift 40 = .ok (.ireturn, 1) := by decide +kernel
set_option maxRecDepth 20000 in
theorem ggX6_undo_X6_in : GoodIn wsX6_undo wsX6_in := goodIn_r _ [8] (by decide +kernel) (by decide +kernel)
set_option maxRecDepth 20000 in
theorem gX6_undo_X6_in : GoodIn wsX6_undo (va_wsS RX6 19 yX6_in wsX6_in) := goodIn_app (goodIn_of _ (by decide +kernel)) ggX6_undo_X6_in
set_option maxRecDepth 20000 in
theorem ggX6_undo_X6_copyRow : GoodIn wsX6_undo wsX6_copyRow := goodIn_r _ [12, 4, 13, 14, 15, 16, 17, 18] (by decide +kernel) (by decide +kernel)
set_option maxRecDepth 20000 in
theorem gX6_undo_X6_copyRow : GoodIn wsX6_undo (wsV RX6 115 RX6 yX6_copyRow wsX6_copyRow) := goodIn_app (goodIn_of _ (by decide +kernel)) ggX6_undo_X6_copyRow
theorem dX6_undo_0 : decode cX6_undo 0 = .ok (.iload_n 1, 1) := by decide +kernel
theorem dX6_undo_1 : decode cX6_undo 1 = .ok (.iconst 1, 1) := by decide +kernel
theorem dX6_undo_2 : decode cX6_undo 2 = .ok (.bipush 16, 2) := by decide +kernel
theorem dX6_undo_4 : decode cX6_undo 4 = .ok (.invokestatic 19, 3) := by decide +kernel
theorem dX6_undo_7 : decode cX6_undo 7 = .ok (.ifCond .ne 6, 3) := by decide +kernel
theorem dX6_undo_10 : decode cX6_undo 10 = .ok (.ldc 101, 2) := by decide +kernel
theorem dX6_undo_12 : decode cX6_undo 12 = .ok (.ireturn, 1) := by decide +kernel
theorem dX6_undo_13 : decode cX6_undo 13 = .ok (.iload_n 1, 1) := by decide +kernel
theorem dX6_undo_14 : decode cX6_undo 14 = .ok (.aload_n 0, 1) := by decide +kernel
theorem dX6_undo_15 : decode cX6_undo 15 = .ok (.getfield 98, 3) := by decide +kernel
theorem dX6_undo_18 : decode cX6_undo 18 = .ok (.if_icmp .le 6, 3) := by decide +kernel
theorem dX6_undo_21 : decode cX6_undo 21 = .ok (.ldc 124, 2) := by decide +kernel
theorem dX6_undo_23 : decode cX6_undo 23 = .ok (.ireturn, 1) := by decide +kernel
theorem dX6_undo_24 : decode cX6_undo 24 = .ok (.aload_n 0, 1) := by decide +kernel
theorem dX6_undo_25 : decode cX6_undo 25 = .ok (.getfield 7, 3) := by decide +kernel
theorem dX6_undo_28 : decode cX6_undo 28 = .ok (.bipush 83, 2) := by decide +kernel
theorem dX6_undo_30 : decode cX6_undo 30 = .ok (.iaload, 1) := by decide +kernel
theorem dX6_undo_31 : decode cX6_undo 31 = .ok (.istore_n 2, 1) := by decide +kernel
theorem dX6_undo_32 : decode cX6_undo 32 = .ok (.aload_n 0, 1) := by decide +kernel
theorem dX6_undo_33 : decode cX6_undo 33 = .ok (.dup, 1) := by decide +kernel
theorem dX6_undo_34 : decode cX6_undo 34 = .ok (.getfield 98, 3) := by decide +kernel
theorem dX6_undo_37 : decode cX6_undo 37 = .ok (.iload_n 1, 1) := by decide +kernel
theorem dX6_undo_38 : decode cX6_undo 38 = .ok (.isub, 1) := by decide +kernel
theorem dX6_undo_39 : decode cX6_undo 39 = .ok (.putfield 98, 3) := by decide +kernel
theorem dX6_undo_42 : decode cX6_undo 42 = .ok (.aload_n 0, 1) := by decide +kernel
theorem dX6_undo_43 : decode cX6_undo 43 = .ok (.bipush 84, 2) := by decide +kernel
theorem dX6_undo_45 : decode cX6_undo 45 = .ok (.aload_n 0, 1) := by decide +kernel
theorem dX6_undo_46 : decode cX6_undo 46 = .ok (.getfield 98, 3) := by decide +kernel
theorem dX6_undo_49 : decode cX6_undo 49 = .ok (.iconst 1, 1) := by decide +kernel
theorem dX6_undo_50 : decode cX6_undo 50 = .ok (.iadd, 1) := by decide +kernel
theorem dX6_undo_51 : decode cX6_undo 51 = .ok (.imul, 1) := by decide +kernel
theorem dX6_undo_52 : decode cX6_undo 52 = .ok (.iconst 0, 1) := by decide +kernel
theorem dX6_undo_53 : decode cX6_undo 53 = .ok (.invokevirtual 115, 3) := by decide +kernel
theorem dX6_undo_56 : decode cX6_undo 56 = .ok (.aload_n 0, 1) := by decide +kernel
theorem dX6_undo_57 : decode cX6_undo 57 = .ok (.getfield 7, 3) := by decide +kernel
theorem dX6_undo_60 : decode cX6_undo 60 = .ok (.bipush 83, 2) := by decide +kernel
theorem dX6_undo_62 : decode cX6_undo 62 = .ok (.iload_n 2, 1) := by decide +kernel
theorem dX6_undo_63 : decode cX6_undo 63 = .ok (.iastore, 1) := by decide +kernel
theorem dX6_undo_64 : decode cX6_undo 64 = .ok (.aload_n 0, 1) := by decide +kernel
theorem dX6_undo_65 : decode cX6_undo 65 = .ok (.getfield 98, 3) := by decide +kernel
theorem dX6_undo_68 : decode cX6_undo 68 = .ok (.ireturn, 1) := by decide +kernel
set_option maxRecDepth 20000 in
theorem ggX6_would_X6_isSet : GoodIn wsX6_would wsX6_isSet := goodIn_r _ [6, 7, 8, 9, 5, 10, 11, 12, 13, 14, 74, 75, 76, 77, 78, 79] (by decide +kernel) (by decide +kernel)
set_option maxRecDepth 20000 in
theorem gX6_would_X6_isSet : GoodIn wsX6_would (wsV RX6 141 RX6 yX6_isSet wsX6_isSet) := goodIn_app (goodIn_of _ (by decide +kernel)) ggX6_would_X6_isSet
set_option maxRecDepth 20000 in
theorem ggX6_would_X6_copyRow : GoodIn wsX6_would wsX6_copyRow := goodIn_r _ [18, 11, 74, 75, 76, 77, 78, 79] (by decide +kernel) (by decide +kernel)
set_option maxRecDepth 20000 in
theorem gX6_would_X6_copyRow : GoodIn wsX6_would (wsV RX6 115 RX6 yX6_copyRow wsX6_copyRow) := goodIn_app (goodIn_of _ (by decide +kernel)) ggX6_would_X6_copyRow
set_option maxRecDepth 20000 in
theorem ggX6_would_X6_tickIn : GoodIn wsX6_would wsX6_tickIn := goodIn_r _ [22, 11, 7, 8, 9, 5, 10, 23, 24, 25, 26, 27, 28, 29, 30, 31, 32, 33, 34, 35, 36, 37, 38, 39, 40, 41, 42, 43, 44, 45, 46, 47, 48, 49, 50, 51, 52, 53, 54, 55, 56, 57, 58, 59, 60, 61, 62, 63, 64, 65, 66, 67, 68, 69, 74, 75, 76, 77, 78, 79] (by decide +kernel) (by decide +kernel)
set_option maxRecDepth 20000 in
theorem gX6_would_X6_tickIn : GoodIn wsX6_would (wsV RX6 144 RX6 yX6_tickIn wsX6_tickIn) := goodIn_app (goodIn_of _ (by decide +kernel)) ggX6_would_X6_tickIn
set_option maxRecDepth 20000 in
theorem ggX6_would_X6_called : GoodIn wsX6_would wsX6_called := goodIn_r _ [73, 11, 74, 75, 76, 77, 78, 79] (by decide +kernel) (by decide +kernel)
set_option maxRecDepth 20000 in
theorem gX6_would_X6_called : GoodIn wsX6_would (wsV RX6 81 RX6 yX6_called wsX6_called) := goodIn_app (goodIn_of _ (by decide +kernel)) ggX6_would_X6_called
theorem dX6_would_0 : decode cX6_would 0 = .ok (.aload_n 0, 1) := by decide +kernel
theorem dX6_would_1 : decode cX6_would 1 = .ok (.iload_n 1, 1) := by decide +kernel
theorem dX6_would_2 : decode cX6_would 2 = .ok (.invokevirtual 141, 3) := by decide +kernel
theorem dX6_would_5 : decode cX6_would 5 = .ok (.ifCond .ne 6, 3) := by decide +kernel
theorem dX6_would_8 : decode cX6_would 8 = .ok (.ldc 102, 2) := by decide +kernel
theorem dX6_would_10 : decode cX6_would 10 = .ok (.ireturn, 1) := by decide +kernel
theorem dX6_would_11 : decode cX6_would 11 = .ok (.aload_n 0, 1) := by decide +kernel
theorem dX6_would_12 : decode cX6_would 12 = .ok (.iconst 0, 1) := by decide +kernel
theorem dX6_would_13 : decode cX6_would 13 = .ok (.sipush 1596, 3) := by decide +kernel
theorem dX6_would_16 : decode cX6_would 16 = .ok (.invokevirtual 115, 3) := by decide +kernel
theorem dX6_would_19 : decode cX6_would 19 = .ok (.aload_n 0, 1) := by decide +kernel
theorem dX6_would_20 : decode cX6_would 20 = .ok (.sipush 1596, 3) := by decide +kernel
theorem dX6_would_23 : decode cX6_would 23 = .ok (.iload_n 1, 1) := by decide +kernel
theorem dX6_would_24 : decode cX6_would 24 = .ok (.invokevirtual 144, 3) := by decide +kernel
theorem dX6_would_27 : decode cX6_would 27 = .ok (.aload_n 0, 1) := by decide +kernel
theorem dX6_would_28 : decode cX6_would 28 = .ok (.sipush 1596, 3) := by decide +kernel
theorem dX6_would_31 : decode cX6_would 31 = .ok (.iconst 0, 1) := by decide +kernel
theorem dX6_would_32 : decode cX6_would 32 = .ok (.invokevirtual 81, 3) := by decide +kernel
theorem dX6_would_35 : decode cX6_would 35 = .ok (.ireturn, 1) := by decide +kernel
set_option maxRecDepth 20000 in
theorem ggX6_write_X6_isSection : GoodIn wsX6_write wsX6_isSection := goodIn_r _ [11, 12, 13, 14, 10, 15, 16, 17, 18, 19, 20, 21] (by decide +kernel) (by decide +kernel)
set_option maxRecDepth 20000 in
theorem gX6_write_X6_isSection : GoodIn wsX6_write (wsV RX6 78 RX6 yX6_isSection wsX6_isSection) := goodIn_app (goodIn_of _ (by decide +kernel)) ggX6_write_X6_isSection
set_option maxRecDepth 20000 in
theorem ggX6_write_X6_in : GoodIn wsX6_write wsX6_in := goodIn_r _ [15] (by decide +kernel) (by decide +kernel)
set_option maxRecDepth 20000 in
theorem gX6_write_X6_in : GoodIn wsX6_write (va_wsS RX6 19 yX6_in wsX6_in) := goodIn_app (goodIn_of _ (by decide +kernel)) ggX6_write_X6_in
theorem dX6_write_0 : decode cX6_write 0 = .ok (.aload_n 0, 1) := by decide +kernel
theorem dX6_write_1 : decode cX6_write 1 = .ok (.iload_n 1, 1) := by decide +kernel
theorem dX6_write_2 : decode cX6_write 2 = .ok (.invokevirtual 78, 3) := by decide +kernel
theorem dX6_write_5 : decode cX6_write 5 = .ok (.ifCond .ne 6, 3) := by decide +kernel
theorem dX6_write_8 : decode cX6_write 8 = .ok (.ldc 102, 2) := by decide +kernel
theorem dX6_write_10 : decode cX6_write 10 = .ok (.ireturn, 1) := by decide +kernel
theorem dX6_write_11 : decode cX6_write 11 = .ok (.iload_n 2, 1) := by decide +kernel
theorem dX6_write_12 : decode cX6_write 12 = .ok (.iconst 0, 1) := by decide +kernel
theorem dX6_write_13 : decode cX6_write 13 = .ok (.iconst 3, 1) := by decide +kernel
theorem dX6_write_14 : decode cX6_write 14 = .ok (.invokestatic 19, 3) := by decide +kernel
theorem dX6_write_17 : decode cX6_write 17 = .ok (.ifCond .ne 6, 3) := by decide +kernel
theorem dX6_write_20 : decode cX6_write 20 = .ok (.ldc 101, 2) := by decide +kernel
theorem dX6_write_22 : decode cX6_write 22 = .ok (.ireturn, 1) := by decide +kernel
theorem dX6_write_23 : decode cX6_write 23 = .ok (.aload_n 0, 1) := by decide +kernel
theorem dX6_write_24 : decode cX6_write 24 = .ok (.getfield 74, 3) := by decide +kernel
theorem dX6_write_27 : decode cX6_write 27 = .ok (.bipush 20, 2) := by decide +kernel
theorem dX6_write_29 : decode cX6_write 29 = .ok (.if_icmp .ne 6, 3) := by decide +kernel
theorem dX6_write_32 : decode cX6_write 32 = .ok (.ldc 160, 2) := by decide +kernel
theorem dX6_write_34 : decode cX6_write 34 = .ok (.ireturn, 1) := by decide +kernel
theorem dX6_write_35 : decode cX6_write 35 = .ok (.aload_n 0, 1) := by decide +kernel
theorem dX6_write_36 : decode cX6_write 36 = .ok (.getfield 13, 3) := by decide +kernel
theorem dX6_write_39 : decode cX6_write 39 = .ok (.aload_n 0, 1) := by decide +kernel
theorem dX6_write_40 : decode cX6_write 40 = .ok (.getfield 74, 3) := by decide +kernel
theorem dX6_write_43 : decode cX6_write 43 = .ok (.iload_n 1, 1) := by decide +kernel
theorem dX6_write_44 : decode cX6_write 44 = .ok (.iastore, 1) := by decide +kernel
theorem dX6_write_45 : decode cX6_write 45 = .ok (.aload_n 0, 1) := by decide +kernel
theorem dX6_write_46 : decode cX6_write 46 = .ok (.getfield 16, 3) := by decide +kernel
theorem dX6_write_49 : decode cX6_write 49 = .ok (.aload_n 0, 1) := by decide +kernel
theorem dX6_write_50 : decode cX6_write 50 = .ok (.getfield 74, 3) := by decide +kernel
theorem dX6_write_53 : decode cX6_write 53 = .ok (.iload_n 2, 1) := by decide +kernel
theorem dX6_write_54 : decode cX6_write 54 = .ok (.iastore, 1) := by decide +kernel
theorem dX6_write_55 : decode cX6_write 55 = .ok (.aload_n 0, 1) := by decide +kernel
theorem dX6_write_56 : decode cX6_write 56 = .ok (.dup, 1) := by decide +kernel
theorem dX6_write_57 : decode cX6_write 57 = .ok (.getfield 74, 3) := by decide +kernel
theorem dX6_write_60 : decode cX6_write 60 = .ok (.iconst 1, 1) := by decide +kernel
theorem dX6_write_61 : decode cX6_write 61 = .ok (.iadd, 1) := by decide +kernel
theorem dX6_write_62 : decode cX6_write 62 = .ok (.putfield 74, 3) := by decide +kernel
theorem dX6_write_65 : decode cX6_write 65 = .ok (.aload_n 0, 1) := by decide +kernel
theorem dX6_write_66 : decode cX6_write 66 = .ok (.getfield 74, 3) := by decide +kernel
theorem dX6_write_69 : decode cX6_write 69 = .ok (.ireturn, 1) := by decide +kernel
theorem dX6_tear_0 : decode cX6_tear 0 = .ok (.aload_n 0, 1) := by decide +kernel
theorem dX6_tear_1 : decode cX6_tear 1 = .ok (.getfield 74, 3) := by decide +kernel
theorem dX6_tear_4 : decode cX6_tear 4 = .ok (.istore_n 1, 1) := by decide +kernel
theorem dX6_tear_5 : decode cX6_tear 5 = .ok (.aload_n 0, 1) := by decide +kernel
theorem dX6_tear_6 : decode cX6_tear 6 = .ok (.iconst 0, 1) := by decide +kernel
theorem dX6_tear_7 : decode cX6_tear 7 = .ok (.putfield 74, 3) := by decide +kernel
theorem dX6_tear_10 : decode cX6_tear 10 = .ok (.iload_n 1, 1) := by decide +kernel
theorem dX6_tear_11 : decode cX6_tear 11 = .ok (.ireturn, 1) := by decide +kernel
theorem dX6_seed_0 : decode cX6_seed 0 = .ok (.iload_n 1, 1) := by decide +kernel
theorem dX6_seed_1 : decode cX6_seed 1 = .ok (.ifCond .ge 6, 3) := by decide +kernel
theorem dX6_seed_4 : decode cX6_seed 4 = .ok (.ldc 101, 2) := by decide +kernel
theorem dX6_seed_6 : decode cX6_seed 6 = .ok (.ireturn, 1) := by decide +kernel
theorem dX6_seed_7 : decode cX6_seed 7 = .ok (.aload_n 0, 1) := by decide +kernel
theorem dX6_seed_8 : decode cX6_seed 8 = .ok (.getfield 7, 3) := by decide +kernel
theorem dX6_seed_11 : decode cX6_seed 11 = .ok (.bipush 83, 2) := by decide +kernel
theorem dX6_seed_13 : decode cX6_seed 13 = .ok (.iaload, 1) := by decide +kernel
theorem dX6_seed_14 : decode cX6_seed 14 = .ok (.istore_n 2, 1) := by decide +kernel
theorem dX6_seed_15 : decode cX6_seed 15 = .ok (.aload_n 0, 1) := by decide +kernel
theorem dX6_seed_16 : decode cX6_seed 16 = .ok (.getfield 7, 3) := by decide +kernel
theorem dX6_seed_19 : decode cX6_seed 19 = .ok (.bipush 83, 2) := by decide +kernel
theorem dX6_seed_21 : decode cX6_seed 21 = .ok (.iload_n 1, 1) := by decide +kernel
theorem dX6_seed_22 : decode cX6_seed 22 = .ok (.iastore, 1) := by decide +kernel
theorem dX6_seed_23 : decode cX6_seed 23 = .ok (.iload_n 2, 1) := by decide +kernel
theorem dX6_seed_24 : decode cX6_seed 24 = .ok (.ireturn, 1) := by decide +kernel
set_option maxRecDepth 20000 in
theorem ggX6_keep_X6_in : GoodIn wsX6_keep wsX6_in := goodIn_r _ [7] (by decide +kernel) (by decide +kernel)
set_option maxRecDepth 20000 in
theorem gX6_keep_X6_in : GoodIn wsX6_keep (va_wsS RX6 19 yX6_in wsX6_in) := goodIn_app (goodIn_of _ (by decide +kernel)) ggX6_keep_X6_in
set_option maxRecDepth 20000 in
theorem ggX6_keep_X6_copyRow : GoodIn wsX6_keep wsX6_copyRow := goodIn_r _ [11, 12, 13, 14, 15, 16, 17, 18] (by decide +kernel) (by decide +kernel)
set_option maxRecDepth 20000 in
theorem gX6_keep_X6_copyRow : GoodIn wsX6_keep (wsV RX6 115 RX6 yX6_copyRow wsX6_copyRow) := goodIn_app (goodIn_of _ (by decide +kernel)) ggX6_keep_X6_copyRow
theorem dX6_keep_0 : decode cX6_keep 0 = .ok (.iload_n 1, 1) := by decide +kernel
theorem dX6_keep_1 : decode cX6_keep 1 = .ok (.iconst 0, 1) := by decide +kernel
theorem dX6_keep_2 : decode cX6_keep 2 = .ok (.iconst 1, 1) := by decide +kernel
theorem dX6_keep_3 : decode cX6_keep 3 = .ok (.invokestatic 19, 3) := by decide +kernel
theorem dX6_keep_6 : decode cX6_keep 6 = .ok (.ifCond .ne 6, 3) := by decide +kernel
theorem dX6_keep_9 : decode cX6_keep 9 = .ok (.ldc 102, 2) := by decide +kernel
theorem dX6_keep_11 : decode cX6_keep 11 = .ok (.ireturn, 1) := by decide +kernel
theorem dX6_keep_12 : decode cX6_keep 12 = .ok (.aload_n 0, 1) := by decide +kernel
theorem dX6_keep_13 : decode cX6_keep 13 = .ok (.iconst 0, 1) := by decide +kernel
theorem dX6_keep_14 : decode cX6_keep 14 = .ok (.sipush 1428, 3) := by decide +kernel
theorem dX6_keep_17 : decode cX6_keep 17 = .ok (.bipush 84, 2) := by decide +kernel
theorem dX6_keep_19 : decode cX6_keep 19 = .ok (.iload_n 1, 1) := by decide +kernel
theorem dX6_keep_20 : decode cX6_keep 20 = .ok (.imul, 1) := by decide +kernel
theorem dX6_keep_21 : decode cX6_keep 21 = .ok (.iadd, 1) := by decide +kernel
theorem dX6_keep_22 : decode cX6_keep 22 = .ok (.invokevirtual 115, 3) := by decide +kernel
theorem dX6_keep_25 : decode cX6_keep 25 = .ok (.aload_n 0, 1) := by decide +kernel
theorem dX6_keep_26 : decode cX6_keep 26 = .ok (.dup, 1) := by decide +kernel
theorem dX6_keep_27 : decode cX6_keep 27 = .ok (.getfield 161, 3) := by decide +kernel
theorem dX6_keep_30 : decode cX6_keep 30 = .ok (.iconst 1, 1) := by decide +kernel
theorem dX6_keep_31 : decode cX6_keep 31 = .ok (.iload_n 1, 1) := by decide +kernel
theorem dX6_keep_32 : decode cX6_keep 32 = .ok (.ishl, 1) := by decide +kernel
theorem dX6_keep_33 : decode cX6_keep 33 = .ok (.ior, 1) := by decide +kernel
theorem dX6_keep_34 : decode cX6_keep 34 = .ok (.putfield 161, 3) := by decide +kernel
theorem dX6_keep_37 : decode cX6_keep 37 = .ok (.aload_n 0, 1) := by decide +kernel
theorem dX6_keep_38 : decode cX6_keep 38 = .ok (.iconst 0, 1) := by decide +kernel
theorem dX6_keep_39 : decode cX6_keep 39 = .ok (.putfield 98, 3) := by decide +kernel
theorem dX6_keep_42 : decode cX6_keep 42 = .ok (.iconst 1, 1) := by decide +kernel
theorem dX6_keep_43 : decode cX6_keep 43 = .ok (.ireturn, 1) := by decide +kernel
set_option maxRecDepth 20000 in
theorem ggX6_goBack_X6_in : GoodIn wsX6_goBack wsX6_in := goodIn_r _ [8] (by decide +kernel) (by decide +kernel)
set_option maxRecDepth 20000 in
theorem gX6_goBack_X6_in : GoodIn wsX6_goBack (va_wsS RX6 19 yX6_in wsX6_in) := goodIn_app (goodIn_of _ (by decide +kernel)) ggX6_goBack_X6_in
set_option maxRecDepth 20000 in
theorem ggX6_goBack_X6_has : GoodIn wsX6_goBack wsX6_has := goodIn_r _ [11] (by decide +kernel) (by decide +kernel)
set_option maxRecDepth 20000 in
theorem gX6_goBack_X6_has : GoodIn wsX6_goBack (va_wsS RX6 51 yX6_has wsX6_has) := goodIn_app (goodIn_of _ (by decide +kernel)) ggX6_goBack_X6_has
set_option maxRecDepth 20000 in
theorem ggX6_goBack_X6_copyRow : GoodIn wsX6_goBack wsX6_copyRow := goodIn_r _ [15, 16, 17, 18, 19, 20, 21, 22] (by decide +kernel) (by decide +kernel)
set_option maxRecDepth 20000 in
theorem gX6_goBack_X6_copyRow : GoodIn wsX6_goBack (wsV RX6 115 RX6 yX6_copyRow wsX6_copyRow) := goodIn_app (goodIn_of _ (by decide +kernel)) ggX6_goBack_X6_copyRow
theorem dX6_goBack_0 : decode cX6_goBack 0 = .ok (.iload_n 1, 1) := by decide +kernel
theorem dX6_goBack_1 : decode cX6_goBack 1 = .ok (.iconst 0, 1) := by decide +kernel
theorem dX6_goBack_2 : decode cX6_goBack 2 = .ok (.iconst 1, 1) := by decide +kernel
theorem dX6_goBack_3 : decode cX6_goBack 3 = .ok (.invokestatic 19, 3) := by decide +kernel
theorem dX6_goBack_6 : decode cX6_goBack 6 = .ok (.ifCond .ne 6, 3) := by decide +kernel
theorem dX6_goBack_9 : decode cX6_goBack 9 = .ok (.ldc 102, 2) := by decide +kernel
theorem dX6_goBack_11 : decode cX6_goBack 11 = .ok (.ireturn, 1) := by decide +kernel
theorem dX6_goBack_12 : decode cX6_goBack 12 = .ok (.aload_n 0, 1) := by decide +kernel
theorem dX6_goBack_13 : decode cX6_goBack 13 = .ok (.getfield 161, 3) := by decide +kernel
theorem dX6_goBack_16 : decode cX6_goBack 16 = .ok (.iload_n 1, 1) := by decide +kernel
theorem dX6_goBack_17 : decode cX6_goBack 17 = .ok (.invokestatic 51, 3) := by decide +kernel
theorem dX6_goBack_20 : decode cX6_goBack 20 = .ok (.ifCond .ne 6, 3) := by decide +kernel
theorem dX6_goBack_23 : decode cX6_goBack 23 = .ok (.ldc 124, 2) := by decide +kernel
theorem dX6_goBack_25 : decode cX6_goBack 25 = .ok (.ireturn, 1) := by decide +kernel
theorem dX6_goBack_26 : decode cX6_goBack 26 = .ok (.aload_n 0, 1) := by decide +kernel
theorem dX6_goBack_27 : decode cX6_goBack 27 = .ok (.sipush 1428, 3) := by decide +kernel
theorem dX6_goBack_30 : decode cX6_goBack 30 = .ok (.bipush 84, 2) := by decide +kernel
theorem dX6_goBack_32 : decode cX6_goBack 32 = .ok (.iload_n 1, 1) := by decide +kernel
theorem dX6_goBack_33 : decode cX6_goBack 33 = .ok (.imul, 1) := by decide +kernel
theorem dX6_goBack_34 : decode cX6_goBack 34 = .ok (.iadd, 1) := by decide +kernel
theorem dX6_goBack_35 : decode cX6_goBack 35 = .ok (.iconst 0, 1) := by decide +kernel
theorem dX6_goBack_36 : decode cX6_goBack 36 = .ok (.invokevirtual 115, 3) := by decide +kernel
theorem dX6_goBack_39 : decode cX6_goBack 39 = .ok (.aload_n 0, 1) := by decide +kernel
theorem dX6_goBack_40 : decode cX6_goBack 40 = .ok (.iconst 0, 1) := by decide +kernel
theorem dX6_goBack_41 : decode cX6_goBack 41 = .ok (.putfield 98, 3) := by decide +kernel
theorem dX6_goBack_44 : decode cX6_goBack 44 = .ok (.iconst 1, 1) := by decide +kernel
theorem dX6_goBack_45 : decode cX6_goBack 45 = .ok (.ireturn, 1) := by decide +kernel
theorem dJ9_max_7cf53_0 : decode cJ9_max_7cf53 0 = .ok (.iload_n 0, 1) := by decide +kernel
theorem dJ9_max_7cf53_1 : decode cJ9_max_7cf53 1 = .ok (.iload_n 1, 1) := by decide +kernel
theorem dJ9_max_7cf53_2 : decode cJ9_max_7cf53 2 = .ok (.if_icmp .lt 7, 3) := by decide +kernel
theorem dJ9_max_7cf53_5 : decode cJ9_max_7cf53 5 = .ok (.iload_n 0, 1) := by decide +kernel
theorem dJ9_max_7cf53_6 : decode cJ9_max_7cf53 6 = .ok (.goto 4, 3) := by decide +kernel
theorem dJ9_max_7cf53_9 : decode cJ9_max_7cf53 9 = .ok (.iload_n 1, 1) := by decide +kernel
theorem dJ9_max_7cf53_10 : decode cJ9_max_7cf53 10 = .ok (.ireturn, 1) := by decide +kernel
theorem dJ7_fill_53178_0 : decode cJ7_fill_53178 0 = .ok (.iconst 0, 1) := by decide +kernel
theorem dJ7_fill_53178_1 : decode cJ7_fill_53178 1 = .ok (.istore_n 2, 1) := by decide +kernel
theorem dJ7_fill_53178_2 : decode cJ7_fill_53178 2 = .ok (.aload_n 0, 1) := by decide +kernel
theorem dJ7_fill_53178_3 : decode cJ7_fill_53178 3 = .ok (.arraylength, 1) := by decide +kernel
theorem dJ7_fill_53178_4 : decode cJ7_fill_53178 4 = .ok (.istore_n 3, 1) := by decide +kernel
theorem dJ7_fill_53178_5 : decode cJ7_fill_53178 5 = .ok (.iload_n 2, 1) := by decide +kernel
theorem dJ7_fill_53178_6 : decode cJ7_fill_53178 6 = .ok (.iload_n 3, 1) := by decide +kernel
theorem dJ7_fill_53178_7 : decode cJ7_fill_53178 7 = .ok (.if_icmp .ge 13, 3) := by decide +kernel
theorem dJ7_fill_53178_10 : decode cJ7_fill_53178 10 = .ok (.aload_n 0, 1) := by decide +kernel
theorem dJ7_fill_53178_11 : decode cJ7_fill_53178 11 = .ok (.iload_n 2, 1) := by decide +kernel
theorem dJ7_fill_53178_12 : decode cJ7_fill_53178 12 = .ok (.iload_n 1, 1) := by decide +kernel
theorem dJ7_fill_53178_13 : decode cJ7_fill_53178 13 = .ok (.iastore, 1) := by decide +kernel
theorem dJ7_fill_53178_14 : decode cJ7_fill_53178 14 = .ok (.iinc 2 1, 3) := by decide +kernel
theorem dJ7_fill_53178_17 : decode cJ7_fill_53178 17 = .ok (.goto (-12), 3) := by decide +kernel
theorem dJ7_fill_53178_20 : decode cJ7_fill_53178 20 = .ok (.return_, 1) := by decide +kernel
