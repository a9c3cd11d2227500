theorem dX12_option_0 : decode cX12_option 0 = .ok (.aload_n 0, 1) := by decide +kernel
theorem dX12_option_1 : decode cX12_option 1 = .ok (.iconst 0, 1) := by decide +kernel
theorem dX12_option_2 : decode cX12_option 2 = .ok (.putfield 134, 3) := by decide +kernel
theorem dX12_option_5 : decode cX12_option 5 = .ok (.aload_n 0, 1) := by decide +kernel
theorem dX12_option_6 : decode cX12_option 6 = .ok (.iconst 0, 1) := by decide +kernel
theorem dX12_option_7 : decode cX12_option 7 = .ok (.putfield 137, 3) := by decide +kernel
theorem dX12_option_10 : decode cX12_option 10 = .ok (.aload_n 0, 1) := by decide +kernel
theorem dX12_option_11 : decode cX12_option 11 = .ok (.iload_n 1, 1) := by decide +kernel
theorem dX12_option_12 : decode cX12_option 12 = .ok (.invokevirtual 209, 3) := by decide +kernel
theorem dX12_option_15 : decode cX12_option 15 = .ok (.ifCond .eq 11, 3) := by decide +kernel
theorem dX12_option_18 : decode cX12_option 18 = .ok (.aload_n 0, 1) := by decide +kernel
theorem dX12_option_19 : decode cX12_option 19 = .ok (.iload_n 2, 1) := by decide +kernel
theorem dX12_option_20 : decode cX12_option 20 = .ok (.invokevirtual 170, 3) := by decide +kernel
theorem dX12_option_23 : decode cX12_option 23 = .ok (.ifCond .ne 9, 3) := by decide +kernel
theorem dX12_option_26 : decode cX12_option 26 = .ok (.aload_n 0, 1) := by decide +kernel
theorem dX12_option_27 : decode cX12_option 27 = .ok (.iconst 1, 1) := by decide +kernel
theorem dX12_option_28 : decode cX12_option 28 = .ok (.invokevirtual 140, 3) := by decide +kernel
theorem dX12_option_31 : decode cX12_option 31 = .ok (.ireturn, 1) := by decide +kernel
theorem dX12_option_32 : decode cX12_option 32 = .ok (.iload_n 3, 1) := by decide +kernel
theorem dX12_option_33 : decode cX12_option 33 = .ok (.invokestatic 251, 3) := by decide +kernel
theorem dX12_option_36 : decode cX12_option 36 = .ok (.ifCond .eq 17, 3) := by decide +kernel
theorem dX12_option_39 : decode cX12_option 39 = .ok (.iload 4, 2) := by decide +kernel
theorem dX12_option_41 : decode cX12_option 41 = .ok (.invokestatic 251, 3) := by decide +kernel
theorem dX12_option_44 : decode cX12_option 44 = .ok (.ifCond .eq 9, 3) := by decide +kernel
theorem dX12_option_47 : decode cX12_option 47 = .ok (.iload_n 3, 1) := by decide +kernel
theorem dX12_option_48 : decode cX12_option 48 = .ok (.iload 4, 2) := by decide +kernel
theorem dX12_option_50 : decode cX12_option 50 = .ok (.if_icmp .le 9, 3) := by decide +kernel
theorem dX12_option_53 : decode cX12_option 53 = .ok (.aload_n 0, 1) := by decide +kernel
theorem dX12_option_54 : decode cX12_option 54 = .ok (.iconst 2, 1) := by decide +kernel
theorem dX12_option_55 : decode cX12_option 55 = .ok (.invokevirtual 140, 3) := by decide +kernel
theorem dX12_option_58 : decode cX12_option 58 = .ok (.ireturn, 1) := by decide +kernel
theorem dX12_option_59 : decode cX12_option 59 = .ok (.aload_n 0, 1) := by decide +kernel
theorem dX12_option_60 : decode cX12_option 60 = .ok (.getfield 254, 3) := by decide +kernel
theorem dX12_option_63 : decode cX12_option 63 = .ok (.bipush 30, 2) := by decide +kernel
theorem dX12_option_65 : decode cX12_option 65 = .ok (.if_icmp .ne 10, 3) := by decide +kernel
theorem dX12_option_68 : decode cX12_option 68 = .ok (.aload_n 0, 1) := by decide +kernel
theorem dX12_option_69 : decode cX12_option 69 = .ok (.bipush 7, 2) := by decide +kernel
theorem dX12_option_71 : decode cX12_option 71 = .ok (.invokevirtual 140, 3) := by decide +kernel
theorem dX12_option_74 : decode cX12_option 74 = .ok (.ireturn, 1) := by decide +kernel
theorem dX12_option_75 : decode cX12_option 75 = .ok (.aload_n 0, 1) := by decide +kernel
theorem dX12_option_76 : decode cX12_option 76 = .ok (.getfield 92, 3) := by decide +kernel
theorem dX12_option_79 : decode cX12_option 79 = .ok (.aload_n 0, 1) := by decide +kernel
theorem dX12_option_80 : decode cX12_option 80 = .ok (.getfield 254, 3) := by decide +kernel
theorem dX12_option_83 : decode cX12_option 83 = .ok (.iload_n 1, 1) := by decide +kernel
theorem dX12_option_84 : decode cX12_option 84 = .ok (.iastore, 1) := by decide +kernel
theorem dX12_option_85 : decode cX12_option 85 = .ok (.aload_n 0, 1) := by decide +kernel
theorem dX12_option_86 : decode cX12_option 86 = .ok (.getfield 95, 3) := by decide +kernel
theorem dX12_option_89 : decode cX12_option 89 = .ok (.aload_n 0, 1) := by decide +kernel
theorem dX12_option_90 : decode cX12_option 90 = .ok (.getfield 254, 3) := by decide +kernel
theorem dX12_option_93 : decode cX12_option 93 = .ok (.iload_n 2, 1) := by decide +kernel
theorem dX12_option_94 : decode cX12_option 94 = .ok (.iastore, 1) := by decide +kernel
theorem dX12_option_95 : decode cX12_option 95 = .ok (.aload_n 0, 1) := by decide +kernel
theorem dX12_option_96 : decode cX12_option 96 = .ok (.getfield 98, 3) := by decide +kernel
theorem dX12_option_99 : decode cX12_option 99 = .ok (.aload_n 0, 1) := by decide +kernel
theorem dX12_option_100 : decode cX12_option 100 = .ok (.getfield 254, 3) := by decide +kernel
theorem dX12_option_103 : decode cX12_option 103 = .ok (.iload_n 3, 1) := by decide +kernel
theorem dX12_option_104 : decode cX12_option 104 = .ok (.iastore, 1) := by decide +kernel
theorem dX12_option_105 : decode cX12_option 105 = .ok (.aload_n 0, 1) := by decide +kernel
theorem dX12_option_106 : decode cX12_option 106 = .ok (.getfield 101, 3) := by decide +kernel
theorem dX12_option_109 : decode cX12_option 109 = .ok (.aload_n 0, 1) := by decide +kernel
theorem dX12_option_110 : decode cX12_option 110 = .ok (.getfield 254, 3) := by decide +kernel
theorem dX12_option_113 : decode cX12_option 113 = .ok (.iload 4, 2) := by decide +kernel
theorem dX12_option_115 : decode cX12_option 115 = .ok (.iastore, 1) := by decide +kernel
theorem dX12_option_116 : decode cX12_option 116 = .ok (.aload_n 0, 1) := by decide +kernel
theorem dX12_option_117 : decode cX12_option 117 = .ok (.dup, 1) := by decide +kernel
theorem dX12_option_118 : decode cX12_option 118 = .ok (.getfield 254, 3) := by decide +kernel
theorem dX12_option_121 : decode cX12_option 121 = .ok (.iconst 1, 1) := by decide +kernel
theorem dX12_option_122 : decode cX12_option 122 = .ok (.iadd, 1) := by decide +kernel
theorem dX12_option_123 : decode cX12_option 123 = .ok (.putfield 254, 3) := by decide +kernel
theorem dX12_option_126 : decode cX12_option 126 = .ok (.iconst 1, 1) := by decide +kernel
theorem dX12_option_127 : decode cX12_option 127 = .ok (.ireturn, 1) := by decide +kernel
set_option maxRecDepth 20000 in
theorem ggX12_mayBe_X12_isOpenTo : GoodIn wsX12_mayBe wsX12_isOpenTo := goodIn_r _ [10, 11, 12, 36, 37, 38, 39, 40, 41, 42, 43, 44, 45, 46, 47, 48, 49, 50, 51, 52, 53, 54, 55, 56, 57, 58, 59, 60, 61, 62, 63, 64, 65, 66, 67, 68, 69, 70, 71, 72, 73, 74, 75, 76, 77, 78, 79, 80, 81, 82, 83, 84, 85, 86, 87, 88, 89] (by decide +kernel) (by decide +kernel)
set_option maxRecDepth 20000 in
theorem gX12_mayBe_X12_isOpenTo : GoodIn wsX12_mayBe (wsV RX12 212 RX12 yX12_isOpenTo wsX12_isOpenTo) := goodIn_app (goodIn_of _ (by decide +kernel)) ggX12_mayBe_X12_isOpenTo
set_option maxRecDepth 20000 in
theorem ggX12_mayBe_X12_clashes : GoodIn wsX12_mayBe wsX12_clashes := goodIn_r _ [16, 17, 18, 19, 20, 21, 22, 23, 24, 25, 26, 27, 28, 29, 30, 31, 32, 9, 33, 34, 35, 36, 37, 38, 39, 40, 41, 42, 43, 44, 45, 46, 47, 48, 49, 50, 51, 52, 53, 54, 55, 56, 57, 58, 59, 60, 61, 62, 63, 64, 65, 66, 67, 68, 69, 70, 71, 72, 73, 74, 75, 76, 77, 78, 79, 80, 81, 82, 83, 84, 85, 86, 87, 88, 89] (by decide +kernel) (by decide +kernel)
set_option maxRecDepth 20000 in
theorem gX12_mayBe_X12_clashes : GoodIn wsX12_mayBe (wsV RX12 234 RX12 yX12_clashes wsX12_clashes) := goodIn_app (goodIn_of _ (by decide +kernel)) ggX12_mayBe_X12_clashes
theorem dX12_mayBe_0 : decode cX12_mayBe 0 = .ok (.aload_n 0, 1) := by decide +kernel
theorem dX12_mayBe_1 : decode cX12_mayBe 1 = .ok (.iload_n 1, 1) := by decide +kernel
theorem dX12_mayBe_2 : decode cX12_mayBe 2 = .ok (.iload_n 2, 1) := by decide +kernel
theorem dX12_mayBe_3 : decode cX12_mayBe 3 = .ok (.invokevirtual 212, 3) := by decide +kernel
theorem dX12_mayBe_6 : decode cX12_mayBe 6 = .ok (.ifCond .ne 5, 3) := by decide +kernel
theorem dX12_mayBe_9 : decode cX12_mayBe 9 = .ok (.iconst 0, 1) := by decide +kernel
theorem dX12_mayBe_10 : decode cX12_mayBe 10 = .ok (.ireturn, 1) := by decide +kernel
theorem dX12_mayBe_11 : decode cX12_mayBe 11 = .ok (.iconst 0, 1) := by decide +kernel
theorem dX12_mayBe_12 : decode cX12_mayBe 12 = .ok (.istore 9, 2) := by decide +kernel
theorem dX12_mayBe_14 : decode cX12_mayBe 14 = .ok (.iload 9, 2) := by decide +kernel
theorem dX12_mayBe_16 : decode cX12_mayBe 16 = .ok (.aload_n 0, 1) := by decide +kernel
theorem dX12_mayBe_17 : decode cX12_mayBe 17 = .ok (.getfield 254, 3) := by decide +kernel
theorem dX12_mayBe_20 : decode cX12_mayBe 20 = .ok (.if_icmp .ge 57, 3) := by decide +kernel
theorem dX12_mayBe_23 : decode cX12_mayBe 23 = .ok (.aload_n 0, 1) := by decide +kernel
theorem dX12_mayBe_24 : decode cX12_mayBe 24 = .ok (.getfield 92, 3) := by decide +kernel
theorem dX12_mayBe_27 : decode cX12_mayBe 27 = .ok (.iload 9, 2) := by decide +kernel
theorem dX12_mayBe_29 : decode cX12_mayBe 29 = .ok (.iaload, 1) := by decide +kernel
theorem dX12_mayBe_30 : decode cX12_mayBe 30 = .ok (.iload_n 1, 1) := by decide +kernel
theorem dX12_mayBe_31 : decode cX12_mayBe 31 = .ok (.if_icmp .ne 40, 3) := by decide +kernel
theorem dX12_mayBe_34 : decode cX12_mayBe 34 = .ok (.aload_n 0, 1) := by decide +kernel
theorem dX12_mayBe_35 : decode cX12_mayBe 35 = .ok (.getfield 95, 3) := by decide +kernel
theorem dX12_mayBe_38 : decode cX12_mayBe 38 = .ok (.iload 9, 2) := by decide +kernel
theorem dX12_mayBe_40 : decode cX12_mayBe 40 = .ok (.iaload, 1) := by decide +kernel
theorem dX12_mayBe_41 : decode cX12_mayBe 41 = .ok (.iload_n 2, 1) := by decide +kernel
theorem dX12_mayBe_42 : decode cX12_mayBe 42 = .ok (.if_icmp .eq 29, 3) := by decide +kernel
theorem dX12_mayBe_45 : decode cX12_mayBe 45 = .ok (.aload_n 0, 1) := by decide +kernel
theorem dX12_mayBe_46 : decode cX12_mayBe 46 = .ok (.getfield 98, 3) := by decide +kernel
theorem dX12_mayBe_49 : decode cX12_mayBe 49 = .ok (.iload 9, 2) := by decide +kernel
theorem dX12_mayBe_51 : decode cX12_mayBe 51 = .ok (.iaload, 1) := by decide +kernel
theorem dX12_mayBe_52 : decode cX12_mayBe 52 = .ok (.iload 8, 2) := by decide +kernel
theorem dX12_mayBe_54 : decode cX12_mayBe 54 = .ok (.if_icmp .gt 17, 3) := by decide +kernel
theorem dX12_mayBe_57 : decode cX12_mayBe 57 = .ok (.iload 8, 2) := by decide +kernel
theorem dX12_mayBe_59 : decode cX12_mayBe 59 = .ok (.aload_n 0, 1) := by decide +kernel
theorem dX12_mayBe_60 : decode cX12_mayBe 60 = .ok (.getfield 101, 3) := by decide +kernel
theorem dX12_mayBe_63 : decode cX12_mayBe 63 = .ok (.iload 9, 2) := by decide +kernel
theorem dX12_mayBe_65 : decode cX12_mayBe 65 = .ok (.iaload, 1) := by decide +kernel
theorem dX12_mayBe_66 : decode cX12_mayBe 66 = .ok (.if_icmp .gt 5, 3) := by decide +kernel
theorem dX12_mayBe_69 : decode cX12_mayBe 69 = .ok (.iconst 0, 1) := by decide +kernel
theorem dX12_mayBe_70 : decode cX12_mayBe 70 = .ok (.ireturn, 1) := by decide +kernel
theorem dX12_mayBe_71 : decode cX12_mayBe 71 = .ok (.iinc 9 1, 3) := by decide +kernel
theorem dX12_mayBe_74 : decode cX12_mayBe 74 = .ok (.goto (-60), 3) := by decide +kernel
theorem dX12_mayBe_77 : decode cX12_mayBe 77 = .ok (.aload_n 0, 1) := by decide +kernel
theorem dX12_mayBe_78 : decode cX12_mayBe 78 = .ok (.iload_n 1, 1) := by decide +kernel
theorem dX12_mayBe_79 : decode cX12_mayBe 79 = .ok (.iload_n 3, 1) := by decide +kernel
theorem dX12_mayBe_80 : decode cX12_mayBe 80 = .ok (.iload 4, 2) := by decide +kernel
theorem dX12_mayBe_82 : decode cX12_mayBe 82 = .ok (.iload 5, 2) := by decide +kernel
theorem dX12_mayBe_84 : decode cX12_mayBe 84 = .ok (.iload 6, 2) := by decide +kernel
theorem dX12_mayBe_86 : decode cX12_mayBe 86 = .ok (.iload 7, 2) := by decide +kernel
theorem dX12_mayBe_88 : decode cX12_mayBe 88 = .ok (.invokevirtual 234, 3) := by decide +kernel
theorem dX12_mayBe_91 : decode cX12_mayBe 91 = .ok (.ifCond .ne 7, 3) := by decide +kernel
theorem dX12_mayBe_94 : decode cX12_mayBe 94 = .ok (.iconst 1, 1) := by decide +kernel
theorem dX12_mayBe_95 : decode cX12_mayBe 95 = .ok (.goto 4, 3) := by decide +kernel
theorem dX12_mayBe_98 : decode cX12_mayBe 98 = .ok (.iconst 0, 1) := by decide +kernel
theorem dX12_mayBe_99 : decode cX12_mayBe 99 = .ok (.ireturn, 1) := by decide +kernel
set_option maxRecDepth 20000 in
theorem ggX12_may_X12_isBook : GoodIn wsX12_may wsX12_isBook := goodIn_r _ [7, 8, 69, 70, 71, 72, 73, 74, 75, 76, 77, 78, 79, 80, 81, 82, 83, 84, 85, 86, 87, 88, 89, 90, 91, 92, 93, 94, 95, 96, 97, 98, 99, 100, 101, 102, 103, 104, 105, 106, 107, 108, 109, 110, 111, 112, 113, 114, 115, 116, 117, 118, 119, 120, 121, 122] (by decide +kernel) (by decide +kernel)
set_option maxRecDepth 20000 in
theorem gX12_may_X12_isBook : GoodIn wsX12_may (wsV RX12 209 RX12 yX12_isBook wsX12_isBook) := goodIn_app (goodIn_of _ (by decide +kernel)) ggX12_may_X12_isBook
set_option maxRecDepth 20000 in
theorem ggX12_may_X12_isEditor : GoodIn wsX12_may wsX12_isEditor := goodIn_r _ [12, 13, 69, 70, 71, 72, 73, 74, 75, 76, 77, 78, 79, 80, 81, 82, 83, 84, 85, 86, 87, 88, 89, 90, 91, 92, 93, 94, 95, 96, 97, 98, 99, 100, 101, 102, 103, 104, 105, 106, 107, 108, 109, 110, 111, 112, 113, 114, 115, 116, 117, 118, 119, 120, 121, 122] (by decide +kernel) (by decide +kernel)
set_option maxRecDepth 20000 in
theorem gX12_may_X12_isEditor : GoodIn wsX12_may (wsV RX12 170 RX12 yX12_isEditor wsX12_isEditor) := goodIn_app (goodIn_of _ (by decide +kernel)) ggX12_may_X12_isEditor
set_option maxRecDepth 20000 in
theorem ggX12_may_X12_refuse : GoodIn wsX12_may wsX12_refuse := goodIn_r _ [17, 2, 69, 70, 71, 72, 73, 74, 75, 76, 77, 78, 79, 80, 81, 82, 83, 84, 85, 86, 87, 88, 89, 90, 91, 92, 93, 94, 95, 96, 97, 98, 99, 100, 101, 102, 103, 104, 105, 106, 107, 108, 109, 110, 111, 112, 113, 114, 115, 116, 117, 118, 119, 120, 121, 122] (by decide +kernel) (by decide +kernel)
set_option maxRecDepth 20000 in
theorem gX12_may_X12_refuse : GoodIn wsX12_may (wsV RX12 164 RX12 yX12_refuse wsX12_refuse) := goodIn_app (goodIn_of _ (by decide +kernel)) ggX12_may_X12_refuse
set_option maxRecDepth 20000 in
theorem ggX12_may_X12_areRights : GoodIn wsX12_may wsX12_areRights := goodIn_r _ [20, 21, 22, 6, 23, 24, 25, 26] (by decide +kernel) (by decide +kernel)
set_option maxRecDepth 20000 in
theorem gX12_may_X12_areRights : GoodIn wsX12_may (va_wsS RX12 230 yX12_areRights wsX12_areRights) := goodIn_app (goodIn_of _ (by decide +kernel)) ggX12_may_X12_areRights
set_option maxRecDepth 20000 in
theorem ggX12_may_X12_isMinute : GoodIn wsX12_may wsX12_isMinute := goodIn_r _ [29, 30] (by decide +kernel) (by decide +kernel)
set_option maxRecDepth 20000 in
theorem gX12_may_X12_isMinute : GoodIn wsX12_may (va_wsS RX12 251 yX12_isMinute wsX12_isMinute) := goodIn_app (goodIn_of _ (by decide +kernel)) ggX12_may_X12_isMinute
set_option maxRecDepth 20000 in
theorem ggX12_may_X12_mayBe : GoodIn wsX12_may wsX12_mayBe := goodIn_r _ [34, 35, 36, 37, 38, 39, 40, 41, 42, 6, 43, 44, 45, 46, 47, 48, 49, 50, 51, 52, 53, 54, 55, 56, 57, 58, 59, 60, 61, 62, 63, 64, 65, 66, 67, 68, 69, 70, 71, 72, 73, 74, 75, 76, 77, 78, 79, 80, 81, 82, 83, 84, 85, 86, 87, 88, 89, 90, 91, 92, 93, 94, 95, 96, 97, 98, 99, 100, 101, 102, 103, 104, 105, 106, 107, 108, 109, 110, 111, 112, 113, 114, 115, 116, 117, 118, 119, 120, 121, 122] (by decide +kernel) (by decide +kernel)
set_option maxRecDepth 20000 in
theorem gX12_may_X12_mayBe : GoodIn wsX12_may (wsV RX12 257 RX12 yX12_mayBe wsX12_mayBe) := goodIn_app (goodIn_of _ (by decide +kernel)) ggX12_may_X12_mayBe
theorem dX12_may_0 : decode cX12_may 0 = .ok (.aload_n 0, 1) := by decide +kernel
theorem dX12_may_1 : decode cX12_may 1 = .ok (.iconst 0, 1) := by decide +kernel
theorem dX12_may_2 : decode cX12_may 2 = .ok (.putfield 134, 3) := by decide +kernel
theorem dX12_may_5 : decode cX12_may 5 = .ok (.aload_n 0, 1) := by decide +kernel
theorem dX12_may_6 : decode cX12_may 6 = .ok (.iconst 0, 1) := by decide +kernel
theorem dX12_may_7 : decode cX12_may 7 = .ok (.putfield 137, 3) := by decide +kernel
theorem dX12_may_10 : decode cX12_may 10 = .ok (.aload_n 0, 1) := by decide +kernel
theorem dX12_may_11 : decode cX12_may 11 = .ok (.iload_n 1, 1) := by decide +kernel
theorem dX12_may_12 : decode cX12_may 12 = .ok (.invokevirtual 209, 3) := by decide +kernel
theorem dX12_may_15 : decode cX12_may 15 = .ok (.ifCond .eq 11, 3) := by decide +kernel
theorem dX12_may_18 : decode cX12_may 18 = .ok (.aload_n 0, 1) := by decide +kernel
theorem dX12_may_19 : decode cX12_may 19 = .ok (.iload_n 2, 1) := by decide +kernel
theorem dX12_may_20 : decode cX12_may 20 = .ok (.invokevirtual 170, 3) := by decide +kernel
theorem dX12_may_23 : decode cX12_may 23 = .ok (.ifCond .ne 9, 3) := by decide +kernel
theorem dX12_may_26 : decode cX12_may 26 = .ok (.aload_n 0, 1) := by decide +kernel
theorem dX12_may_27 : decode cX12_may 27 = .ok (.iconst 1, 1) := by decide +kernel
theorem dX12_may_28 : decode cX12_may 28 = .ok (.invokevirtual 164, 3) := by decide +kernel
theorem dX12_may_31 : decode cX12_may 31 = .ok (.ireturn, 1) := by decide +kernel
theorem dX12_may_32 : decode cX12_may 32 = .ok (.iload_n 3, 1) := by decide +kernel
theorem dX12_may_33 : decode cX12_may 33 = .ok (.iload 4, 2) := by decide +kernel
theorem dX12_may_35 : decode cX12_may 35 = .ok (.iload 5, 2) := by decide +kernel
theorem dX12_may_37 : decode cX12_may 37 = .ok (.iload 6, 2) := by decide +kernel
theorem dX12_may_39 : decode cX12_may 39 = .ok (.iload 7, 2) := by decide +kernel
theorem dX12_may_41 : decode cX12_may 41 = .ok (.invokestatic 230, 3) := by decide +kernel
theorem dX12_may_44 : decode cX12_may 44 = .ok (.ifCond .eq 11, 3) := by decide +kernel
theorem dX12_may_47 : decode cX12_may 47 = .ok (.iload 8, 2) := by decide +kernel
theorem dX12_may_49 : decode cX12_may 49 = .ok (.invokestatic 251, 3) := by decide +kernel
theorem dX12_may_52 : decode cX12_may 52 = .ok (.ifCond .ne 9, 3) := by decide +kernel
theorem dX12_may_55 : decode cX12_may 55 = .ok (.aload_n 0, 1) := by decide +kernel
theorem dX12_may_56 : decode cX12_may 56 = .ok (.iconst 2, 1) := by decide +kernel
theorem dX12_may_57 : decode cX12_may 57 = .ok (.invokevirtual 164, 3) := by decide +kernel
theorem dX12_may_60 : decode cX12_may 60 = .ok (.ireturn, 1) := by decide +kernel
theorem dX12_may_61 : decode cX12_may 61 = .ok (.aload_n 0, 1) := by decide +kernel
theorem dX12_may_62 : decode cX12_may 62 = .ok (.iload_n 1, 1) := by decide +kernel
theorem dX12_may_63 : decode cX12_may 63 = .ok (.iload_n 2, 1) := by decide +kernel
theorem dX12_may_64 : decode cX12_may 64 = .ok (.iload_n 3, 1) := by decide +kernel
theorem dX12_may_65 : decode cX12_may 65 = .ok (.iload 4, 2) := by decide +kernel
theorem dX12_may_67 : decode cX12_may 67 = .ok (.iload 5, 2) := by decide +kernel
theorem dX12_may_69 : decode cX12_may 69 = .ok (.iload 6, 2) := by decide +kernel
theorem dX12_may_71 : decode cX12_may 71 = .ok (.iload 7, 2) := by decide +kernel
theorem dX12_may_73 : decode cX12_may 73 = .ok (.iload 8, 2) := by decide +kernel
theorem dX12_may_75 : decode cX12_may 75 = .ok (.invokevirtual 257, 3) := by decide +kernel
theorem dX12_may_78 : decode cX12_may 78 = .ok (.ifCond .eq 7, 3) := by decide +kernel
theorem dX12_may_81 : decode cX12_may 81 = .ok (.iconst 1, 1) := by decide +kernel
theorem dX12_may_82 : decode cX12_may 82 = .ok (.goto 4, 3) := by decide +kernel
theorem dX12_may_85 : decode cX12_may 85 = .ok (.iconst 0, 1) := by decide +kernel
theorem dX12_may_86 : decode cX12_may 86 = .ok (.ireturn, 1) := by decide +kernel
theorem dX12_upper_0 : decode cX12_upper 0 = .ok (.aload_n 0, 1) := by decide +kernel
theorem dX12_upper_1 : decode cX12_upper 1 = .ok (.iconst 0, 1) := by decide +kernel
theorem dX12_upper_2 : decode cX12_upper 2 = .ok (.putfield 134, 3) := by decide +kernel
theorem dX12_upper_5 : decode cX12_upper 5 = .ok (.aload_n 0, 1) := by decide +kernel
theorem dX12_upper_6 : decode cX12_upper 6 = .ok (.getfield 248, 3) := by decide +kernel
theorem dX12_upper_9 : decode cX12_upper 9 = .ok (.lreturn, 1) := by decide +kernel
theorem dX12_lower_0 : decode cX12_lower 0 = .ok (.aload_n 0, 1) := by decide +kernel
theorem dX12_lower_1 : decode cX12_lower 1 = .ok (.iconst 0, 1) := by decide +kernel
theorem dX12_lower_2 : decode cX12_lower 2 = .ok (.putfield 134, 3) := by decide +kernel
theorem dX12_lower_5 : decode cX12_lower 5 = .ok (.aload_n 0, 1) := by decide +kernel
theorem dX12_lower_6 : decode cX12_lower 6 = .ok (.getfield 7, 3) := by decide +kernel
theorem dX12_lower_9 : decode cX12_lower 9 = .ok (.lreturn, 1) := by decide +kernel
theorem dX12_limit_0 : decode cX12_limit 0 = .ok (.aload_n 0, 1) := by decide +kernel
theorem dX12_limit_1 : decode cX12_limit 1 = .ok (.getfield 20, 3) := by decide +kernel
theorem dX12_limit_4 : decode cX12_limit 4 = .ok (.bipush 40, 2) := by decide +kernel
theorem dX12_limit_6 : decode cX12_limit 6 = .ok (.iload_n 1, 1) := by decide +kernel
theorem dX12_limit_7 : decode cX12_limit 7 = .ok (.imul, 1) := by decide +kernel
theorem dX12_limit_8 : decode cX12_limit 8 = .ok (.iload_n 2, 1) := by decide +kernel
theorem dX12_limit_9 : decode cX12_limit 9 = .ok (.iadd, 1) := by decide +kernel
theorem dX12_limit_10 : decode cX12_limit 10 = .ok (.laload, 1) := by decide +kernel
theorem dX12_limit_11 : decode cX12_limit 11 = .ok (.lreturn, 1) := by decide +kernel
set_option maxRecDepth 20000 in
theorem ggX12_auction_X12_isEditor : GoodIn wsX12_auction wsX12_isEditor := goodIn_r _ [19, 6, 29, 30, 31, 32, 33, 34, 35, 36, 37, 38, 39, 40, 41, 42, 43, 44, 45, 46, 47, 48, 49, 50, 51, 52, 53, 54, 55, 56, 57, 58, 59, 60, 61, 62, 63, 64, 65, 66, 67, 68, 69, 70, 71, 72, 73, 74, 75, 76, 77, 78, 79, 80, 81, 82] (by decide +kernel) (by decide +kernel)
set_option maxRecDepth 20000 in
theorem gX12_auction_X12_isEditor : GoodIn wsX12_auction (wsV RX12 170 RX12 yX12_isEditor wsX12_isEditor) := goodIn_app (goodIn_of _ (by decide +kernel)) ggX12_auction_X12_isEditor
set_option maxRecDepth 20000 in
theorem ggX12_auction_X12_refuse : GoodIn wsX12_auction wsX12_refuse := goodIn_r _ [23, 2, 29, 30, 31, 32, 33, 34, 35, 36, 37, 38, 39, 40, 41, 42, 43, 44, 45, 46, 47, 48, 49, 50, 51, 52, 53, 54, 55, 56, 57, 58, 59, 60, 61, 62, 63, 64, 65, 66, 67, 68, 69, 70, 71, 72, 73, 74, 75, 76, 77, 78, 79, 80, 81, 82] (by decide +kernel) (by decide +kernel)
set_option maxRecDepth 20000 in
theorem gX12_auction_X12_refuse : GoodIn wsX12_auction (wsV RX12 164 RX12 yX12_refuse wsX12_refuse) := goodIn_app (goodIn_of _ (by decide +kernel)) ggX12_auction_X12_refuse
set_option maxRecDepth 20000 in
theorem ggX12_auction_X12_limit : GoodIn wsX12_auction wsX12_limit := goodIn_r _ [27, 28, 29, 30, 31, 32, 33, 34, 35, 36, 37, 38, 39, 40, 41, 42, 43, 44, 45, 46, 47, 48, 49, 50, 51, 52, 53, 54, 55, 56, 57, 58, 59, 60, 61, 62, 63, 64, 65, 66, 67, 68, 69, 70, 71, 72, 73, 74, 75, 76, 77, 78, 79, 80, 81, 82] (by decide +kernel) (by decide +kernel)
set_option maxRecDepth 20000 in
theorem gX12_auction_X12_limit : GoodIn wsX12_auction (wsV RX12 262 RX12 yX12_limit wsX12_limit) := goodIn_app (goodIn_of _ (by decide +kernel)) ggX12_auction_X12_limit
theorem dX12_auction_0 : decode cX12_auction 0 = .ok (.aload_n 0, 1) := by decide +kernel
theorem dX12_auction_1 : decode cX12_auction 1 = .ok (.iconst 0, 1) := by decide +kernel
theorem dX12_auction_2 : decode cX12_auction 2 = .ok (.putfield 134, 3) := by decide +kernel
theorem dX12_auction_5 : decode cX12_auction 5 = .ok (.aload_n 0, 1) := by decide +kernel
theorem dX12_auction_6 : decode cX12_auction 6 = .ok (.iconst 0, 1) := by decide +kernel
theorem dX12_auction_7 : decode cX12_auction 7 = .ok (.putfield 137, 3) := by decide +kernel
theorem dX12_auction_10 : decode cX12_auction 10 = .ok (.iload_n 1, 1) := by decide +kernel
theorem dX12_auction_11 : decode cX12_auction 11 = .ok (.ifCond .lt 21, 3) := by decide +kernel
theorem dX12_auction_14 : decode cX12_auction 14 = .ok (.iload_n 1, 1) := by decide +kernel
theorem dX12_auction_15 : decode cX12_auction 15 = .ok (.iconst 4, 1) := by decide +kernel
theorem dX12_auction_16 : decode cX12_auction 16 = .ok (.if_icmp .ge 16, 3) := by decide +kernel
theorem dX12_auction_19 : decode cX12_auction 19 = .ok (.iload_n 3, 1) := by decide +kernel
theorem dX12_auction_20 : decode cX12_auction 20 = .ok (.iconst (-1), 1) := by decide +kernel
theorem dX12_auction_21 : decode cX12_auction 21 = .ok (.if_icmp .eq 17, 3) := by decide +kernel
theorem dX12_auction_24 : decode cX12_auction 24 = .ok (.aload_n 0, 1) := by decide +kernel
theorem dX12_auction_25 : decode cX12_auction 25 = .ok (.iload_n 3, 1) := by decide +kernel
theorem dX12_auction_26 : decode cX12_auction 26 = .ok (.invokevirtual 170, 3) := by decide +kernel
theorem dX12_auction_29 : decode cX12_auction 29 = .ok (.ifCond .ne 9, 3) := by decide +kernel
theorem dX12_auction_32 : decode cX12_auction 32 = .ok (.aload_n 0, 1) := by decide +kernel
theorem dX12_auction_33 : decode cX12_auction 33 = .ok (.iconst 1, 1) := by decide +kernel
theorem dX12_auction_34 : decode cX12_auction 34 = .ok (.invokevirtual 164, 3) := by decide +kernel
theorem dX12_auction_37 : decode cX12_auction 37 = .ok (.ireturn, 1) := by decide +kernel
theorem dX12_auction_38 : decode cX12_auction 38 = .ok (.iload_n 2, 1) := by decide +kernel
theorem dX12_auction_39 : decode cX12_auction 39 = .ok (.ifCond .lt 57, 3) := by decide +kernel
theorem dX12_auction_42 : decode cX12_auction 42 = .ok (.iload_n 2, 1) := by decide +kernel
theorem dX12_auction_43 : decode cX12_auction 43 = .ok (.ldc_w 261, 3) := by decide +kernel
theorem dX12_auction_46 : decode cX12_auction 46 = .ok (.if_icmp .gt 50, 3) := by decide +kernel
theorem dX12_auction_49 : decode cX12_auction 49 = .ok (.iload 4, 2) := by decide +kernel
theorem dX12_auction_51 : decode cX12_auction 51 = .ok (.ifCond .lt 45, 3) := by decide +kernel
theorem dX12_auction_54 : decode cX12_auction 54 = .ok (.iload 4, 2) := by decide +kernel
theorem dX12_auction_56 : decode cX12_auction 56 = .ok (.bipush 50, 2) := by decide +kernel
theorem dX12_auction_58 : decode cX12_auction 58 = .ok (.if_icmp .gt 38, 3) := by decide +kernel
theorem dX12_auction_61 : decode cX12_auction 61 = .ok (.iload 5, 2) := by decide +kernel
theorem dX12_auction_63 : decode cX12_auction 63 = .ok (.iconst 1, 1) := by decide +kernel
theorem dX12_auction_64 : decode cX12_auction 64 = .ok (.if_icmp .lt 32, 3) := by decide +kernel
theorem dX12_auction_67 : decode cX12_auction 67 = .ok (.iload 5, 2) := by decide +kernel
theorem dX12_auction_69 : decode cX12_auction 69 = .ok (.ldc 201, 2) := by decide +kernel
theorem dX12_auction_71 : decode cX12_auction 71 = .ok (.if_icmp .gt 25, 3) := by decide +kernel
theorem dX12_auction_74 : decode cX12_auction 74 = .ok (.iload_n 2, 1) := by decide +kernel
theorem dX12_auction_75 : decode cX12_auction 75 = .ok (.ifCond .ne 7, 3) := by decide +kernel
theorem dX12_auction_78 : decode cX12_auction 78 = .ok (.iconst 1, 1) := by decide +kernel
theorem dX12_auction_79 : decode cX12_auction 79 = .ok (.goto 4, 3) := by decide +kernel
theorem dX12_auction_82 : decode cX12_auction 82 = .ok (.iconst 0, 1) := by decide +kernel
theorem dX12_auction_83 : decode cX12_auction 83 = .ok (.iload_n 3, 1) := by decide +kernel
theorem dX12_auction_84 : decode cX12_auction 84 = .ok (.iconst (-1), 1) := by decide +kernel
theorem dX12_auction_85 : decode cX12_auction 85 = .ok (.if_icmp .ne 7, 3) := by decide +kernel
theorem dX12_auction_88 : decode cX12_auction 88 = .ok (.iconst 1, 1) := by decide +kernel
theorem dX12_auction_89 : decode cX12_auction 89 = .ok (.goto 4, 3) := by decide +kernel
theorem dX12_auction_92 : decode cX12_auction 92 = .ok (.iconst 0, 1) := by decide +kernel
theorem dX12_auction_93 : decode cX12_auction 93 = .ok (.if_icmp .eq 9, 3) := by decide +kernel
theorem dX12_auction_96 : decode cX12_auction 96 = .ok (.aload_n 0, 1) := by decide +kernel
theorem dX12_auction_97 : decode cX12_auction 97 = .ok (.iconst 2, 1) := by decide +kernel
theorem dX12_auction_98 : decode cX12_auction 98 = .ok (.invokevirtual 164, 3) := by decide +kernel
theorem dX12_auction_101 : decode cX12_auction 101 = .ok (.ireturn, 1) := by decide +kernel
theorem dX12_auction_102 : decode cX12_auction 102 = .ok (.aload_n 0, 1) := by decide +kernel
theorem dX12_auction_103 : decode cX12_auction 103 = .ok (.getfield 17, 3) := by decide +kernel
theorem dX12_auction_106 : decode cX12_auction 106 = .ok (.iload_n 1, 1) := by decide +kernel
theorem dX12_auction_107 : decode cX12_auction 107 = .ok (.iaload, 1) := by decide +kernel
theorem dX12_auction_108 : decode cX12_auction 108 = .ok (.ifCond .ge 9, 3) := by decide +kernel
theorem dX12_auction_111 : decode cX12_auction 111 = .ok (.aload_n 0, 1) := by decide +kernel
theorem dX12_auction_112 : decode cX12_auction 112 = .ok (.iconst 4, 1) := by decide +kernel
theorem dX12_auction_113 : decode cX12_auction 113 = .ok (.invokevirtual 164, 3) := by decide +kernel
theorem dX12_auction_116 : decode cX12_auction 116 = .ok (.ireturn, 1) := by decide +kernel
theorem dX12_auction_117 : decode cX12_auction 117 = .ok (.aload_n 0, 1) := by decide +kernel
theorem dX12_auction_118 : decode cX12_auction 118 = .ok (.getfield 17, 3) := by decide +kernel
theorem dX12_auction_121 : decode cX12_auction 121 = .ok (.iload_n 1, 1) := by decide +kernel
theorem dX12_auction_122 : decode cX12_auction 122 = .ok (.iaload, 1) := by decide +kernel
theorem dX12_auction_123 : decode cX12_auction 123 = .ok (.aload_n 0, 1) := by decide +kernel
theorem dX12_auction_124 : decode cX12_auction 124 = .ok (.getfield 161, 3) := by decide +kernel
theorem dX12_auction_127 : decode cX12_auction 127 = .ok (.if_icmp .ge 9, 3) := by decide +kernel
theorem dX12_auction_130 : decode cX12_auction 130 = .ok (.aload_n 0, 1) := by decide +kernel
theorem dX12_auction_131 : decode cX12_auction 131 = .ok (.iconst 5, 1) := by decide +kernel
theorem dX12_auction_132 : decode cX12_auction 132 = .ok (.invokevirtual 164, 3) := by decide +kernel
theorem dX12_auction_135 : decode cX12_auction 135 = .ok (.ireturn, 1) := by decide +kernel
theorem dX12_auction_136 : decode cX12_auction 136 = .ok (.iconst 0, 1) := by decide +kernel
theorem dX12_auction_137 : decode cX12_auction 137 = .ok (.istore 6, 2) := by decide +kernel
theorem dX12_auction_139 : decode cX12_auction 139 = .ok (.iload 6, 2) := by decide +kernel
theorem dX12_auction_141 : decode cX12_auction 141 = .ok (.aload_n 0, 1) := by decide +kernel
theorem dX12_auction_142 : decode cX12_auction 142 = .ok (.getfield 161, 3) := by decide +kernel
theorem dX12_auction_145 : decode cX12_auction 145 = .ok (.if_icmp .ge 60, 3) := by decide +kernel
theorem dX12_auction_148 : decode cX12_auction 148 = .ok (.aload_n 0, 1) := by decide +kernel
theorem dX12_auction_149 : decode cX12_auction 149 = .ok (.iload_n 1, 1) := by decide +kernel
theorem dX12_auction_150 : decode cX12_auction 150 = .ok (.iload 6, 2) := by decide +kernel
theorem dX12_auction_152 : decode cX12_auction 152 = .ok (.invokevirtual 262, 3) := by decide +kernel
theorem dX12_auction_155 : decode cX12_auction 155 = .ok (.lconst 0, 1) := by decide +kernel
theorem dX12_auction_156 : decode cX12_auction 156 = .ok (.lcmp, 1) := by decide +kernel
theorem dX12_auction_157 : decode cX12_auction 157 = .ok (.ifCond .lt 36, 3) := by decide +kernel
theorem dX12_auction_160 : decode cX12_auction 160 = .ok (.aload_n 0, 1) := by decide +kernel
theorem dX12_auction_161 : decode cX12_auction 161 = .ok (.iload_n 1, 1) := by decide +kernel
theorem dX12_auction_162 : decode cX12_auction 162 = .ok (.iload 6, 2) := by decide +kernel
theorem dX12_auction_164 : decode cX12_auction 164 = .ok (.invokevirtual 262, 3) := by decide +kernel
theorem dX12_auction_167 : decode cX12_auction 167 = .ok (.ldc2_w 266, 3) := by decide +kernel
theorem dX12_auction_170 : decode cX12_auction 170 = .ok (.lcmp, 1) := by decide +kernel
theorem dX12_auction_171 : decode cX12_auction 171 = .ok (.ifCond .gt 22, 3) := by decide +kernel
theorem dX12_auction_174 : decode cX12_auction 174 = .ok (.iload 6, 2) := by decide +kernel
theorem dX12_auction_176 : decode cX12_auction 176 = .ok (.iload_n 3, 1) := by decide +kernel
theorem dX12_auction_177 : decode cX12_auction 177 = .ok (.if_icmp .ne 22, 3) := by decide +kernel
theorem dX12_auction_180 : decode cX12_auction 180 = .ok (.aload_n 0, 1) := by decide +kernel
theorem dX12_auction_181 : decode cX12_auction 181 = .ok (.iload_n 1, 1) := by decide +kernel
theorem dX12_auction_182 : decode cX12_auction 182 = .ok (.iload 6, 2) := by decide +kernel
theorem dX12_auction_184 : decode cX12_auction 184 = .ok (.invokevirtual 262, 3) := by decide +kernel
theorem dX12_auction_187 : decode cX12_auction 187 = .ok (.iload_n 2, 1) := by decide +kernel
theorem dX12_auction_188 : decode cX12_auction 188 = .ok (.i2l, 1) := by decide +kernel
theorem dX12_auction_189 : decode cX12_auction 189 = .ok (.lcmp, 1) := by decide +kernel
theorem dX12_auction_190 : decode cX12_auction 190 = .ok (.ifCond .ge 9, 3) := by decide +kernel
theorem dX12_auction_193 : decode cX12_auction 193 = .ok (.aload_n 0, 1) := by decide +kernel
theorem dX12_auction_194 : decode cX12_auction 194 = .ok (.iconst 2, 1) := by decide +kernel
theorem dX12_auction_195 : decode cX12_auction 195 = .ok (.invokevirtual 164, 3) := by decide +kernel
theorem dX12_auction_198 : decode cX12_auction 198 = .ok (.ireturn, 1) := by decide +kernel
theorem dX12_auction_199 : decode cX12_auction 199 = .ok (.iinc 6 1, 3) := by decide +kernel
theorem dX12_auction_202 : decode cX12_auction 202 = .ok (.goto (-63), 3) := by decide +kernel
theorem dX12_auction_205 : decode cX12_auction 205 = .ok (.iconst 0, 1) := by decide +kernel
theorem dX12_auction_206 : decode cX12_auction 206 = .ok (.istore 6, 2) := by decide +kernel
theorem dX12_auction_208 : decode cX12_auction 208 = .ok (.iload 6, 2) := by decide +kernel
theorem dX12_auction_210 : decode cX12_auction 210 = .ok (.aload_n 0, 1) := by decide +kernel
theorem dX12_auction_211 : decode cX12_auction 211 = .ok (.getfield 161, 3) := by decide +kernel
theorem dX12_auction_214 : decode cX12_auction 214 = .ok (.if_icmp .ge 27, 3) := by decide +kernel
theorem dX12_auction_217 : decode cX12_auction 217 = .ok (.aload_n 0, 1) := by decide +kernel
theorem dX12_auction_218 : decode cX12_auction 218 = .ok (.getfield 131, 3) := by decide +kernel
theorem dX12_auction_221 : decode cX12_auction 221 = .ok (.iload 6, 2) := by decide +kernel
theorem dX12_auction_223 : decode cX12_auction 223 = .ok (.iload 6, 2) := by decide +kernel
theorem dX12_auction_225 : decode cX12_auction 225 = .ok (.iload_n 3, 1) := by decide +kernel
theorem dX12_auction_226 : decode cX12_auction 226 = .ok (.if_icmp .ne 7, 3) := by decide +kernel
theorem dX12_auction_229 : decode cX12_auction 229 = .ok (.iconst 1, 1) := by decide +kernel
theorem dX12_auction_230 : decode cX12_auction 230 = .ok (.goto 4, 3) := by decide +kernel
theorem dX12_auction_233 : decode cX12_auction 233 = .ok (.iconst 0, 1) := by decide +kernel
theorem dX12_auction_234 : decode cX12_auction 234 = .ok (.bastore, 1) := by decide +kernel
theorem dX12_auction_235 : decode cX12_auction 235 = .ok (.iinc 6 1, 3) := by decide +kernel
theorem dX12_auction_238 : decode cX12_auction 238 = .ok (.goto (-30), 3) := by decide +kernel
theorem dX12_auction_241 : decode cX12_auction 241 = .ok (.iload_n 2, 1) := by decide +kernel
theorem dX12_auction_242 : decode cX12_auction 242 = .ok (.istore 6, 2) := by decide +kernel
theorem dX12_auction_244 : decode cX12_auction 244 = .ok (.iload_n 3, 1) := by decide +kernel
theorem dX12_auction_245 : decode cX12_auction 245 = .ok (.istore 7, 2) := by decide +kernel
theorem dX12_auction_247 : decode cX12_auction 247 = .ok (.iconst 0, 1) := by decide +kernel
theorem dX12_auction_248 : decode cX12_auction 248 = .ok (.istore 8, 2) := by decide +kernel
theorem dX12_auction_250 : decode cX12_auction 250 = .ok (.iconst 1, 1) := by decide +kernel
theorem dX12_auction_251 : decode cX12_auction 251 = .ok (.istore 9, 2) := by decide +kernel
theorem dX12_auction_253 : decode cX12_auction 253 = .ok (.iload 9, 2) := by decide +kernel
theorem dX12_auction_255 : decode cX12_auction 255 = .ok (.ifCond .eq 92, 3) := by decide +kernel
theorem dX12_auction_258 : decode cX12_auction 258 = .ok (.iconst 0, 1) := by decide +kernel
theorem dX12_auction_259 : decode cX12_auction 259 = .ok (.istore 9, 2) := by decide +kernel
theorem dX12_auction_261 : decode cX12_auction 261 = .ok (.iinc 8 1, 3) := by decide +kernel
theorem dX12_auction_264 : decode cX12_auction 264 = .ok (.iconst 0, 1) := by decide +kernel
theorem dX12_auction_265 : decode cX12_auction 265 = .ok (.istore 10, 2) := by decide +kernel
theorem dX12_auction_267 : decode cX12_auction 267 = .ok (.iload 10, 2) := by decide +kernel
theorem dX12_auction_269 : decode cX12_auction 269 = .ok (.aload_n 0, 1) := by decide +kernel
theorem dX12_auction_270 : decode cX12_auction 270 = .ok (.getfield 161, 3) := by decide +kernel
theorem dX12_auction_273 : decode cX12_auction 273 = .ok (.if_icmp .ge 71, 3) := by decide +kernel
theorem dX12_auction_276 : decode cX12_auction 276 = .ok (.aload_n 0, 1) := by decide +kernel
theorem dX12_auction_277 : decode cX12_auction 277 = .ok (.getfield 131, 3) := by decide +kernel
theorem dX12_auction_280 : decode cX12_auction 280 = .ok (.iload 10, 2) := by decide +kernel
theorem dX12_auction_282 : decode cX12_auction 282 = .ok (.baload, 1) := by decide +kernel
theorem dX12_auction_283 : decode cX12_auction 283 = .ok (.ifCond .ne 55, 3) := by decide +kernel
theorem dX12_auction_286 : decode cX12_auction 286 = .ok (.iload 10, 2) := by decide +kernel
theorem dX12_auction_288 : decode cX12_auction 288 = .ok (.iload 7, 2) := by decide +kernel
theorem dX12_auction_290 : decode cX12_auction 290 = .ok (.if_icmp .ne 6, 3) := by decide +kernel
theorem dX12_auction_293 : decode cX12_auction 293 = .ok (.goto 45, 3) := by decide +kernel
theorem dX12_auction_296 : decode cX12_auction 296 = .ok (.aload_n 0, 1) := by decide +kernel
theorem dX12_auction_297 : decode cX12_auction 297 = .ok (.iload_n 1, 1) := by decide +kernel
theorem dX12_auction_298 : decode cX12_auction 298 = .ok (.iload 10, 2) := by decide +kernel
theorem dX12_auction_300 : decode cX12_auction 300 = .ok (.invokevirtual 262, 3) := by decide +kernel
theorem dX12_auction_303 : decode cX12_auction 303 = .ok (.iload 6, 2) := by decide +kernel
theorem dX12_auction_305 : decode cX12_auction 305 = .ok (.iload 5, 2) := by decide +kernel
theorem dX12_auction_307 : decode cX12_auction 307 = .ok (.iadd, 1) := by decide +kernel
theorem dX12_auction_308 : decode cX12_auction 308 = .ok (.i2l, 1) := by decide +kernel
theorem dX12_auction_309 : decode cX12_auction 309 = .ok (.lcmp, 1) := by decide +kernel
theorem dX12_auction_310 : decode cX12_auction 310 = .ok (.ifCond .lt 20, 3) := by decide +kernel
theorem dX12_auction_313 : decode cX12_auction 313 = .ok (.iload 6, 2) := by decide +kernel
theorem dX12_auction_315 : decode cX12_auction 315 = .ok (.iload 5, 2) := by decide +kernel
theorem dX12_auction_317 : decode cX12_auction 317 = .ok (.iadd, 1) := by decide +kernel
theorem dX12_auction_318 : decode cX12_auction 318 = .ok (.istore 6, 2) := by decide +kernel
theorem dX12_auction_320 : decode cX12_auction 320 = .ok (.iload 10, 2) := by decide +kernel
theorem dX12_auction_322 : decode cX12_auction 322 = .ok (.istore 7, 2) := by decide +kernel
theorem dX12_auction_324 : decode cX12_auction 324 = .ok (.iconst 1, 1) := by decide +kernel
theorem dX12_auction_325 : decode cX12_auction 325 = .ok (.istore 9, 2) := by decide +kernel
theorem dX12_auction_327 : decode cX12_auction 327 = .ok (.goto 11, 3) := by decide +kernel
theorem dX12_auction_330 : decode cX12_auction 330 = .ok (.aload_n 0, 1) := by decide +kernel
theorem dX12_auction_331 : decode cX12_auction 331 = .ok (.getfield 131, 3) := by decide +kernel
theorem dX12_auction_334 : decode cX12_auction 334 = .ok (.iload 10, 2) := by decide +kernel
theorem dX12_auction_336 : decode cX12_auction 336 = .ok (.iconst 1, 1) := by decide +kernel
theorem dX12_auction_337 : decode cX12_auction 337 = .ok (.bastore, 1) := by decide +kernel
theorem dX12_auction_338 : decode cX12_auction 338 = .ok (.iinc 10 1, 3) := by decide +kernel
theorem dX12_auction_341 : decode cX12_auction 341 = .ok (.goto (-74), 3) := by decide +kernel
theorem dX12_auction_344 : decode cX12_auction 344 = .ok (.goto (-91), 3) := by decide +kernel
theorem dX12_auction_347 : decode cX12_auction 347 = .ok (.iload 7, 2) := by decide +kernel
theorem dX12_auction_349 : decode cX12_auction 349 = .ok (.ifCond .ge 10, 3) := by decide +kernel
theorem dX12_auction_352 : decode cX12_auction 352 = .ok (.aload_n 0, 1) := by decide +kernel
theorem dX12_auction_353 : decode cX12_auction 353 = .ok (.bipush 9, 2) := by decide +kernel
theorem dX12_auction_355 : decode cX12_auction 355 = .ok (.invokevirtual 164, 3) := by decide +kernel
theorem dX12_auction_358 : decode cX12_auction 358 = .ok (.ireturn, 1) := by decide +kernel
theorem dX12_auction_359 : decode cX12_auction 359 = .ok (.iload 6, 2) := by decide +kernel
theorem dX12_auction_361 : decode cX12_auction 361 = .ok (.i2l, 1) := by decide +kernel
theorem dX12_auction_362 : decode cX12_auction 362 = .ok (.iload 6, 2) := by decide +kernel
theorem dX12_auction_364 : decode cX12_auction 364 = .ok (.i2l, 1) := by decide +kernel
theorem dX12_auction_365 : decode cX12_auction 365 = .ok (.iload 4, 2) := by decide +kernel
theorem dX12_auction_367 : decode cX12_auction 367 = .ok (.i2l, 1) := by decide +kernel
theorem dX12_auction_368 : decode cX12_auction 368 = .ok (.lmul, 1) := by decide +kernel
theorem dX12_auction_369 : decode cX12_auction 369 = .ok (.ldc2_w 268, 3) := by decide +kernel
theorem dX12_auction_372 : decode cX12_auction 372 = .ok (.ladd, 1) := by decide +kernel
theorem dX12_auction_373 : decode cX12_auction 373 = .ok (.ldc2_w 270, 3) := by decide +kernel
theorem dX12_auction_376 : decode cX12_auction 376 = .ok (.ldiv, 1) := by decide +kernel
theorem dX12_auction_377 : decode cX12_auction 377 = .ok (.ladd, 1) := by decide +kernel
theorem dX12_auction_378 : decode cX12_auction 378 = .ok (.lstore 10, 2) := by decide +kernel
theorem dX12_auction_380 : decode cX12_auction 380 = .ok (.aload_n 0, 1) := by decide +kernel
theorem dX12_auction_381 : decode cX12_auction 381 = .ok (.iload_n 3, 1) := by decide +kernel
theorem dX12_auction_382 : decode cX12_auction 382 = .ok (.ifCond .lt 25, 3) := by decide +kernel
theorem dX12_auction_385 : decode cX12_auction 385 = .ok (.iload 7, 2) := by decide +kernel
theorem dX12_auction_387 : decode cX12_auction 387 = .ok (.iload_n 3, 1) := by decide +kernel
theorem dX12_auction_388 : decode cX12_auction 388 = .ok (.if_icmp .eq 19, 3) := by decide +kernel
theorem dX12_auction_391 : decode cX12_auction 391 = .ok (.aload_n 0, 1) := by decide +kernel
theorem dX12_auction_392 : decode cX12_auction 392 = .ok (.iload_n 1, 1) := by decide +kernel
theorem dX12_auction_393 : decode cX12_auction 393 = .ok (.iload_n 3, 1) := by decide +kernel
theorem dX12_auction_394 : decode cX12_auction 394 = .ok (.invokevirtual 262, 3) := by decide +kernel
theorem dX12_auction_397 : decode cX12_auction 397 = .ok (.lload 10, 2) := by decide +kernel
theorem dX12_auction_399 : decode cX12_auction 399 = .ok (.lcmp, 1) := by decide +kernel
theorem dX12_auction_400 : decode cX12_auction 400 = .ok (.ifCond .lt 7, 3) := by decide +kernel
theorem dX12_auction_403 : decode cX12_auction 403 = .ok (.iconst 1, 1) := by decide +kernel
theorem dX12_auction_404 : decode cX12_auction 404 = .ok (.goto 4, 3) := by decide +kernel
theorem dX12_auction_407 : decode cX12_auction 407 = .ok (.iconst 0, 1) := by decide +kernel
theorem dX12_auction_408 : decode cX12_auction 408 = .ok (.putfield 272, 3) := by decide +kernel
theorem dX12_auction_411 : decode cX12_auction 411 = .ok (.aload_n 0, 1) := by decide +kernel
theorem dX12_auction_412 : decode cX12_auction 412 = .ok (.iconst 1, 1) := by decide +kernel
theorem dX12_auction_413 : decode cX12_auction 413 = .ok (.putfield 276, 3) := by decide +kernel
theorem dX12_auction_416 : decode cX12_auction 416 = .ok (.aload_n 0, 1) := by decide +kernel
theorem dX12_auction_417 : decode cX12_auction 417 = .ok (.iload 8, 2) := by decide +kernel
theorem dX12_auction_419 : decode cX12_auction 419 = .ok (.putfield 279, 3) := by decide +kernel
theorem dX12_auction_422 : decode cX12_auction 422 = .ok (.aload_n 0, 1) := by decide +kernel
theorem dX12_auction_423 : decode cX12_auction 423 = .ok (.aload_n 0, 1) := by decide +kernel
theorem dX12_auction_424 : decode cX12_auction 424 = .ok (.getfield 272, 3) := by decide +kernel
theorem dX12_auction_427 : decode cX12_auction 427 = .ok (.ifCond .eq 9, 3) := by decide +kernel
theorem dX12_auction_430 : decode cX12_auction 430 = .ok (.lload 10, 2) := by decide +kernel
theorem dX12_auction_432 : decode cX12_auction 432 = .ok (.l2i, 1) := by decide +kernel
theorem dX12_auction_433 : decode cX12_auction 433 = .ok (.goto 5, 3) := by decide +kernel
theorem dX12_auction_436 : decode cX12_auction 436 = .ok (.iload 6, 2) := by decide +kernel
theorem dX12_auction_438 : decode cX12_auction 438 = .ok (.putfield 282, 3) := by decide +kernel
theorem dX12_auction_441 : decode cX12_auction 441 = .ok (.aload_n 0, 1) := by decide +kernel
theorem dX12_auction_442 : decode cX12_auction 442 = .ok (.getfield 272, 3) := by decide +kernel
theorem dX12_auction_445 : decode cX12_auction 445 = .ok (.ifCond .eq 7, 3) := by decide +kernel
theorem dX12_auction_448 : decode cX12_auction 448 = .ok (.iload_n 3, 1) := by decide +kernel
theorem dX12_auction_449 : decode cX12_auction 449 = .ok (.goto 5, 3) := by decide +kernel
theorem dX12_auction_452 : decode cX12_auction 452 = .ok (.iload 7, 2) := by decide +kernel
theorem dX12_auction_454 : decode cX12_auction 454 = .ok (.ireturn, 1) := by decide +kernel
set_option maxRecDepth 20000 in
theorem ggX12_sold_X12_refuse : GoodIn wsX12_sold wsX12_refuse := goodIn_r _ [11, 2, 12, 13, 14, 15, 16, 17, 18, 19, 20, 21, 22, 23, 24, 25, 26, 27, 28, 29, 30, 31, 32, 33, 34, 35, 36, 37, 38, 39, 40, 41, 42, 43, 44, 45, 46, 47, 48, 49, 50, 51, 52, 53, 54, 55, 56, 57, 58, 59, 60, 61, 62, 63, 64, 65] (by decide +kernel) (by decide +kernel)
set_option maxRecDepth 20000 in
theorem gX12_sold_X12_refuse : GoodIn wsX12_sold (wsV RX12 164 RX12 yX12_refuse wsX12_refuse) := goodIn_app (goodIn_of _ (by decide +kernel)) ggX12_sold_X12_refuse
theorem dX12_sold_0 : decode cX12_sold 0 = .ok (.aload_n 0, 1) := by decide +kernel
theorem dX12_sold_1 : decode cX12_sold 1 = .ok (.iconst 0, 1) := by decide +kernel
theorem dX12_sold_2 : decode cX12_sold 2 = .ok (.putfield 134, 3) := by decide +kernel
theorem dX12_sold_5 : decode cX12_sold 5 = .ok (.aload_n 0, 1) := by decide +kernel
theorem dX12_sold_6 : decode cX12_sold 6 = .ok (.iconst 0, 1) := by decide +kernel
theorem dX12_sold_7 : decode cX12_sold 7 = .ok (.putfield 137, 3) := by decide +kernel
theorem dX12_sold_10 : decode cX12_sold 10 = .ok (.iload_n 1, 1) := by decide +kernel
theorem dX12_sold_11 : decode cX12_sold 11 = .ok (.ifCond .lt 8, 3) := by decide +kernel
theorem dX12_sold_14 : decode cX12_sold 14 = .ok (.iload_n 1, 1) := by decide +kernel
theorem dX12_sold_15 : decode cX12_sold 15 = .ok (.iconst 2, 1) := by decide +kernel
theorem dX12_sold_16 : decode cX12_sold 16 = .ok (.if_icmp .le 9, 3) := by decide +kernel
theorem dX12_sold_19 : decode cX12_sold 19 = .ok (.aload_n 0, 1) := by decide +kernel
theorem dX12_sold_20 : decode cX12_sold 20 = .ok (.iconst 2, 1) := by decide +kernel
theorem dX12_sold_21 : decode cX12_sold 21 = .ok (.invokevirtual 164, 3) := by decide +kernel
theorem dX12_sold_24 : decode cX12_sold 24 = .ok (.ireturn, 1) := by decide +kernel
theorem dX12_sold_25 : decode cX12_sold 25 = .ok (.aload_n 0, 1) := by decide +kernel
theorem dX12_sold_26 : decode cX12_sold 26 = .ok (.getfield 276, 3) := by decide +kernel
theorem dX12_sold_29 : decode cX12_sold 29 = .ok (.ifCond .ne 10, 3) := by decide +kernel
theorem dX12_sold_32 : decode cX12_sold 32 = .ok (.aload_n 0, 1) := by decide +kernel
theorem dX12_sold_33 : decode cX12_sold 33 = .ok (.bipush 9, 2) := by decide +kernel
theorem dX12_sold_35 : decode cX12_sold 35 = .ok (.invokevirtual 164, 3) := by decide +kernel
theorem dX12_sold_38 : decode cX12_sold 38 = .ok (.ireturn, 1) := by decide +kernel
theorem dX12_sold_39 : decode cX12_sold 39 = .ok (.iload_n 1, 1) := by decide +kernel
theorem dX12_sold_40 : decode cX12_sold 40 = .ok (.ifCond .ne 10, 3) := by decide +kernel
theorem dX12_sold_43 : decode cX12_sold 43 = .ok (.aload_n 0, 1) := by decide +kernel
theorem dX12_sold_44 : decode cX12_sold 44 = .ok (.getfield 282, 3) := by decide +kernel
theorem dX12_sold_47 : decode cX12_sold 47 = .ok (.goto 27, 3) := by decide +kernel
theorem dX12_sold_50 : decode cX12_sold 50 = .ok (.iload_n 1, 1) := by decide +kernel
theorem dX12_sold_51 : decode cX12_sold 51 = .ok (.iconst 1, 1) := by decide +kernel
theorem dX12_sold_52 : decode cX12_sold 52 = .ok (.if_icmp .ne 10, 3) := by decide +kernel
theorem dX12_sold_55 : decode cX12_sold 55 = .ok (.aload_n 0, 1) := by decide +kernel
theorem dX12_sold_56 : decode cX12_sold 56 = .ok (.getfield 279, 3) := by decide +kernel
theorem dX12_sold_59 : decode cX12_sold 59 = .ok (.goto 15, 3) := by decide +kernel
theorem dX12_sold_62 : decode cX12_sold 62 = .ok (.aload_n 0, 1) := by decide +kernel
theorem dX12_sold_63 : decode cX12_sold 63 = .ok (.getfield 272, 3) := by decide +kernel
theorem dX12_sold_66 : decode cX12_sold 66 = .ok (.ifCond .eq 7, 3) := by decide +kernel
theorem dX12_sold_69 : decode cX12_sold 69 = .ok (.iconst 1, 1) := by decide +kernel
theorem dX12_sold_70 : decode cX12_sold 70 = .ok (.goto 4, 3) := by decide +kernel
theorem dX12_sold_73 : decode cX12_sold 73 = .ok (.iconst 0, 1) := by decide +kernel
theorem dX12_sold_74 : decode cX12_sold 74 = .ok (.ireturn, 1) := by decide +kernel
set_option maxRecDepth 20000 in
theorem ggX12_offer_X12_isBook : GoodIn wsX12_offer wsX12_isBook := goodIn_r _ [18, 19, 80, 81, 82, 83, 84, 85, 86, 87, 88, 89, 90, 91, 92, 93, 94, 95, 96, 97, 98, 99, 100, 101, 102, 103, 104, 105, 106, 107, 108, 109, 110, 111, 112, 113, 114, 115, 116, 117, 118, 119, 120, 121, 122, 123, 124, 125, 126, 127, 128, 129, 130, 131, 132, 133] (by decide +kernel) (by decide +kernel)
set_option maxRecDepth 20000 in
theorem gX12_offer_X12_isBook : GoodIn wsX12_offer (wsV RX12 209 RX12 yX12_isBook wsX12_isBook) := goodIn_app (goodIn_of _ (by decide +kernel)) ggX12_offer_X12_isBook
set_option maxRecDepth 20000 in
theorem ggX12_offer_X12_isEditor : GoodIn wsX12_offer wsX12_isEditor := goodIn_r _ [23, 24, 80, 81, 82, 83, 84, 85, 86, 87, 88, 89, 90, 91, 92, 93, 94, 95, 96, 97, 98, 99, 100, 101, 102, 103, 104, 105, 106, 107, 108, 109, 110, 111, 112, 113, 114, 115, 116, 117, 118, 119, 120, 121, 122, 123, 124, 125, 126, 127, 128, 129, 130, 131, 132, 133] (by decide +kernel) (by decide +kernel)
set_option maxRecDepth 20000 in
theorem gX12_offer_X12_isEditor : GoodIn wsX12_offer (wsV RX12 170 RX12 yX12_isEditor wsX12_isEditor) := goodIn_app (goodIn_of _ (by decide +kernel)) ggX12_offer_X12_isEditor
set_option maxRecDepth 20000 in
theorem ggX12_offer_X12_refuse : GoodIn wsX12_offer wsX12_refuse := goodIn_r _ [28, 2, 80, 81, 82, 83, 84, 85, 86, 87, 88, 89, 90, 91, 92, 93, 94, 95, 96, 97, 98, 99, 100, 101, 102, 103, 104, 105, 106, 107, 108, 109, 110, 111, 112, 113, 114, 115, 116, 117, 118, 119, 120, 121, 122, 123, 124, 125, 126, 127, 128, 129, 130, 131, 132, 133] (by decide +kernel) (by decide +kernel)
set_option maxRecDepth 20000 in
theorem gX12_offer_X12_refuse : GoodIn wsX12_offer (wsV RX12 164 RX12 yX12_refuse wsX12_refuse) := goodIn_app (goodIn_of _ (by decide +kernel)) ggX12_offer_X12_refuse
set_option maxRecDepth 20000 in
theorem ggX12_offer_X12_areRights : GoodIn wsX12_offer wsX12_areRights := goodIn_r _ [31, 32, 33, 17, 34, 35, 36, 37] (by decide +kernel) (by decide +kernel)
set_option maxRecDepth 20000 in
theorem gX12_offer_X12_areRights : GoodIn wsX12_offer (va_wsS RX12 230 yX12_areRights wsX12_areRights) := goodIn_app (goodIn_of _ (by decide +kernel)) ggX12_offer_X12_areRights
set_option maxRecDepth 20000 in
theorem ggX12_offer_X12_isMinute : GoodIn wsX12_offer wsX12_isMinute := goodIn_r _ [40, 41] (by decide +kernel) (by decide +kernel)
set_option maxRecDepth 20000 in
theorem gX12_offer_X12_isMinute : GoodIn wsX12_offer (va_wsS RX12 251 yX12_isMinute wsX12_isMinute) := goodIn_app (goodIn_of _ (by decide +kernel)) ggX12_offer_X12_isMinute
set_option maxRecDepth 20000 in
theorem ggX12_offer_X12_mayBe : GoodIn wsX12_offer wsX12_mayBe := goodIn_r _ [45, 46, 47, 48, 49, 50, 51, 52, 53, 17, 54, 55, 56, 57, 58, 59, 60, 61, 62, 63, 64, 65, 66, 67, 68, 69, 70, 71, 72, 73, 74, 75, 76, 77, 78, 79, 80, 81, 82, 83, 84, 85, 86, 87, 88, 89, 90, 91, 92, 93, 94, 95, 96, 97, 98, 99, 100, 101, 102, 103, 104, 105, 106, 107, 108, 109, 110, 111, 112, 113, 114, 115, 116, 117, 118, 119, 120, 121, 122, 123, 124, 125, 126, 127, 128, 129, 130, 131, 132, 133] (by decide +kernel) (by decide +kernel)
set_option maxRecDepth 20000 in
theorem gX12_offer_X12_mayBe : GoodIn wsX12_offer (wsV RX12 257 RX12 yX12_mayBe wsX12_mayBe) := goodIn_app (goodIn_of _ (by decide +kernel)) ggX12_offer_X12_mayBe
theorem dX12_offer_0 : decode cX12_offer 0 = .ok (.aload_n 0, 1) := by decide +kernel
theorem dX12_offer_1 : decode cX12_offer 1 = .ok (.iconst 0, 1) := by decide +kernel
theorem dX12_offer_2 : decode cX12_offer 2 = .ok (.putfield 134, 3) := by decide +kernel
theorem dX12_offer_5 : decode cX12_offer 5 = .ok (.aload_n 0, 1) := by decide +kernel
theorem dX12_offer_6 : decode cX12_offer 6 = .ok (.iconst 0, 1) := by decide +kernel
theorem dX12_offer_7 : decode cX12_offer 7 = .ok (.putfield 137, 3) := by decide +kernel
theorem dX12_offer_10 : decode cX12_offer 10 = .ok (.aload_n 0, 1) := by decide +kernel
theorem dX12_offer_11 : decode cX12_offer 11 = .ok (.iload_n 1, 1) := by decide +kernel
theorem dX12_offer_12 : decode cX12_offer 12 = .ok (.invokevirtual 209, 3) := by decide +kernel
theorem dX12_offer_15 : decode cX12_offer 15 = .ok (.ifCond .eq 11, 3) := by decide +kernel
theorem dX12_offer_18 : decode cX12_offer 18 = .ok (.aload_n 0, 1) := by decide +kernel
theorem dX12_offer_19 : decode cX12_offer 19 = .ok (.iload_n 2, 1) := by decide +kernel
theorem dX12_offer_20 : decode cX12_offer 20 = .ok (.invokevirtual 170, 3) := by decide +kernel
theorem dX12_offer_23 : decode cX12_offer 23 = .ok (.ifCond .ne 9, 3) := by decide +kernel
theorem dX12_offer_26 : decode cX12_offer 26 = .ok (.aload_n 0, 1) := by decide +kernel
theorem dX12_offer_27 : decode cX12_offer 27 = .ok (.iconst 1, 1) := by decide +kernel
theorem dX12_offer_28 : decode cX12_offer 28 = .ok (.invokevirtual 164, 3) := by decide +kernel
theorem dX12_offer_31 : decode cX12_offer 31 = .ok (.ireturn, 1) := by decide +kernel
theorem dX12_offer_32 : decode cX12_offer 32 = .ok (.iload_n 3, 1) := by decide +kernel
theorem dX12_offer_33 : decode cX12_offer 33 = .ok (.iload 4, 2) := by decide +kernel
theorem dX12_offer_35 : decode cX12_offer 35 = .ok (.iload 5, 2) := by decide +kernel
theorem dX12_offer_37 : decode cX12_offer 37 = .ok (.iload 6, 2) := by decide +kernel
theorem dX12_offer_39 : decode cX12_offer 39 = .ok (.iload 7, 2) := by decide +kernel
theorem dX12_offer_41 : decode cX12_offer 41 = .ok (.invokestatic 230, 3) := by decide +kernel
theorem dX12_offer_44 : decode cX12_offer 44 = .ok (.ifCond .eq 26, 3) := by decide +kernel
theorem dX12_offer_47 : decode cX12_offer 47 = .ok (.iload 8, 2) := by decide +kernel
theorem dX12_offer_49 : decode cX12_offer 49 = .ok (.invokestatic 251, 3) := by decide +kernel
theorem dX12_offer_52 : decode cX12_offer 52 = .ok (.ifCond .eq 18, 3) := by decide +kernel
theorem dX12_offer_55 : decode cX12_offer 55 = .ok (.iload 9, 2) := by decide +kernel
theorem dX12_offer_57 : decode cX12_offer 57 = .ok (.invokestatic 251, 3) := by decide +kernel
theorem dX12_offer_60 : decode cX12_offer 60 = .ok (.ifCond .eq 10, 3) := by decide +kernel
theorem dX12_offer_63 : decode cX12_offer 63 = .ok (.iload 9, 2) := by decide +kernel
theorem dX12_offer_65 : decode cX12_offer 65 = .ok (.iload 8, 2) := by decide +kernel
theorem dX12_offer_67 : decode cX12_offer 67 = .ok (.if_icmp .gt 9, 3) := by decide +kernel
theorem dX12_offer_70 : decode cX12_offer 70 = .ok (.aload_n 0, 1) := by decide +kernel
theorem dX12_offer_71 : decode cX12_offer 71 = .ok (.iconst 2, 1) := by decide +kernel
theorem dX12_offer_72 : decode cX12_offer 72 = .ok (.invokevirtual 164, 3) := by decide +kernel
theorem dX12_offer_75 : decode cX12_offer 75 = .ok (.ireturn, 1) := by decide +kernel
theorem dX12_offer_76 : decode cX12_offer 76 = .ok (.iload 8, 2) := by decide +kernel
theorem dX12_offer_78 : decode cX12_offer 78 = .ok (.aload_n 0, 1) := by decide +kernel
theorem dX12_offer_79 : decode cX12_offer 79 = .ok (.getfield 285, 3) := by decide +kernel
theorem dX12_offer_82 : decode cX12_offer 82 = .ok (.if_icmp .ge 9, 3) := by decide +kernel
theorem dX12_offer_85 : decode cX12_offer 85 = .ok (.aload_n 0, 1) := by decide +kernel
theorem dX12_offer_86 : decode cX12_offer 86 = .ok (.iconst 3, 1) := by decide +kernel
theorem dX12_offer_87 : decode cX12_offer 87 = .ok (.invokevirtual 164, 3) := by decide +kernel
theorem dX12_offer_90 : decode cX12_offer 90 = .ok (.ireturn, 1) := by decide +kernel
theorem dX12_offer_91 : decode cX12_offer 91 = .ok (.aload_n 0, 1) := by decide +kernel
theorem dX12_offer_92 : decode cX12_offer 92 = .ok (.getfield 288, 3) := by decide +kernel
theorem dX12_offer_95 : decode cX12_offer 95 = .ok (.bipush 60, 2) := by decide +kernel
theorem dX12_offer_97 : decode cX12_offer 97 = .ok (.if_icmp .ne 10, 3) := by decide +kernel
theorem dX12_offer_100 : decode cX12_offer 100 = .ok (.aload_n 0, 1) := by decide +kernel
theorem dX12_offer_101 : decode cX12_offer 101 = .ok (.bipush 7, 2) := by decide +kernel
theorem dX12_offer_103 : decode cX12_offer 103 = .ok (.invokevirtual 164, 3) := by decide +kernel
theorem dX12_offer_106 : decode cX12_offer 106 = .ok (.ireturn, 1) := by decide +kernel
theorem dX12_offer_107 : decode cX12_offer 107 = .ok (.aload_n 0, 1) := by decide +kernel
theorem dX12_offer_108 : decode cX12_offer 108 = .ok (.iload_n 1, 1) := by decide +kernel
theorem dX12_offer_109 : decode cX12_offer 109 = .ok (.iload_n 2, 1) := by decide +kernel
theorem dX12_offer_110 : decode cX12_offer 110 = .ok (.iload_n 3, 1) := by decide +kernel
theorem dX12_offer_111 : decode cX12_offer 111 = .ok (.iload 4, 2) := by decide +kernel
theorem dX12_offer_113 : decode cX12_offer 113 = .ok (.iload 5, 2) := by decide +kernel
theorem dX12_offer_115 : decode cX12_offer 115 = .ok (.iload 6, 2) := by decide +kernel
theorem dX12_offer_117 : decode cX12_offer 117 = .ok (.iload 7, 2) := by decide +kernel
theorem dX12_offer_119 : decode cX12_offer 119 = .ok (.iload 8, 2) := by decide +kernel
theorem dX12_offer_121 : decode cX12_offer 121 = .ok (.invokevirtual 257, 3) := by decide +kernel
theorem dX12_offer_124 : decode cX12_offer 124 = .ok (.ifCond .ne 10, 3) := by decide +kernel
theorem dX12_offer_127 : decode cX12_offer 127 = .ok (.aload_n 0, 1) := by decide +kernel
theorem dX12_offer_128 : decode cX12_offer 128 = .ok (.bipush 12, 2) := by decide +kernel
theorem dX12_offer_130 : decode cX12_offer 130 = .ok (.invokevirtual 164, 3) := by decide +kernel
theorem dX12_offer_133 : decode cX12_offer 133 = .ok (.ireturn, 1) := by decide +kernel
theorem dX12_offer_134 : decode cX12_offer 134 = .ok (.aload_n 0, 1) := by decide +kernel
theorem dX12_offer_135 : decode cX12_offer 135 = .ok (.getfield 104, 3) := by decide +kernel
theorem dX12_offer_138 : decode cX12_offer 138 = .ok (.aload_n 0, 1) := by decide +kernel
theorem dX12_offer_139 : decode cX12_offer 139 = .ok (.getfield 288, 3) := by decide +kernel
theorem dX12_offer_142 : decode cX12_offer 142 = .ok (.iload_n 1, 1) := by decide +kernel
theorem dX12_offer_143 : decode cX12_offer 143 = .ok (.iastore, 1) := by decide +kernel
theorem dX12_offer_144 : decode cX12_offer 144 = .ok (.aload_n 0, 1) := by decide +kernel
theorem dX12_offer_145 : decode cX12_offer 145 = .ok (.getfield 107, 3) := by decide +kernel
theorem dX12_offer_148 : decode cX12_offer 148 = .ok (.aload_n 0, 1) := by decide +kernel
theorem dX12_offer_149 : decode cX12_offer 149 = .ok (.getfield 288, 3) := by decide +kernel
theorem dX12_offer_152 : decode cX12_offer 152 = .ok (.iload_n 2, 1) := by decide +kernel
theorem dX12_offer_153 : decode cX12_offer 153 = .ok (.iastore, 1) := by decide +kernel
theorem dX12_offer_154 : decode cX12_offer 154 = .ok (.aload_n 0, 1) := by decide +kernel
theorem dX12_offer_155 : decode cX12_offer 155 = .ok (.getfield 110, 3) := by decide +kernel
theorem dX12_offer_158 : decode cX12_offer 158 = .ok (.aload_n 0, 1) := by decide +kernel
theorem dX12_offer_159 : decode cX12_offer 159 = .ok (.getfield 288, 3) := by decide +kernel
theorem dX12_offer_162 : decode cX12_offer 162 = .ok (.iload_n 3, 1) := by decide +kernel
theorem dX12_offer_163 : decode cX12_offer 163 = .ok (.iastore, 1) := by decide +kernel
theorem dX12_offer_164 : decode cX12_offer 164 = .ok (.aload_n 0, 1) := by decide +kernel
theorem dX12_offer_165 : decode cX12_offer 165 = .ok (.getfield 113, 3) := by decide +kernel
theorem dX12_offer_168 : decode cX12_offer 168 = .ok (.aload_n 0, 1) := by decide +kernel
theorem dX12_offer_169 : decode cX12_offer 169 = .ok (.getfield 288, 3) := by decide +kernel
theorem dX12_offer_172 : decode cX12_offer 172 = .ok (.iload 4, 2) := by decide +kernel
theorem dX12_offer_174 : decode cX12_offer 174 = .ok (.iastore, 1) := by decide +kernel
theorem dX12_offer_175 : decode cX12_offer 175 = .ok (.aload_n 0, 1) := by decide +kernel
theorem dX12_offer_176 : decode cX12_offer 176 = .ok (.getfield 116, 3) := by decide +kernel
theorem dX12_offer_179 : decode cX12_offer 179 = .ok (.aload_n 0, 1) := by decide +kernel
theorem dX12_offer_180 : decode cX12_offer 180 = .ok (.getfield 288, 3) := by decide +kernel
theorem dX12_offer_183 : decode cX12_offer 183 = .ok (.iload 5, 2) := by decide +kernel
theorem dX12_offer_185 : decode cX12_offer 185 = .ok (.iastore, 1) := by decide +kernel
theorem dX12_offer_186 : decode cX12_offer 186 = .ok (.aload_n 0, 1) := by decide +kernel
theorem dX12_offer_187 : decode cX12_offer 187 = .ok (.getfield 119, 3) := by decide +kernel
theorem dX12_offer_190 : decode cX12_offer 190 = .ok (.aload_n 0, 1) := by decide +kernel
theorem dX12_offer_191 : decode cX12_offer 191 = .ok (.getfield 288, 3) := by decide +kernel
theorem dX12_offer_194 : decode cX12_offer 194 = .ok (.iload 6, 2) := by decide +kernel
theorem dX12_offer_196 : decode cX12_offer 196 = .ok (.iastore, 1) := by decide +kernel
theorem dX12_offer_197 : decode cX12_offer 197 = .ok (.aload_n 0, 1) := by decide +kernel
theorem dX12_offer_198 : decode cX12_offer 198 = .ok (.getfield 122, 3) := by decide +kernel
theorem dX12_offer_201 : decode cX12_offer 201 = .ok (.aload_n 0, 1) := by decide +kernel
theorem dX12_offer_202 : decode cX12_offer 202 = .ok (.getfield 288, 3) := by decide +kernel
theorem dX12_offer_205 : decode cX12_offer 205 = .ok (.iload 7, 2) := by decide +kernel
theorem dX12_offer_207 : decode cX12_offer 207 = .ok (.iastore, 1) := by decide +kernel
theorem dX12_offer_208 : decode cX12_offer 208 = .ok (.aload_n 0, 1) := by decide +kernel
theorem dX12_offer_209 : decode cX12_offer 209 = .ok (.getfield 125, 3) := by decide +kernel
theorem dX12_offer_212 : decode cX12_offer 212 = .ok (.aload_n 0, 1) := by decide +kernel
theorem dX12_offer_213 : decode cX12_offer 213 = .ok (.getfield 288, 3) := by decide +kernel
theorem dX12_offer_216 : decode cX12_offer 216 = .ok (.iload 9, 2) := by decide +kernel
theorem dX12_offer_218 : decode cX12_offer 218 = .ok (.iastore, 1) := by decide +kernel
theorem dX12_offer_219 : decode cX12_offer 219 = .ok (.aload_n 0, 1) := by decide +kernel
theorem dX12_offer_220 : decode cX12_offer 220 = .ok (.getfield 128, 3) := by decide +kernel
theorem dX12_offer_223 : decode cX12_offer 223 = .ok (.aload_n 0, 1) := by decide +kernel
theorem dX12_offer_224 : decode cX12_offer 224 = .ok (.getfield 288, 3) := by decide +kernel
theorem dX12_offer_227 : decode cX12_offer 227 = .ok (.iconst 0, 1) := by decide +kernel
theorem dX12_offer_228 : decode cX12_offer 228 = .ok (.iastore, 1) := by decide +kernel
theorem dX12_offer_229 : decode cX12_offer 229 = .ok (.aload_n 0, 1) := by decide +kernel
theorem dX12_offer_230 : decode cX12_offer 230 = .ok (.dup, 1) := by decide +kernel
theorem dX12_offer_231 : decode cX12_offer 231 = .ok (.getfield 288, 3) := by decide +kernel
theorem dX12_offer_234 : decode cX12_offer 234 = .ok (.iconst 1, 1) := by decide +kernel
theorem dX12_offer_235 : decode cX12_offer 235 = .ok (.iadd, 1) := by decide +kernel
theorem dX12_offer_236 : decode cX12_offer 236 = .ok (.putfield 288, 3) := by decide +kernel
theorem dX12_offer_239 : decode cX12_offer 239 = .ok (.aload_n 0, 1) := by decide +kernel
theorem dX12_offer_240 : decode cX12_offer 240 = .ok (.iload 8, 2) := by decide +kernel
theorem dX12_offer_242 : decode cX12_offer 242 = .ok (.putfield 285, 3) := by decide +kernel
theorem dX12_offer_245 : decode cX12_offer 245 = .ok (.aload_n 0, 1) := by decide +kernel
theorem dX12_offer_246 : decode cX12_offer 246 = .ok (.getfield 288, 3) := by decide +kernel
theorem dX12_offer_249 : decode cX12_offer 249 = .ok (.iconst 1, 1) := by decide +kernel
theorem dX12_offer_250 : decode cX12_offer 250 = .ok (.isub, 1) := by decide +kernel
theorem dX12_offer_251 : decode cX12_offer 251 = .ok (.ireturn, 1) := by decide +kernel
theorem dX12_isOpen_0 : decode cX12_isOpen 0 = .ok (.aload_n 0, 1) := by decide +kernel
theorem dX12_isOpen_1 : decode cX12_isOpen 1 = .ok (.getfield 128, 3) := by decide +kernel
theorem dX12_isOpen_4 : decode cX12_isOpen 4 = .ok (.iload_n 1, 1) := by decide +kernel
theorem dX12_isOpen_5 : decode cX12_isOpen 5 = .ok (.iaload, 1) := by decide +kernel
theorem dX12_isOpen_6 : decode cX12_isOpen 6 = .ok (.ifCond .ne 17, 3) := by decide +kernel
theorem dX12_isOpen_9 : decode cX12_isOpen 9 = .ok (.iload_n 2, 1) := by decide +kernel
theorem dX12_isOpen_10 : decode cX12_isOpen 10 = .ok (.aload_n 0, 1) := by decide +kernel
theorem dX12_isOpen_11 : decode cX12_isOpen 11 = .ok (.getfield 125, 3) := by decide +kernel
theorem dX12_isOpen_14 : decode cX12_isOpen 14 = .ok (.iload_n 1, 1) := by decide +kernel
theorem dX12_isOpen_15 : decode cX12_isOpen 15 = .ok (.iaload, 1) := by decide +kernel
theorem dX12_isOpen_16 : decode cX12_isOpen 16 = .ok (.if_icmp .gt 7, 3) := by decide +kernel
theorem dX12_isOpen_19 : decode cX12_isOpen 19 = .ok (.iconst 1, 1) := by decide +kernel
theorem dX12_isOpen_20 : decode cX12_isOpen 20 = .ok (.goto 4, 3) := by decide +kernel
theorem dX12_isOpen_23 : decode cX12_isOpen 23 = .ok (.iconst 0, 1) := by decide +kernel
theorem dX12_isOpen_24 : decode cX12_isOpen 24 = .ok (.ireturn, 1) := by decide +kernel
set_option maxRecDepth 20000 in
theorem ggX12_take_X12_refuse : GoodIn wsX12_take wsX12_refuse := goodIn_r _ [18, 2, 70, 71, 72, 73, 74, 75, 76, 77, 78, 79, 80, 81, 82, 83, 84, 85, 86, 87, 88, 89, 90, 91, 92, 93, 94, 95, 96, 97, 98, 99, 100, 101, 102, 103, 104, 105, 106, 107, 108, 109, 110, 111, 112, 113, 114, 115, 116, 117, 118, 119, 120, 121, 122, 123] (by decide +kernel) (by decide +kernel)
set_option maxRecDepth 20000 in
theorem gX12_take_X12_refuse : GoodIn wsX12_take (wsV RX12 164 RX12 yX12_refuse wsX12_refuse) := goodIn_app (goodIn_of _ (by decide +kernel)) ggX12_take_X12_refuse
set_option maxRecDepth 20000 in
theorem ggX12_take_X12_isMinute : GoodIn wsX12_take wsX12_isMinute := goodIn_r _ [21, 22] (by decide +kernel) (by decide +kernel)
set_option maxRecDepth 20000 in
theorem gX12_take_X12_isMinute : GoodIn wsX12_take (va_wsS RX12 251 yX12_isMinute wsX12_isMinute) := goodIn_app (goodIn_of _ (by decide +kernel)) ggX12_take_X12_isMinute
set_option maxRecDepth 20000 in
theorem ggX12_take_X12_isOpen : GoodIn wsX12_take wsX12_isOpen := goodIn_r _ [26, 13, 27, 70, 71, 72, 73, 74, 75, 76, 77, 78, 79, 80, 81, 82, 83, 84, 85, 86, 87, 88, 89, 90, 91, 92, 93, 94, 95, 96, 97, 98, 99, 100, 101, 102, 103, 104, 105, 106, 107, 108, 109, 110, 111, 112, 113, 114, 115, 116, 117, 118, 119, 120, 121, 122, 123] (by decide +kernel) (by decide +kernel)
set_option maxRecDepth 20000 in
theorem gX12_take_X12_isOpen : GoodIn wsX12_take (wsV RX12 291 RX12 yX12_isOpen wsX12_isOpen) := goodIn_app (goodIn_of _ (by decide +kernel)) ggX12_take_X12_isOpen
set_option maxRecDepth 20000 in
theorem ggX12_take_X12_mayBe : GoodIn wsX12_take wsX12_mayBe := goodIn_r _ [31, 32, 33, 34, 35, 36, 37, 38, 39, 17, 40, 41, 42, 43, 44, 45, 46, 5, 47, 48, 49, 50, 51, 52, 53, 54, 55, 56, 57, 58, 59, 60, 61, 62, 63, 64, 70, 71, 72, 73, 74, 75, 76, 77, 78, 79, 80, 81, 82, 83, 84, 85, 86, 87, 88, 89, 90, 91, 92, 93, 94, 95, 96, 97, 98, 99, 100, 101, 102, 103, 104, 105, 106, 107, 108, 109, 110, 111, 112, 113, 114, 115, 116, 117, 118, 119, 120, 121, 122, 123] (by decide +kernel) (by decide +kernel)
set_option maxRecDepth 20000 in
theorem gX12_take_X12_mayBe : GoodIn wsX12_take (wsV RX12 257 RX12 yX12_mayBe wsX12_mayBe) := goodIn_app (goodIn_of _ (by decide +kernel)) ggX12_take_X12_mayBe
set_option maxRecDepth 20000 in
theorem ggX12_take_X12_grants : GoodIn wsX12_take wsX12_grants := goodIn_r _ [68, 47, 5, 69, 48, 49, 50, 51, 64, 63, 70, 71, 72, 73, 74, 75, 76, 77, 78, 79, 80, 81, 82, 83, 84, 85, 86, 87, 88, 89, 90, 91, 92, 93, 94, 95, 96, 97, 98, 99, 100, 101, 102, 103, 104, 105, 106, 107, 108, 109, 110, 111, 112, 113, 114, 115, 116, 117, 118, 119, 120, 121, 122, 123] (by decide +kernel) (by decide +kernel)
set_option maxRecDepth 20000 in
theorem gX12_take_X12_grants : GoodIn wsX12_take (wsV RX12 238 RX12 yX12_grants wsX12_grants) := goodIn_app (goodIn_of _ (by decide +kernel)) ggX12_take_X12_grants
set_option maxRecDepth 20000 in
theorem ggX12_take_X12_clashes : GoodIn wsX12_take wsX12_clashes := goodIn_r _ [46, 5, 47, 48, 49, 50, 51, 52, 53, 54, 55, 56, 57, 58, 59, 60, 61, 17, 62, 63, 64, 70, 71, 72, 73, 74, 75, 76, 77, 78, 79, 80, 81, 82, 83, 84, 85, 86, 87, 88, 89, 90, 91, 92, 93, 94, 95, 96, 97, 98, 99, 100, 101, 102, 103, 104, 105, 106, 107, 108, 109, 110, 111, 112, 113, 114, 115, 116, 117, 118, 119, 120, 121, 122, 123] (by decide +kernel) (by decide +kernel)
set_option maxRecDepth 20000 in
theorem gX12_take_X12_clashes : GoodIn wsX12_take (wsV RX12 234 RX12 yX12_clashes wsX12_clashes) := goodIn_app (goodIn_of _ (by decide +kernel)) ggX12_take_X12_clashes
theorem dX12_take_0 : decode cX12_take 0 = .ok (.aload_n 0, 1) := by decide +kernel
theorem dX12_take_1 : decode cX12_take 1 = .ok (.iconst 0, 1) := by decide +kernel
theorem dX12_take_2 : decode cX12_take 2 = .ok (.putfield 134, 3) := by decide +kernel
theorem dX12_take_5 : decode cX12_take 5 = .ok (.aload_n 0, 1) := by decide +kernel
theorem dX12_take_6 : decode cX12_take 6 = .ok (.iconst 0, 1) := by decide +kernel
theorem dX12_take_7 : decode cX12_take 7 = .ok (.putfield 137, 3) := by decide +kernel
theorem dX12_take_10 : decode cX12_take 10 = .ok (.iload_n 1, 1) := by decide +kernel
theorem dX12_take_11 : decode cX12_take 11 = .ok (.ifCond .lt 11, 3) := by decide +kernel
theorem dX12_take_14 : decode cX12_take 14 = .ok (.iload_n 1, 1) := by decide +kernel
theorem dX12_take_15 : decode cX12_take 15 = .ok (.aload_n 0, 1) := by decide +kernel
theorem dX12_take_16 : decode cX12_take 16 = .ok (.getfield 288, 3) := by decide +kernel
theorem dX12_take_19 : decode cX12_take 19 = .ok (.if_icmp .lt 9, 3) := by decide +kernel
theorem dX12_take_22 : decode cX12_take 22 = .ok (.aload_n 0, 1) := by decide +kernel
theorem dX12_take_23 : decode cX12_take 23 = .ok (.iconst 1, 1) := by decide +kernel
theorem dX12_take_24 : decode cX12_take 24 = .ok (.invokevirtual 164, 3) := by decide +kernel
theorem dX12_take_27 : decode cX12_take 27 = .ok (.ireturn, 1) := by decide +kernel
theorem dX12_take_28 : decode cX12_take 28 = .ok (.iload_n 2, 1) := by decide +kernel
theorem dX12_take_29 : decode cX12_take 29 = .ok (.invokestatic 251, 3) := by decide +kernel
theorem dX12_take_32 : decode cX12_take 32 = .ok (.ifCond .ne 9, 3) := by decide +kernel
theorem dX12_take_35 : decode cX12_take 35 = .ok (.aload_n 0, 1) := by decide +kernel
theorem dX12_take_36 : decode cX12_take 36 = .ok (.iconst 2, 1) := by decide +kernel
theorem dX12_take_37 : decode cX12_take 37 = .ok (.invokevirtual 164, 3) := by decide +kernel
theorem dX12_take_40 : decode cX12_take 40 = .ok (.ireturn, 1) := by decide +kernel
theorem dX12_take_41 : decode cX12_take 41 = .ok (.iload_n 2, 1) := by decide +kernel
theorem dX12_take_42 : decode cX12_take 42 = .ok (.aload_n 0, 1) := by decide +kernel
theorem dX12_take_43 : decode cX12_take 43 = .ok (.getfield 285, 3) := by decide +kernel
theorem dX12_take_46 : decode cX12_take 46 = .ok (.if_icmp .ge 9, 3) := by decide +kernel
theorem dX12_take_49 : decode cX12_take 49 = .ok (.aload_n 0, 1) := by decide +kernel
theorem dX12_take_50 : decode cX12_take 50 = .ok (.iconst 3, 1) := by decide +kernel
theorem dX12_take_51 : decode cX12_take 51 = .ok (.invokevirtual 164, 3) := by decide +kernel
theorem dX12_take_54 : decode cX12_take 54 = .ok (.ireturn, 1) := by decide +kernel
theorem dX12_take_55 : decode cX12_take 55 = .ok (.aload_n 0, 1) := by decide +kernel
theorem dX12_take_56 : decode cX12_take 56 = .ok (.iload_n 1, 1) := by decide +kernel
theorem dX12_take_57 : decode cX12_take 57 = .ok (.iload_n 2, 1) := by decide +kernel
theorem dX12_take_58 : decode cX12_take 58 = .ok (.invokevirtual 291, 3) := by decide +kernel
theorem dX12_take_61 : decode cX12_take 61 = .ok (.ifCond .ne 10, 3) := by decide +kernel
theorem dX12_take_64 : decode cX12_take 64 = .ok (.aload_n 0, 1) := by decide +kernel
theorem dX12_take_65 : decode cX12_take 65 = .ok (.bipush 13, 2) := by decide +kernel
theorem dX12_take_67 : decode cX12_take 67 = .ok (.invokevirtual 164, 3) := by decide +kernel
theorem dX12_take_70 : decode cX12_take 70 = .ok (.ireturn, 1) := by decide +kernel
theorem dX12_take_71 : decode cX12_take 71 = .ok (.aload_n 0, 1) := by decide +kernel
theorem dX12_take_72 : decode cX12_take 72 = .ok (.getfield 221, 3) := by decide +kernel
theorem dX12_take_75 : decode cX12_take 75 = .ok (.bipush 60, 2) := by decide +kernel
theorem dX12_take_77 : decode cX12_take 77 = .ok (.if_icmp .ne 10, 3) := by decide +kernel
theorem dX12_take_80 : decode cX12_take 80 = .ok (.aload_n 0, 1) := by decide +kernel
theorem dX12_take_81 : decode cX12_take 81 = .ok (.bipush 7, 2) := by decide +kernel
theorem dX12_take_83 : decode cX12_take 83 = .ok (.invokevirtual 164, 3) := by decide +kernel
theorem dX12_take_86 : decode cX12_take 86 = .ok (.ireturn, 1) := by decide +kernel
theorem dX12_take_87 : decode cX12_take 87 = .ok (.aload_n 0, 1) := by decide +kernel
theorem dX12_take_88 : decode cX12_take 88 = .ok (.getfield 104, 3) := by decide +kernel
theorem dX12_take_91 : decode cX12_take 91 = .ok (.iload_n 1, 1) := by decide +kernel
theorem dX12_take_92 : decode cX12_take 92 = .ok (.iaload, 1) := by decide +kernel
theorem dX12_take_93 : decode cX12_take 93 = .ok (.istore_n 3, 1) := by decide +kernel
theorem dX12_take_94 : decode cX12_take 94 = .ok (.aload_n 0, 1) := by decide +kernel
theorem dX12_take_95 : decode cX12_take 95 = .ok (.iload_n 3, 1) := by decide +kernel
theorem dX12_take_96 : decode cX12_take 96 = .ok (.aload_n 0, 1) := by decide +kernel
theorem dX12_take_97 : decode cX12_take 97 = .ok (.getfield 107, 3) := by decide +kernel
theorem dX12_take_100 : decode cX12_take 100 = .ok (.iload_n 1, 1) := by decide +kernel
theorem dX12_take_101 : decode cX12_take 101 = .ok (.iaload, 1) := by decide +kernel
theorem dX12_take_102 : decode cX12_take 102 = .ok (.aload_n 0, 1) := by decide +kernel
theorem dX12_take_103 : decode cX12_take 103 = .ok (.getfield 110, 3) := by decide +kernel
theorem dX12_take_106 : decode cX12_take 106 = .ok (.iload_n 1, 1) := by decide +kernel
theorem dX12_take_107 : decode cX12_take 107 = .ok (.iaload, 1) := by decide +kernel
theorem dX12_take_108 : decode cX12_take 108 = .ok (.aload_n 0, 1) := by decide +kernel
theorem dX12_take_109 : decode cX12_take 109 = .ok (.getfield 113, 3) := by decide +kernel
theorem dX12_take_112 : decode cX12_take 112 = .ok (.iload_n 1, 1) := by decide +kernel
theorem dX12_take_113 : decode cX12_take 113 = .ok (.iaload, 1) := by decide +kernel
theorem dX12_take_114 : decode cX12_take 114 = .ok (.aload_n 0, 1) := by decide +kernel
theorem dX12_take_115 : decode cX12_take 115 = .ok (.getfield 116, 3) := by decide +kernel
theorem dX12_take_118 : decode cX12_take 118 = .ok (.iload_n 1, 1) := by decide +kernel
theorem dX12_take_119 : decode cX12_take 119 = .ok (.iaload, 1) := by decide +kernel
theorem dX12_take_120 : decode cX12_take 120 = .ok (.aload_n 0, 1) := by decide +kernel
theorem dX12_take_121 : decode cX12_take 121 = .ok (.getfield 119, 3) := by decide +kernel
theorem dX12_take_124 : decode cX12_take 124 = .ok (.iload_n 1, 1) := by decide +kernel
theorem dX12_take_125 : decode cX12_take 125 = .ok (.iaload, 1) := by decide +kernel
theorem dX12_take_126 : decode cX12_take 126 = .ok (.aload_n 0, 1) := by decide +kernel
theorem dX12_take_127 : decode cX12_take 127 = .ok (.getfield 122, 3) := by decide +kernel
theorem dX12_take_130 : decode cX12_take 130 = .ok (.iload_n 1, 1) := by decide +kernel
theorem dX12_take_131 : decode cX12_take 131 = .ok (.iaload, 1) := by decide +kernel
theorem dX12_take_132 : decode cX12_take 132 = .ok (.iload_n 2, 1) := by decide +kernel
theorem dX12_take_133 : decode cX12_take 133 = .ok (.invokevirtual 257, 3) := by decide +kernel
theorem dX12_take_136 : decode cX12_take 136 = .ok (.ifCond .ne 10, 3) := by decide +kernel
theorem dX12_take_139 : decode cX12_take 139 = .ok (.aload_n 0, 1) := by decide +kernel
theorem dX12_take_140 : decode cX12_take 140 = .ok (.bipush 12, 2) := by decide +kernel
theorem dX12_take_142 : decode cX12_take 142 = .ok (.invokevirtual 164, 3) := by decide +kernel
theorem dX12_take_145 : decode cX12_take 145 = .ok (.ireturn, 1) := by decide +kernel
theorem dX12_take_146 : decode cX12_take 146 = .ok (.aload_n 0, 1) := by decide +kernel
theorem dX12_take_147 : decode cX12_take 147 = .ok (.iload_n 3, 1) := by decide +kernel
theorem dX12_take_148 : decode cX12_take 148 = .ok (.aload_n 0, 1) := by decide +kernel
theorem dX12_take_149 : decode cX12_take 149 = .ok (.getfield 107, 3) := by decide +kernel
theorem dX12_take_152 : decode cX12_take 152 = .ok (.iload_n 1, 1) := by decide +kernel
theorem dX12_take_153 : decode cX12_take 153 = .ok (.iaload, 1) := by decide +kernel
theorem dX12_take_154 : decode cX12_take 154 = .ok (.aload_n 0, 1) := by decide +kernel
theorem dX12_take_155 : decode cX12_take 155 = .ok (.getfield 110, 3) := by decide +kernel
theorem dX12_take_158 : decode cX12_take 158 = .ok (.iload_n 1, 1) := by decide +kernel
theorem dX12_take_159 : decode cX12_take 159 = .ok (.iaload, 1) := by decide +kernel
theorem dX12_take_160 : decode cX12_take 160 = .ok (.aload_n 0, 1) := by decide +kernel
theorem dX12_take_161 : decode cX12_take 161 = .ok (.getfield 113, 3) := by decide +kernel
theorem dX12_take_164 : decode cX12_take 164 = .ok (.iload_n 1, 1) := by decide +kernel
theorem dX12_take_165 : decode cX12_take 165 = .ok (.iaload, 1) := by decide +kernel
theorem dX12_take_166 : decode cX12_take 166 = .ok (.aload_n 0, 1) := by decide +kernel
theorem dX12_take_167 : decode cX12_take 167 = .ok (.getfield 116, 3) := by decide +kernel
theorem dX12_take_170 : decode cX12_take 170 = .ok (.iload_n 1, 1) := by decide +kernel
theorem dX12_take_171 : decode cX12_take 171 = .ok (.iaload, 1) := by decide +kernel
theorem dX12_take_172 : decode cX12_take 172 = .ok (.aload_n 0, 1) := by decide +kernel
theorem dX12_take_173 : decode cX12_take 173 = .ok (.getfield 119, 3) := by decide +kernel
theorem dX12_take_176 : decode cX12_take 176 = .ok (.iload_n 1, 1) := by decide +kernel
theorem dX12_take_177 : decode cX12_take 177 = .ok (.iaload, 1) := by decide +kernel
theorem dX12_take_178 : decode cX12_take 178 = .ok (.aload_n 0, 1) := by decide +kernel
theorem dX12_take_179 : decode cX12_take 179 = .ok (.getfield 122, 3) := by decide +kernel
theorem dX12_take_182 : decode cX12_take 182 = .ok (.iload_n 1, 1) := by decide +kernel
theorem dX12_take_183 : decode cX12_take 183 = .ok (.iaload, 1) := by decide +kernel
theorem dX12_take_184 : decode cX12_take 184 = .ok (.invokevirtual 238, 3) := by decide +kernel
theorem dX12_take_187 : decode cX12_take 187 = .ok (.istore 4, 2) := by decide +kernel
theorem dX12_take_189 : decode cX12_take 189 = .ok (.aload_n 0, 1) := by decide +kernel
theorem dX12_take_190 : decode cX12_take 190 = .ok (.getfield 128, 3) := by decide +kernel
theorem dX12_take_193 : decode cX12_take 193 = .ok (.iload_n 1, 1) := by decide +kernel
theorem dX12_take_194 : decode cX12_take 194 = .ok (.iconst 1, 1) := by decide +kernel
theorem dX12_take_195 : decode cX12_take 195 = .ok (.iastore, 1) := by decide +kernel
theorem dX12_take_196 : decode cX12_take 196 = .ok (.iconst 0, 1) := by decide +kernel
theorem dX12_take_197 : decode cX12_take 197 = .ok (.istore 5, 2) := by decide +kernel
theorem dX12_take_199 : decode cX12_take 199 = .ok (.iload 5, 2) := by decide +kernel
theorem dX12_take_201 : decode cX12_take 201 = .ok (.aload_n 0, 1) := by decide +kernel
theorem dX12_take_202 : decode cX12_take 202 = .ok (.getfield 288, 3) := by decide +kernel
theorem dX12_take_205 : decode cX12_take 205 = .ok (.if_icmp .ge 81, 3) := by decide +kernel
theorem dX12_take_208 : decode cX12_take 208 = .ok (.aload_n 0, 1) := by decide +kernel
theorem dX12_take_209 : decode cX12_take 209 = .ok (.getfield 104, 3) := by decide +kernel
theorem dX12_take_212 : decode cX12_take 212 = .ok (.iload 5, 2) := by decide +kernel
theorem dX12_take_214 : decode cX12_take 214 = .ok (.iaload, 1) := by decide +kernel
theorem dX12_take_215 : decode cX12_take 215 = .ok (.iload_n 3, 1) := by decide +kernel
theorem dX12_take_216 : decode cX12_take 216 = .ok (.if_icmp .ne 64, 3) := by decide +kernel
theorem dX12_take_219 : decode cX12_take 219 = .ok (.aload_n 0, 1) := by decide +kernel
theorem dX12_take_220 : decode cX12_take 220 = .ok (.iload 5, 2) := by decide +kernel
theorem dX12_take_222 : decode cX12_take 222 = .ok (.iload_n 2, 1) := by decide +kernel
theorem dX12_take_223 : decode cX12_take 223 = .ok (.invokevirtual 291, 3) := by decide +kernel
theorem dX12_take_226 : decode cX12_take 226 = .ok (.ifCond .eq 54, 3) := by decide +kernel
theorem dX12_take_229 : decode cX12_take 229 = .ok (.aload_n 0, 1) := by decide +kernel
theorem dX12_take_230 : decode cX12_take 230 = .ok (.iload_n 3, 1) := by decide +kernel
theorem dX12_take_231 : decode cX12_take 231 = .ok (.aload_n 0, 1) := by decide +kernel
theorem dX12_take_232 : decode cX12_take 232 = .ok (.getfield 110, 3) := by decide +kernel
theorem dX12_take_235 : decode cX12_take 235 = .ok (.iload 5, 2) := by decide +kernel
theorem dX12_take_237 : decode cX12_take 237 = .ok (.iaload, 1) := by decide +kernel
theorem dX12_take_238 : decode cX12_take 238 = .ok (.aload_n 0, 1) := by decide +kernel
theorem dX12_take_239 : decode cX12_take 239 = .ok (.getfield 113, 3) := by decide +kernel
theorem dX12_take_242 : decode cX12_take 242 = .ok (.iload 5, 2) := by decide +kernel
theorem dX12_take_244 : decode cX12_take 244 = .ok (.iaload, 1) := by decide +kernel
theorem dX12_take_245 : decode cX12_take 245 = .ok (.aload_n 0, 1) := by decide +kernel
theorem dX12_take_246 : decode cX12_take 246 = .ok (.getfield 116, 3) := by decide +kernel
theorem dX12_take_249 : decode cX12_take 249 = .ok (.iload 5, 2) := by decide +kernel
theorem dX12_take_251 : decode cX12_take 251 = .ok (.iaload, 1) := by decide +kernel
theorem dX12_take_252 : decode cX12_take 252 = .ok (.aload_n 0, 1) := by decide +kernel
theorem dX12_take_253 : decode cX12_take 253 = .ok (.getfield 119, 3) := by decide +kernel
theorem dX12_take_256 : decode cX12_take 256 = .ok (.iload 5, 2) := by decide +kernel
theorem dX12_take_258 : decode cX12_take 258 = .ok (.iaload, 1) := by decide +kernel
theorem dX12_take_259 : decode cX12_take 259 = .ok (.aload_n 0, 1) := by decide +kernel
theorem dX12_take_260 : decode cX12_take 260 = .ok (.getfield 122, 3) := by decide +kernel
theorem dX12_take_263 : decode cX12_take 263 = .ok (.iload 5, 2) := by decide +kernel
theorem dX12_take_265 : decode cX12_take 265 = .ok (.iaload, 1) := by decide +kernel
theorem dX12_take_266 : decode cX12_take 266 = .ok (.invokevirtual 234, 3) := by decide +kernel
theorem dX12_take_269 : decode cX12_take 269 = .ok (.ifCond .eq 11, 3) := by decide +kernel
theorem dX12_take_272 : decode cX12_take 272 = .ok (.aload_n 0, 1) := by decide +kernel
theorem dX12_take_273 : decode cX12_take 273 = .ok (.getfield 128, 3) := by decide +kernel
theorem dX12_take_276 : decode cX12_take 276 = .ok (.iload 5, 2) := by decide +kernel
theorem dX12_take_278 : decode cX12_take 278 = .ok (.iconst 2, 1) := by decide +kernel
theorem dX12_take_279 : decode cX12_take 279 = .ok (.iastore, 1) := by decide +kernel
theorem dX12_take_280 : decode cX12_take 280 = .ok (.iinc 5 1, 3) := by decide +kernel
theorem dX12_take_283 : decode cX12_take 283 = .ok (.goto (-84), 3) := by decide +kernel
theorem dX12_take_286 : decode cX12_take 286 = .ok (.aload_n 0, 1) := by decide +kernel
theorem dX12_take_287 : decode cX12_take 287 = .ok (.iload_n 2, 1) := by decide +kernel
theorem dX12_take_288 : decode cX12_take 288 = .ok (.putfield 285, 3) := by decide +kernel
theorem dX12_take_291 : decode cX12_take 291 = .ok (.iload 4, 2) := by decide +kernel
theorem dX12_take_293 : decode cX12_take 293 = .ok (.ireturn, 1) := by decide +kernel
set_option maxRecDepth 20000 in
theorem ggX12_state_X12_refuse : GoodIn wsX12_state wsX12_refuse := goodIn_r _ [11, 2, 16, 17, 18, 19, 20, 21, 22, 23, 24, 25, 26, 27, 28, 29, 30, 31, 32, 33, 34, 35, 36, 37, 38, 39, 40, 41, 42, 43, 44, 45, 46, 47, 48, 49, 50, 51, 52, 53, 54, 55, 56, 57, 58, 59, 60, 61, 62, 63, 64, 65, 66, 67, 68, 69] (by decide +kernel) (by decide +kernel)
set_option maxRecDepth 20000 in
theorem gX12_state_X12_refuse : GoodIn wsX12_state (wsV RX12 164 RX12 yX12_refuse wsX12_refuse) := goodIn_app (goodIn_of _ (by decide +kernel)) ggX12_state_X12_refuse
set_option maxRecDepth 20000 in
theorem ggX12_state_X12_isMinute : GoodIn wsX12_state wsX12_isMinute := goodIn_r _ [14, 15] (by decide +kernel) (by decide +kernel)
set_option maxRecDepth 20000 in
theorem gX12_state_X12_isMinute : GoodIn wsX12_state (va_wsS RX12 251 yX12_isMinute wsX12_isMinute) := goodIn_app (goodIn_of _ (by decide +kernel)) ggX12_state_X12_isMinute
theorem dX12_state_0 : decode cX12_state 0 = .ok (.aload_n 0, 1) := by decide +kernel
theorem dX12_state_1 : decode cX12_state 1 = .ok (.iconst 0, 1) := by decide +kernel
theorem dX12_state_2 : decode cX12_state 2 = .ok (.putfield 134, 3) := by decide +kernel
theorem dX12_state_5 : decode cX12_state 5 = .ok (.aload_n 0, 1) := by decide +kernel
theorem dX12_state_6 : decode cX12_state 6 = .ok (.iconst 0, 1) := by decide +kernel
theorem dX12_state_7 : decode cX12_state 7 = .ok (.putfield 137, 3) := by decide +kernel
theorem dX12_state_10 : decode cX12_state 10 = .ok (.iload_n 1, 1) := by decide +kernel
theorem dX12_state_11 : decode cX12_state 11 = .ok (.ifCond .lt 11, 3) := by decide +kernel
theorem dX12_state_14 : decode cX12_state 14 = .ok (.iload_n 1, 1) := by decide +kernel
theorem dX12_state_15 : decode cX12_state 15 = .ok (.aload_n 0, 1) := by decide +kernel
theorem dX12_state_16 : decode cX12_state 16 = .ok (.getfield 288, 3) := by decide +kernel
theorem dX12_state_19 : decode cX12_state 19 = .ok (.if_icmp .lt 9, 3) := by decide +kernel
theorem dX12_state_22 : decode cX12_state 22 = .ok (.aload_n 0, 1) := by decide +kernel
theorem dX12_state_23 : decode cX12_state 23 = .ok (.iconst 1, 1) := by decide +kernel
theorem dX12_state_24 : decode cX12_state 24 = .ok (.invokevirtual 164, 3) := by decide +kernel
theorem dX12_state_27 : decode cX12_state 27 = .ok (.ireturn, 1) := by decide +kernel
theorem dX12_state_28 : decode cX12_state 28 = .ok (.iload_n 2, 1) := by decide +kernel
theorem dX12_state_29 : decode cX12_state 29 = .ok (.invokestatic 251, 3) := by decide +kernel
theorem dX12_state_32 : decode cX12_state 32 = .ok (.ifCond .ne 9, 3) := by decide +kernel
theorem dX12_state_35 : decode cX12_state 35 = .ok (.aload_n 0, 1) := by decide +kernel
theorem dX12_state_36 : decode cX12_state 36 = .ok (.iconst 2, 1) := by decide +kernel
theorem dX12_state_37 : decode cX12_state 37 = .ok (.invokevirtual 164, 3) := by decide +kernel
theorem dX12_state_40 : decode cX12_state 40 = .ok (.ireturn, 1) := by decide +kernel
theorem dX12_state_41 : decode cX12_state 41 = .ok (.iload_n 2, 1) := by decide +kernel
theorem dX12_state_42 : decode cX12_state 42 = .ok (.aload_n 0, 1) := by decide +kernel
theorem dX12_state_43 : decode cX12_state 43 = .ok (.getfield 285, 3) := by decide +kernel
theorem dX12_state_46 : decode cX12_state 46 = .ok (.if_icmp .ge 9, 3) := by decide +kernel
theorem dX12_state_49 : decode cX12_state 49 = .ok (.aload_n 0, 1) := by decide +kernel
theorem dX12_state_50 : decode cX12_state 50 = .ok (.iconst 3, 1) := by decide +kernel
theorem dX12_state_51 : decode cX12_state 51 = .ok (.invokevirtual 164, 3) := by decide +kernel
theorem dX12_state_54 : decode cX12_state 54 = .ok (.ireturn, 1) := by decide +kernel
theorem dX12_state_55 : decode cX12_state 55 = .ok (.aload_n 0, 1) := by decide +kernel
theorem dX12_state_56 : decode cX12_state 56 = .ok (.getfield 128, 3) := by decide +kernel
theorem dX12_state_59 : decode cX12_state 59 = .ok (.iload_n 1, 1) := by decide +kernel
theorem dX12_state_60 : decode cX12_state 60 = .ok (.iaload, 1) := by decide +kernel
theorem dX12_state_61 : decode cX12_state 61 = .ok (.ifCond .ne 17, 3) := by decide +kernel
theorem dX12_state_64 : decode cX12_state 64 = .ok (.iload_n 2, 1) := by decide +kernel
theorem dX12_state_65 : decode cX12_state 65 = .ok (.aload_n 0, 1) := by decide +kernel
theorem dX12_state_66 : decode cX12_state 66 = .ok (.getfield 125, 3) := by decide +kernel
theorem dX12_state_69 : decode cX12_state 69 = .ok (.iload_n 1, 1) := by decide +kernel
theorem dX12_state_70 : decode cX12_state 70 = .ok (.iaload, 1) := by decide +kernel
theorem dX12_state_71 : decode cX12_state 71 = .ok (.if_icmp .le 7, 3) := by decide +kernel
theorem dX12_state_74 : decode cX12_state 74 = .ok (.iconst 3, 1) := by decide +kernel
theorem dX12_state_75 : decode cX12_state 75 = .ok (.goto 9, 3) := by decide +kernel
theorem dX12_state_78 : decode cX12_state 78 = .ok (.aload_n 0, 1) := by decide +kernel
theorem dX12_state_79 : decode cX12_state 79 = .ok (.getfield 128, 3) := by decide +kernel
theorem dX12_state_82 : decode cX12_state 82 = .ok (.iload_n 1, 1) := by decide +kernel
theorem dX12_state_83 : decode cX12_state 83 = .ok (.iaload, 1) := by decide +kernel
theorem dX12_state_84 : decode cX12_state 84 = .ok (.ireturn, 1) := by decide +kernel
theorem dJ6_bitCount_0f7a4_0 : decode cJ6_bitCount_0f7a4 0 = .ok (.iload_n 0, 1) := by decide +kernel
theorem dJ6_bitCount_0f7a4_1 : decode cJ6_bitCount_0f7a4 1 = .ok (.iload_n 0, 1) := by decide +kernel
theorem dJ6_bitCount_0f7a4_2 : decode cJ6_bitCount_0f7a4 2 = .ok (.iconst 1, 1) := by decide +kernel
theorem dJ6_bitCount_0f7a4_3 : decode cJ6_bitCount_0f7a4 3 = .ok (.iushr, 1) := by decide +kernel
theorem dJ6_bitCount_0f7a4_4 : decode cJ6_bitCount_0f7a4 4 = .ok (.ldc_w 265, 3) := by decide +kernel
theorem dJ6_bitCount_0f7a4_7 : decode cJ6_bitCount_0f7a4 7 = .ok (.iand, 1) := by decide +kernel
theorem dJ6_bitCount_0f7a4_8 : decode cJ6_bitCount_0f7a4 8 = .ok (.isub, 1) := by decide +kernel
theorem dJ6_bitCount_0f7a4_9 : decode cJ6_bitCount_0f7a4 9 = .ok (.istore_n 0, 1) := by decide +kernel
theorem dJ6_bitCount_0f7a4_10 : decode cJ6_bitCount_0f7a4 10 = .ok (.iload_n 0, 1) := by decide +kernel
theorem dJ6_bitCount_0f7a4_11 : decode cJ6_bitCount_0f7a4 11 = .ok (.ldc_w 266, 3) := by decide +kernel
theorem dJ6_bitCount_0f7a4_14 : decode cJ6_bitCount_0f7a4 14 = .ok (.iand, 1) := by decide +kernel
theorem dJ6_bitCount_0f7a4_15 : decode cJ6_bitCount_0f7a4 15 = .ok (.iload_n 0, 1) := by decide +kernel
theorem dJ6_bitCount_0f7a4_16 : decode cJ6_bitCount_0f7a4 16 = .ok (.iconst 2, 1) := by decide +kernel
theorem dJ6_bitCount_0f7a4_17 : decode cJ6_bitCount_0f7a4 17 = .ok (.iushr, 1) := by decide +kernel
theorem dJ6_bitCount_0f7a4_18 : decode cJ6_bitCount_0f7a4 18 = .ok (.ldc_w 266, 3) := by decide +kernel
theorem dJ6_bitCount_0f7a4_21 : decode cJ6_bitCount_0f7a4 21 = .ok (.iand, 1) := by decide +kernel
theorem dJ6_bitCount_0f7a4_22 : decode cJ6_bitCount_0f7a4 22 = .ok (.iadd, 1) := by decide +kernel
theorem dJ6_bitCount_0f7a4_23 : decode cJ6_bitCount_0f7a4 23 = .ok (.istore_n 0, 1) := by decide +kernel
theorem dJ6_bitCount_0f7a4_24 : decode cJ6_bitCount_0f7a4 24 = .ok (.iload_n 0, 1) := by decide +kernel
theorem dJ6_bitCount_0f7a4_25 : decode cJ6_bitCount_0f7a4 25 = .ok (.iload_n 0, 1) := by decide +kernel
theorem dJ6_bitCount_0f7a4_26 : decode cJ6_bitCount_0f7a4 26 = .ok (.iconst 4, 1) := by decide +kernel
theorem dJ6_bitCount_0f7a4_27 : decode cJ6_bitCount_0f7a4 27 = .ok (.iushr, 1) := by decide +kernel
theorem dJ6_bitCount_0f7a4_28 : decode cJ6_bitCount_0f7a4 28 = .ok (.iadd, 1) := by decide +kernel
theorem dJ6_bitCount_0f7a4_29 : decode cJ6_bitCount_0f7a4 29 = .ok (.ldc_w 267, 3) := by decide +kernel
theorem dJ6_bitCount_0f7a4_32 : decode cJ6_bitCount_0f7a4 32 = .ok (.iand, 1) := by decide +kernel
theorem dJ6_bitCount_0f7a4_33 : decode cJ6_bitCount_0f7a4 33 = .ok (.istore_n 0, 1) := by decide +kernel
theorem dJ6_bitCount_0f7a4_34 : decode cJ6_bitCount_0f7a4 34 = .ok (.iload_n 0, 1) := by decide +kernel
theorem dJ6_bitCount_0f7a4_35 : decode cJ6_bitCount_0f7a4 35 = .ok (.iload_n 0, 1) := by decide +kernel
theorem dJ6_bitCount_0f7a4_36 : decode cJ6_bitCount_0f7a4 36 = .ok (.bipush 8, 2) := by decide +kernel
theorem dJ6_bitCount_0f7a4_38 : decode cJ6_bitCount_0f7a4 38 = .ok (.iushr, 1) := by decide +kernel
theorem dJ6_bitCount_0f7a4_39 : decode cJ6_bitCount_0f7a4 39 = .ok (.iadd, 1) := by decide +kernel
theorem dJ6_bitCount_0f7a4_40 : decode cJ6_bitCount_0f7a4 40 = .ok (.istore_n 0, 1) := by decide +kernel
theorem dJ6_bitCount_0f7a4_41 : decode cJ6_bitCount_0f7a4 41 = .ok (.iload_n 0, 1) := by decide +kernel
theorem dJ6_bitCount_0f7a4_42 : decode cJ6_bitCount_0f7a4 42 = .ok (.iload_n 0, 1) := by decide +kernel
theorem dJ6_bitCount_0f7a4_43 : decode cJ6_bitCount_0f7a4 43 = .ok (.bipush 16, 2) := by decide +kernel
theorem dJ6_bitCount_0f7a4_45 : decode cJ6_bitCount_0f7a4 45 = .ok (.iushr, 1) := by decide +kernel
theorem dJ6_bitCount_0f7a4_46 : decode cJ6_bitCount_0f7a4 46 = .ok (.iadd, 1) := by decide +kernel
theorem dJ6_bitCount_0f7a4_47 : decode cJ6_bitCount_0f7a4 47 = .ok (.istore_n 0, 1) := by decide +kernel
theorem dJ6_bitCount_0f7a4_48 : decode cJ6_bitCount_0f7a4 48 = .ok (.iload_n 0, 1) := by decide +kernel
theorem dJ6_bitCount_0f7a4_49 : decode cJ6_bitCount_0f7a4 49 = .ok (.bipush 63, 2) := by decide +kernel
theorem dJ6_bitCount_0f7a4_51 : decode cJ6_bitCount_0f7a4 51 = .ok (.iand, 1) := by decide +kernel
theorem dJ6_bitCount_0f7a4_52 : decode cJ6_bitCount_0f7a4 52 = .ok (.ireturn, 1) := by decide +kernel
theorem dJ9_max_7cf53_0 : decode cJ9_max_7cf53 0 = .ok (.iload_n 0, 1) := by decide +kernel
theorem dJ9_max_7cf53_1 : decode cJ9_max_7cf53 1 = .ok (.iload_n 1, 1) := by decide +kernel
theorem dJ9_max_7cf53_2 : decode cJ9_max_7cf53 2 = .ok (.if_icmp .lt 7, 3) := by decide +kernel
theorem dJ9_max_7cf53_5 : decode cJ9_max_7cf53 5 = .ok (.iload_n 0, 1) := by decide +kernel
theorem dJ9_max_7cf53_6 : decode cJ9_max_7cf53 6 = .ok (.goto 4, 3) := by decide +kernel
theorem dJ9_max_7cf53_9 : decode cJ9_max_7cf53 9 = .ok (.iload_n 1, 1) := by decide +kernel
theorem dJ9_max_7cf53_10 : decode cJ9_max_7cf53 10 = .ok (.ireturn, 1) := by decide +kernel
theorem dJ9_min_7cf53_0 : decode cJ9_min_7cf53 0 = .ok (.iload_n 0, 1) := by decide +kernel
theorem dJ9_min_7cf53_1 : decode cJ9_min_7cf53 1 = .ok (.iload_n 1, 1) := by decide +kernel
theorem dJ9_min_7cf53_2 : decode cJ9_min_7cf53 2 = .ok (.if_icmp .gt 7, 3) := by decide +kernel
theorem dJ9_min_7cf53_5 : decode cJ9_min_7cf53 5 = .ok (.iload_n 0, 1) := by decide +kernel
theorem dJ9_min_7cf53_6 : decode cJ9_min_7cf53 6 = .ok (.goto 4, 3) := by decide +kernel
theorem dJ9_min_7cf53_9 : decode cJ9_min_7cf53 9 = .ok (.iload_n 1, 1) := by decide +kernel
theorem dJ9_min_7cf53_10 : decode cJ9_min_7cf53 10 = .ok (.ireturn, 1) := by decide +kernel
theorem dJ7_fill_d0a16_0 : decode cJ7_fill_d0a16 0 = .ok (.iconst 0, 1) := by decide +kernel
theorem dJ7_fill_d0a16_1 : decode cJ7_fill_d0a16 1 = .ok (.istore_n 3, 1) := by decide +kernel
theorem dJ7_fill_d0a16_2 : decode cJ7_fill_d0a16 2 = .ok (.aload_n 0, 1) := by decide +kernel
theorem dJ7_fill_d0a16_3 : decode cJ7_fill_d0a16 3 = .ok (.arraylength, 1) := by decide +kernel
theorem dJ7_fill_d0a16_4 : decode cJ7_fill_d0a16 4 = .ok (.istore 4, 2) := by decide +kernel
theorem dJ7_fill_d0a16_6 : decode cJ7_fill_d0a16 6 = .ok (.iload_n 3, 1) := by decide +kernel
theorem dJ7_fill_d0a16_7 : decode cJ7_fill_d0a16 7 = .ok (.iload 4, 2) := by decide +kernel
theorem dJ7_fill_d0a16_9 : decode cJ7_fill_d0a16 9 = .ok (.if_icmp .ge 13, 3) := by decide +kernel
theorem dJ7_fill_d0a16_12 : decode cJ7_fill_d0a16 12 = .ok (.aload_n 0, 1) := by decide +kernel
theorem dJ7_fill_d0a16_13 : decode cJ7_fill_d0a16 13 = .ok (.iload_n 3, 1) := by decide +kernel
theorem dJ7_fill_d0a16_14 : decode cJ7_fill_d0a16 14 = .ok (.lload_n 1, 1) := by decide +kernel
theorem dJ7_fill_d0a16_15 : decode cJ7_fill_d0a16 15 = .ok (.lastore, 1) := by decide +kernel
theorem dJ7_fill_d0a16_16 : decode cJ7_fill_d0a16 16 = .ok (.iinc 3 1, 3) := by decide +kernel
theorem dJ7_fill_d0a16_19 : decode cJ7_fill_d0a16 19 = .ok (.goto (-13), 3) := by decide +kernel
theorem dJ7_fill_d0a16_22 : decode cJ7_fill_d0a16 22 = .ok (.return_, 1) := by decide +kernel
theorem dJ7_fill_53178_0 : decode cJ7_fill_53178 0 = .ok (.iconst 0, 1) := by decide +kernel
theorem dJ7_fill_53178_1 : decode cJ7_fill_53178 1 = .ok (.istore_n 2, 1) := by decide +kernel
theorem dJ7_fill_53178_2 : decode cJ7_fill_53178 2 = .ok (.aload_n 0, 1) := by decide +kernel
theorem dJ7_fill_53178_3 : decode cJ7_fill_53178 3 = .ok (.arraylength, 1) := by decide +kernel
theorem dJ7_fill_53178_4 : decode cJ7_fill_53178 4 = .ok (.istore_n 3, 1) := by decide +kernel
theorem dJ7_fill_53178_5 : decode cJ7_fill_53178 5 = .ok (.iload_n 2, 1) := by decide +kernel
theorem dJ7_fill_53178_6 : decode cJ7_fill_53178 6 = .ok (.iload_n 3, 1) := by decide +kernel
theorem dJ7_fill_53178_7 : decode cJ7_fill_53178 7 = .ok (.if_icmp .ge 13, 3) := by decide +kernel
theorem dJ7_fill_53178_10 : decode cJ7_fill_53178 10 = .ok (.aload_n 0, 1) := by decide +kernel
theorem dJ7_fill_53178_11 : decode cJ7_fill_53178 11 = .ok (.iload_n 2, 1) := by decide +kernel
theorem dJ7_fill_53178_12 : decode cJ7_fill_53178 12 = .ok (.iload_n 1, 1) := by decide +kernel
theorem dJ7_fill_53178_13 : decode cJ7_fill_53178 13 = .ok (.iastore, 1) := by decide +kernel
theorem dJ7_fill_53178_14 : decode cJ7_fill_53178 14 = .ok (.iinc 2 1, 3) := by decide +kernel
theorem dJ7_fill_53178_17 : decode cJ7_fill_53178 17 = .ok (.goto (-12), 3) := by decide +kernel
theorem dJ7_fill_53178_20 : decode cJ7_fill_53178 20 = .ok (.return_, 1) := by decide +kernel
abbrev vwCl : List vw_C := [(RX0, TX0, 8), (RX1, TX1, 8), (RX2, TX2, 7), (RX3, TX3, 5), (RX4, TX4, 7), (RX5, TX5, 5), (RX6, TX6, 3), (RX7, TX7, 4), (RX8, TX8, 5), (RX9, TX9, 3), (RX10, TX10, 4), (RX11, TX11, 8), (RX12, TX12, 54)]
/-! ===== END printed: names ===== -/
