theorem dX11_left_78 : decode cX11_left 78 = .ok (.invokevirtual 235, 3) := by decide +kernel
theorem dX11_left_81 : decode cX11_left 81 = .ok (.iconst 1, 1) := by decide +kernel
theorem dX11_left_82 : decode cX11_left 82 = .ok (.ireturn, 1) := by decide +kernel
set_option maxRecDepth 20000 in
theorem ggX11_tellFraction_X11_commonDivisor : GoodIn wsX11_tellFraction wsX11_commonDivisor := goodIn_r _ [6, 7] (by decide +kernel) (by decide +kernel)
set_option maxRecDepth 20000 in
theorem gX11_tellFraction_X11_commonDivisor : GoodIn wsX11_tellFraction (va_wsS RX11 238 yX11_commonDivisor wsX11_commonDivisor) := goodIn_app (goodIn_of _ (by decide +kernel)) ggX11_tellFraction_X11_commonDivisor
theorem dX11_tellFraction_0 : decode cX11_tellFraction 0 = .ok (.iload_n 1, 1) := by decide +kernel
theorem dX11_tellFraction_1 : decode cX11_tellFraction 1 = .ok (.iload_n 2, 1) := by decide +kernel
theorem dX11_tellFraction_2 : decode cX11_tellFraction 2 = .ok (.invokestatic 238, 3) := by decide +kernel
theorem dX11_tellFraction_5 : decode cX11_tellFraction 5 = .ok (.istore_n 3, 1) := by decide +kernel
theorem dX11_tellFraction_6 : decode cX11_tellFraction 6 = .ok (.iload_n 3, 1) := by decide +kernel
theorem dX11_tellFraction_7 : decode cX11_tellFraction 7 = .ok (.iconst 1, 1) := by decide +kernel
theorem dX11_tellFraction_8 : decode cX11_tellFraction 8 = .ok (.if_icmp .ge 4, 3) := by decide +kernel
theorem dX11_tellFraction_11 : decode cX11_tellFraction 11 = .ok (.return_, 1) := by decide +kernel
theorem dX11_tellFraction_12 : decode cX11_tellFraction 12 = .ok (.aload_n 0, 1) := by decide +kernel
theorem dX11_tellFraction_13 : decode cX11_tellFraction 13 = .ok (.iload_n 1, 1) := by decide +kernel
theorem dX11_tellFraction_14 : decode cX11_tellFraction 14 = .ok (.iload_n 3, 1) := by decide +kernel
theorem dX11_tellFraction_15 : decode cX11_tellFraction 15 = .ok (.idiv, 1) := by decide +kernel
theorem dX11_tellFraction_16 : decode cX11_tellFraction 16 = .ok (.i2l, 1) := by decide +kernel
theorem dX11_tellFraction_17 : decode cX11_tellFraction 17 = .ok (.putfield 45, 3) := by decide +kernel
theorem dX11_tellFraction_20 : decode cX11_tellFraction 20 = .ok (.aload_n 0, 1) := by decide +kernel
theorem dX11_tellFraction_21 : decode cX11_tellFraction 21 = .ok (.iload_n 2, 1) := by decide +kernel
theorem dX11_tellFraction_22 : decode cX11_tellFraction 22 = .ok (.iload_n 3, 1) := by decide +kernel
theorem dX11_tellFraction_23 : decode cX11_tellFraction 23 = .ok (.idiv, 1) := by decide +kernel
theorem dX11_tellFraction_24 : decode cX11_tellFraction 24 = .ok (.i2l, 1) := by decide +kernel
theorem dX11_tellFraction_25 : decode cX11_tellFraction 25 = .ok (.putfield 49, 3) := by decide +kernel
theorem dX11_tellFraction_28 : decode cX11_tellFraction 28 = .ok (.return_, 1) := by decide +kernel
theorem dX11_commonDivisor_0 : decode cX11_commonDivisor 0 = .ok (.iload_n 1, 1) := by decide +kernel
theorem dX11_commonDivisor_1 : decode cX11_commonDivisor 1 = .ok (.istore_n 2, 1) := by decide +kernel
theorem dX11_commonDivisor_2 : decode cX11_commonDivisor 2 = .ok (.iload_n 0, 1) := by decide +kernel
theorem dX11_commonDivisor_3 : decode cX11_commonDivisor 3 = .ok (.istore_n 3, 1) := by decide +kernel
theorem dX11_commonDivisor_4 : decode cX11_commonDivisor 4 = .ok (.iconst 0, 1) := by decide +kernel
theorem dX11_commonDivisor_5 : decode cX11_commonDivisor 5 = .ok (.istore 4, 2) := by decide +kernel
theorem dX11_commonDivisor_7 : decode cX11_commonDivisor 7 = .ok (.iload 4, 2) := by decide +kernel
theorem dX11_commonDivisor_9 : decode cX11_commonDivisor 9 = .ok (.ldc 241, 2) := by decide +kernel
theorem dX11_commonDivisor_11 : decode cX11_commonDivisor 11 = .ok (.if_icmp .ge 23, 3) := by decide +kernel
theorem dX11_commonDivisor_14 : decode cX11_commonDivisor 14 = .ok (.iload_n 3, 1) := by decide +kernel
theorem dX11_commonDivisor_15 : decode cX11_commonDivisor 15 = .ok (.ifCond .le 19, 3) := by decide +kernel
theorem dX11_commonDivisor_18 : decode cX11_commonDivisor 18 = .ok (.iload_n 2, 1) := by decide +kernel
theorem dX11_commonDivisor_19 : decode cX11_commonDivisor 19 = .ok (.iload_n 3, 1) := by decide +kernel
theorem dX11_commonDivisor_20 : decode cX11_commonDivisor 20 = .ok (.irem, 1) := by decide +kernel
theorem dX11_commonDivisor_21 : decode cX11_commonDivisor 21 = .ok (.istore 5, 2) := by decide +kernel
theorem dX11_commonDivisor_23 : decode cX11_commonDivisor 23 = .ok (.iload_n 3, 1) := by decide +kernel
theorem dX11_commonDivisor_24 : decode cX11_commonDivisor 24 = .ok (.istore_n 2, 1) := by decide +kernel
theorem dX11_commonDivisor_25 : decode cX11_commonDivisor 25 = .ok (.iload 5, 2) := by decide +kernel
theorem dX11_commonDivisor_27 : decode cX11_commonDivisor 27 = .ok (.istore_n 3, 1) := by decide +kernel
theorem dX11_commonDivisor_28 : decode cX11_commonDivisor 28 = .ok (.iinc 4 1, 3) := by decide +kernel
theorem dX11_commonDivisor_31 : decode cX11_commonDivisor 31 = .ok (.goto (-24), 3) := by decide +kernel
theorem dX11_commonDivisor_34 : decode cX11_commonDivisor 34 = .ok (.iload_n 2, 1) := by decide +kernel
theorem dX11_commonDivisor_35 : decode cX11_commonDivisor 35 = .ok (.ireturn, 1) := by decide +kernel
set_option maxRecDepth 20000 in
theorem ggX11_option_X11_statusOfOption : GoodIn wsX11_option wsX11_statusOfOption := goodIn_r _ [10, 2, 11, 12, 13, 14, 9, 15, 16, 17, 18, 19, 20, 21, 22, 23, 24, 25, 26, 44, 45, 46, 47, 48, 49, 50, 51, 56, 57, 58, 59, 60, 61, 62, 63, 64, 65, 66, 67, 68, 69] (by decide +kernel) (by decide +kernel)
set_option maxRecDepth 20000 in
theorem gX11_option_X11_statusOfOption : GoodIn wsX11_option (wsV RX11 242 RX11 yX11_statusOfOption wsX11_statusOfOption) := goodIn_app (goodIn_of _ (by decide +kernel)) ggX11_option_X11_statusOfOption
set_option maxRecDepth 20000 in
theorem ggX11_option_X7_init : GoodIn wsX11_option wsX7_init := goodIn_r _ [29, 30, 31, 32, 33, 34, 35, 36, 52, 53, 54, 55] (by decide +kernel) (by decide +kernel)
set_option maxRecDepth 20000 in
theorem gX11_option_X7_init : GoodIn wsX11_option (wsX7_init) := ggX11_option_X7_init
set_option maxRecDepth 20000 in
theorem ggX11_option_X2_addOption : GoodIn wsX11_option wsX2_addOption := goodIn_r _ [41, 42, 43, 56, 57, 58, 59, 60, 61, 62] (by decide +kernel) (by decide +kernel)
set_option maxRecDepth 20000 in
theorem gX11_option_X2_addOption : GoodIn wsX11_option (wsV RX11 251 RX2 yX2_addOption wsX2_addOption) := goodIn_app (goodIn_of _ (by decide +kernel)) ggX11_option_X2_addOption
theorem dX11_option_0 : decode cX11_option 0 = .ok (.aload_n 0, 1) := by decide +kernel
theorem dX11_option_1 : decode cX11_option 1 = .ok (.aload_n 0, 1) := by decide +kernel
theorem dX11_option_2 : decode cX11_option 2 = .ok (.iload_n 1, 1) := by decide +kernel
theorem dX11_option_3 : decode cX11_option 3 = .ok (.iload_n 2, 1) := by decide +kernel
theorem dX11_option_4 : decode cX11_option 4 = .ok (.iload_n 3, 1) := by decide +kernel
theorem dX11_option_5 : decode cX11_option 5 = .ok (.iload 4, 2) := by decide +kernel
theorem dX11_option_7 : decode cX11_option 7 = .ok (.invokevirtual 242, 3) := by decide +kernel
theorem dX11_option_10 : decode cX11_option 10 = .ok (.putfield 41, 3) := by decide +kernel
theorem dX11_option_13 : decode cX11_option 13 = .ok (.aload_n 0, 1) := by decide +kernel
theorem dX11_option_14 : decode cX11_option 14 = .ok (.getfield 41, 3) := by decide +kernel
theorem dX11_option_17 : decode cX11_option 17 = .ok (.ifCond .eq 5, 3) := by decide +kernel
theorem dX11_option_20 : decode cX11_option 20 = .ok (.iconst 0, 1) := by decide +kernel
theorem dX11_option_21 : decode cX11_option 21 = .ok (.ireturn, 1) := by decide +kernel
theorem dX11_option_22 : decode cX11_option 22 = .ok (.aload_n 0, 1) := by decide +kernel
theorem dX11_option_23 : decode cX11_option 23 = .ok (.getfield 26, 3) := by decide +kernel
theorem dX11_option_26 : decode cX11_option 26 = .ok (.new 246, 3) := by decide +kernel
theorem dX11_option_29 : decode cX11_option 29 = .ok (.dup, 1) := by decide +kernel
theorem dX11_option_30 : decode cX11_option 30 = .ok (.iload_n 1, 1) := by decide +kernel
theorem dX11_option_31 : decode cX11_option 31 = .ok (.iload_n 2, 1) := by decide +kernel
theorem dX11_option_32 : decode cX11_option 32 = .ok (.iload_n 3, 1) := by decide +kernel
theorem dX11_option_33 : decode cX11_option 33 = .ok (.iload 4, 2) := by decide +kernel
theorem dX11_option_35 : decode cX11_option 35 = .ok (.invokespecial 248, 3) := by decide +kernel
theorem dX11_option_38 : decode cX11_option 38 = .ok (.invokevirtual 251, 3) := by decide +kernel
theorem dX11_option_41 : decode cX11_option 41 = .ok (.iconst 1, 1) := by decide +kernel
theorem dX11_option_42 : decode cX11_option 42 = .ok (.ireturn, 1) := by decide +kernel
set_option maxRecDepth 20000 in
theorem ggX11_statusOfOption_X11_isBook : GoodIn wsX11_statusOfOption wsX11_isBook := goodIn_r _ [7, 1, 8, 19, 20, 21, 22, 23, 24, 25, 26, 27, 28, 29, 30, 31, 32, 33] (by decide +kernel) (by decide +kernel)
set_option maxRecDepth 20000 in
theorem gX11_statusOfOption_X11_isBook : GoodIn wsX11_statusOfOption (wsV RX11 171 RX11 yX11_isBook wsX11_isBook) := goodIn_app (goodIn_of _ (by decide +kernel)) ggX11_statusOfOption_X11_isBook
set_option maxRecDepth 20000 in
theorem ggX11_statusOfOption_X11_isEditor : GoodIn wsX11_statusOfOption wsX11_isEditor := goodIn_r _ [12, 13, 14, 19, 20, 21, 22, 23, 24, 25, 26, 34, 35, 36, 37, 38, 39, 40] (by decide +kernel) (by decide +kernel)
set_option maxRecDepth 20000 in
theorem gX11_statusOfOption_X11_isEditor : GoodIn wsX11_statusOfOption (wsV RX11 122 RX11 yX11_isEditor wsX11_isEditor) := goodIn_app (goodIn_of _ (by decide +kernel)) ggX11_statusOfOption_X11_isEditor
set_option maxRecDepth 20000 in
theorem ggX11_statusOfOption_X11_isMinute : GoodIn wsX11_statusOfOption wsX11_isMinute := goodIn_r _ [17, 18] (by decide +kernel) (by decide +kernel)
set_option maxRecDepth 20000 in
theorem gX11_statusOfOption_X11_isMinute : GoodIn wsX11_statusOfOption (va_wsS RX11 255 yX11_isMinute wsX11_isMinute) := goodIn_app (goodIn_of _ (by decide +kernel)) ggX11_statusOfOption_X11_isMinute
theorem dX11_statusOfOption_0 : decode cX11_statusOfOption 0 = .ok (.aload_n 0, 1) := by decide +kernel
theorem dX11_statusOfOption_1 : decode cX11_statusOfOption 1 = .ok (.iload_n 1, 1) := by decide +kernel
theorem dX11_statusOfOption_2 : decode cX11_statusOfOption 2 = .ok (.invokevirtual 171, 3) := by decide +kernel
theorem dX11_statusOfOption_5 : decode cX11_statusOfOption 5 = .ok (.ifCond .eq 11, 3) := by decide +kernel
theorem dX11_statusOfOption_8 : decode cX11_statusOfOption 8 = .ok (.aload_n 0, 1) := by decide +kernel
theorem dX11_statusOfOption_9 : decode cX11_statusOfOption 9 = .ok (.iload_n 2, 1) := by decide +kernel
theorem dX11_statusOfOption_10 : decode cX11_statusOfOption 10 = .ok (.invokevirtual 122, 3) := by decide +kernel
theorem dX11_statusOfOption_13 : decode cX11_statusOfOption 13 = .ok (.ifCond .ne 5, 3) := by decide +kernel
theorem dX11_statusOfOption_16 : decode cX11_statusOfOption 16 = .ok (.iconst 1, 1) := by decide +kernel
theorem dX11_statusOfOption_17 : decode cX11_statusOfOption 17 = .ok (.ireturn, 1) := by decide +kernel
theorem dX11_statusOfOption_18 : decode cX11_statusOfOption 18 = .ok (.iload_n 3, 1) := by decide +kernel
theorem dX11_statusOfOption_19 : decode cX11_statusOfOption 19 = .ok (.invokestatic 255, 3) := by decide +kernel
theorem dX11_statusOfOption_22 : decode cX11_statusOfOption 22 = .ok (.ifCond .eq 17, 3) := by decide +kernel
theorem dX11_statusOfOption_25 : decode cX11_statusOfOption 25 = .ok (.iload 4, 2) := by decide +kernel
theorem dX11_statusOfOption_27 : decode cX11_statusOfOption 27 = .ok (.invokestatic 255, 3) := by decide +kernel
theorem dX11_statusOfOption_30 : decode cX11_statusOfOption 30 = .ok (.ifCond .eq 9, 3) := by decide +kernel
theorem dX11_statusOfOption_33 : decode cX11_statusOfOption 33 = .ok (.iload_n 3, 1) := by decide +kernel
theorem dX11_statusOfOption_34 : decode cX11_statusOfOption 34 = .ok (.iload 4, 2) := by decide +kernel
theorem dX11_statusOfOption_36 : decode cX11_statusOfOption 36 = .ok (.if_icmp .le 5, 3) := by decide +kernel
theorem dX11_statusOfOption_39 : decode cX11_statusOfOption 39 = .ok (.iconst 2, 1) := by decide +kernel
theorem dX11_statusOfOption_40 : decode cX11_statusOfOption 40 = .ok (.ireturn, 1) := by decide +kernel
theorem dX11_statusOfOption_41 : decode cX11_statusOfOption 41 = .ok (.aload_n 0, 1) := by decide +kernel
theorem dX11_statusOfOption_42 : decode cX11_statusOfOption 42 = .ok (.getfield 26, 3) := by decide +kernel
theorem dX11_statusOfOption_45 : decode cX11_statusOfOption 45 = .ok (.getfield 258, 3) := by decide +kernel
theorem dX11_statusOfOption_48 : decode cX11_statusOfOption 48 = .ok (.bipush 30, 2) := by decide +kernel
theorem dX11_statusOfOption_50 : decode cX11_statusOfOption 50 = .ok (.if_icmp .ge 7, 3) := by decide +kernel
theorem dX11_statusOfOption_53 : decode cX11_statusOfOption 53 = .ok (.iconst 0, 1) := by decide +kernel
theorem dX11_statusOfOption_54 : decode cX11_statusOfOption 54 = .ok (.goto 5, 3) := by decide +kernel
theorem dX11_statusOfOption_57 : decode cX11_statusOfOption 57 = .ok (.bipush 7, 2) := by decide +kernel
theorem dX11_statusOfOption_59 : decode cX11_statusOfOption 59 = .ok (.ireturn, 1) := by decide +kernel
set_option maxRecDepth 20000 in
theorem ggX11_may_X8_init : GoodIn wsX11_may wsX8_init := goodIn_r _ [8, 9, 10, 11, 12, 13, 14, 15, 16, 112, 113, 114, 115, 116] (by decide +kernel) (by decide +kernel)
set_option maxRecDepth 20000 in
theorem gX11_may_X8_init : GoodIn wsX11_may (wsX8_init) := ggX11_may_X8_init
set_option maxRecDepth 20000 in
theorem ggX11_may_X11_statusOfMay : GoodIn wsX11_may wsX11_statusOfMay := goodIn_r _ [21, 22, 23, 24, 20, 25, 5, 26, 27, 28, 29, 30, 31, 32, 33, 34, 35, 3, 36, 12, 13, 14, 15, 16, 37, 38, 39, 40, 41, 42, 117, 118, 119, 120, 121, 122, 123, 124, 125, 126, 127, 128, 129, 130, 131, 132, 133, 134, 135, 136, 137, 138, 112, 113, 114, 115, 116] (by decide +kernel) (by decide +kernel)
set_option maxRecDepth 20000 in
theorem gX11_may_X11_statusOfMay : GoodIn wsX11_may (wsV RX11 261 RX11 yX11_statusOfMay wsX11_statusOfMay) := goodIn_app (goodIn_of _ (by decide +kernel)) ggX11_may_X11_statusOfMay
set_option maxRecDepth 20000 in
theorem ggX11_may_X2_mayBeOffered : GoodIn wsX11_may wsX2_mayBeOffered := goodIn_r _ [47, 48, 49, 50, 46, 51, 52, 53, 54, 55, 56, 57, 58, 59, 60, 61, 62, 63, 64, 65, 66, 67, 68, 69, 70, 71, 72, 73, 74, 75, 76, 77, 78, 79, 80, 81, 82, 83, 84, 85, 86, 87, 88, 89, 90, 91, 92, 93, 94, 95, 96, 97, 98, 99, 100, 101, 102, 103, 3, 104, 12, 13, 14, 105, 106, 107, 108, 109, 110, 111, 125, 126, 127, 128, 129, 130, 131, 139, 140, 141, 142, 143, 144, 145, 146, 147, 112, 113, 114, 115, 116] (by decide +kernel) (by decide +kernel)
set_option maxRecDepth 20000 in
theorem gX11_may_X2_mayBeOffered : GoodIn wsX11_may (wsV RX11 265 RX2 yX2_mayBeOffered wsX2_mayBeOffered) := goodIn_app (goodIn_of _ (by decide +kernel)) ggX11_may_X2_mayBeOffered
theorem dX11_may_0 : decode cX11_may 0 = .ok (.new 180, 3) := by decide +kernel
theorem dX11_may_3 : decode cX11_may 3 = .ok (.dup, 1) := by decide +kernel
theorem dX11_may_4 : decode cX11_may 4 = .ok (.iload_n 3, 1) := by decide +kernel
theorem dX11_may_5 : decode cX11_may 5 = .ok (.iload 4, 2) := by decide +kernel
theorem dX11_may_7 : decode cX11_may 7 = .ok (.iload 5, 2) := by decide +kernel
theorem dX11_may_9 : decode cX11_may 9 = .ok (.iload 6, 2) := by decide +kernel
theorem dX11_may_11 : decode cX11_may 11 = .ok (.iload 7, 2) := by decide +kernel
theorem dX11_may_13 : decode cX11_may 13 = .ok (.invokespecial 182, 3) := by decide +kernel
theorem dX11_may_16 : decode cX11_may 16 = .ok (.astore 9, 2) := by decide +kernel
theorem dX11_may_18 : decode cX11_may 18 = .ok (.aload_n 0, 1) := by decide +kernel
theorem dX11_may_19 : decode cX11_may 19 = .ok (.aload_n 0, 1) := by decide +kernel
theorem dX11_may_20 : decode cX11_may 20 = .ok (.iload_n 1, 1) := by decide +kernel
theorem dX11_may_21 : decode cX11_may 21 = .ok (.iload_n 2, 1) := by decide +kernel
theorem dX11_may_22 : decode cX11_may 22 = .ok (.aload 9, 2) := by decide +kernel
theorem dX11_may_24 : decode cX11_may 24 = .ok (.iload 8, 2) := by decide +kernel
theorem dX11_may_26 : decode cX11_may 26 = .ok (.invokevirtual 261, 3) := by decide +kernel
theorem dX11_may_29 : decode cX11_may 29 = .ok (.putfield 41, 3) := by decide +kernel
theorem dX11_may_32 : decode cX11_may 32 = .ok (.aload_n 0, 1) := by decide +kernel
theorem dX11_may_33 : decode cX11_may 33 = .ok (.getfield 41, 3) := by decide +kernel
theorem dX11_may_36 : decode cX11_may 36 = .ok (.ifCond .eq 5, 3) := by decide +kernel
theorem dX11_may_39 : decode cX11_may 39 = .ok (.iconst (-1), 1) := by decide +kernel
theorem dX11_may_40 : decode cX11_may 40 = .ok (.ireturn, 1) := by decide +kernel
theorem dX11_may_41 : decode cX11_may 41 = .ok (.aload_n 0, 1) := by decide +kernel
theorem dX11_may_42 : decode cX11_may 42 = .ok (.getfield 26, 3) := by decide +kernel
theorem dX11_may_45 : decode cX11_may 45 = .ok (.iload_n 1, 1) := by decide +kernel
theorem dX11_may_46 : decode cX11_may 46 = .ok (.iload_n 2, 1) := by decide +kernel
theorem dX11_may_47 : decode cX11_may 47 = .ok (.aload 9, 2) := by decide +kernel
theorem dX11_may_49 : decode cX11_may 49 = .ok (.iload 8, 2) := by decide +kernel
theorem dX11_may_51 : decode cX11_may 51 = .ok (.invokevirtual 265, 3) := by decide +kernel
theorem dX11_may_54 : decode cX11_may 54 = .ok (.ifCond .eq 7, 3) := by decide +kernel
theorem dX11_may_57 : decode cX11_may 57 = .ok (.iconst 1, 1) := by decide +kernel
theorem dX11_may_58 : decode cX11_may 58 = .ok (.goto 4, 3) := by decide +kernel
theorem dX11_may_61 : decode cX11_may 61 = .ok (.iconst 0, 1) := by decide +kernel
theorem dX11_may_62 : decode cX11_may 62 = .ok (.ireturn, 1) := by decide +kernel
set_option maxRecDepth 20000 in
theorem ggX11_statusOfMay_X11_isBook : GoodIn wsX11_statusOfMay wsX11_isBook := goodIn_r _ [5, 6, 7, 30, 31, 32, 33, 34, 35, 36, 37, 38, 39, 40, 41, 42, 43, 44] (by decide +kernel) (by decide +kernel)
set_option maxRecDepth 20000 in
theorem gX11_statusOfMay_X11_isBook : GoodIn wsX11_statusOfMay (wsV RX11 171 RX11 yX11_isBook wsX11_isBook) := goodIn_app (goodIn_of _ (by decide +kernel)) ggX11_statusOfMay_X11_isBook
set_option maxRecDepth 20000 in
theorem ggX11_statusOfMay_X11_isEditor : GoodIn wsX11_statusOfMay wsX11_isEditor := goodIn_r _ [11, 12, 13, 30, 31, 32, 33, 34, 35, 36, 37, 45, 46, 47, 48, 49, 50, 51] (by decide +kernel) (by decide +kernel)
set_option maxRecDepth 20000 in
theorem gX11_statusOfMay_X11_isEditor : GoodIn wsX11_statusOfMay (wsV RX11 122 RX11 yX11_isEditor wsX11_isEditor) := goodIn_app (goodIn_of _ (by decide +kernel)) ggX11_statusOfMay_X11_isEditor
set_option maxRecDepth 20000 in
theorem ggX11_statusOfMay_X8_canBe : GoodIn wsX11_statusOfMay wsX8_canBe := goodIn_r _ [18, 19, 20, 21, 22, 23, 24, 4, 25, 52, 53, 54, 55, 56] (by decide +kernel) (by decide +kernel)
set_option maxRecDepth 20000 in
theorem gX11_statusOfMay_X8_canBe : GoodIn wsX11_statusOfMay (wsV RX11 192 RX8 yX8_canBe wsX8_canBe) := goodIn_app (goodIn_of _ (by decide +kernel)) ggX11_statusOfMay_X8_canBe
set_option maxRecDepth 20000 in
theorem ggX11_statusOfMay_X11_isMinute : GoodIn wsX11_statusOfMay wsX11_isMinute := goodIn_r _ [28, 29] (by decide +kernel) (by decide +kernel)
set_option maxRecDepth 20000 in
theorem gX11_statusOfMay_X11_isMinute : GoodIn wsX11_statusOfMay (va_wsS RX11 255 yX11_isMinute wsX11_isMinute) := goodIn_app (goodIn_of _ (by decide +kernel)) ggX11_statusOfMay_X11_isMinute
theorem dX11_statusOfMay_0 : decode cX11_statusOfMay 0 = .ok (.aload_n 0, 1) := by decide +kernel
theorem dX11_statusOfMay_1 : decode cX11_statusOfMay 1 = .ok (.iload_n 1, 1) := by decide +kernel
theorem dX11_statusOfMay_2 : decode cX11_statusOfMay 2 = .ok (.invokevirtual 171, 3) := by decide +kernel
theorem dX11_statusOfMay_5 : decode cX11_statusOfMay 5 = .ok (.ifCond .eq 11, 3) := by decide +kernel
theorem dX11_statusOfMay_8 : decode cX11_statusOfMay 8 = .ok (.aload_n 0, 1) := by decide +kernel
theorem dX11_statusOfMay_9 : decode cX11_statusOfMay 9 = .ok (.iload_n 2, 1) := by decide +kernel
theorem dX11_statusOfMay_10 : decode cX11_statusOfMay 10 = .ok (.invokevirtual 122, 3) := by decide +kernel
theorem dX11_statusOfMay_13 : decode cX11_statusOfMay 13 = .ok (.ifCond .ne 5, 3) := by decide +kernel
theorem dX11_statusOfMay_16 : decode cX11_statusOfMay 16 = .ok (.iconst 1, 1) := by decide +kernel
theorem dX11_statusOfMay_17 : decode cX11_statusOfMay 17 = .ok (.ireturn, 1) := by decide +kernel
theorem dX11_statusOfMay_18 : decode cX11_statusOfMay 18 = .ok (.aload_n 3, 1) := by decide +kernel
theorem dX11_statusOfMay_19 : decode cX11_statusOfMay 19 = .ok (.invokevirtual 192, 3) := by decide +kernel
theorem dX11_statusOfMay_22 : decode cX11_statusOfMay 22 = .ok (.ifCond .eq 15, 3) := by decide +kernel
theorem dX11_statusOfMay_25 : decode cX11_statusOfMay 25 = .ok (.iload 4, 2) := by decide +kernel
theorem dX11_statusOfMay_27 : decode cX11_statusOfMay 27 = .ok (.invokestatic 255, 3) := by decide +kernel
theorem dX11_statusOfMay_30 : decode cX11_statusOfMay 30 = .ok (.ifCond .eq 7, 3) := by decide +kernel
theorem dX11_statusOfMay_33 : decode cX11_statusOfMay 33 = .ok (.iconst 0, 1) := by decide +kernel
theorem dX11_statusOfMay_34 : decode cX11_statusOfMay 34 = .ok (.goto 4, 3) := by decide +kernel
theorem dX11_statusOfMay_37 : decode cX11_statusOfMay 37 = .ok (.iconst 2, 1) := by decide +kernel
theorem dX11_statusOfMay_38 : decode cX11_statusOfMay 38 = .ok (.ireturn, 1) := by decide +kernel
theorem dX11_upper_0 : decode cX11_upper 0 = .ok (.aload_n 0, 1) := by decide +kernel
theorem dX11_upper_1 : decode cX11_upper 1 = .ok (.getfield 45, 3) := by decide +kernel
theorem dX11_upper_4 : decode cX11_upper 4 = .ok (.lreturn, 1) := by decide +kernel
theorem dX11_lower_0 : decode cX11_lower 0 = .ok (.aload_n 0, 1) := by decide +kernel
theorem dX11_lower_1 : decode cX11_lower 1 = .ok (.getfield 49, 3) := by decide +kernel
theorem dX11_lower_4 : decode cX11_lower 4 = .ok (.lreturn, 1) := by decide +kernel
set_option maxRecDepth 20000 in
theorem ggX11_auction_X11_statusOfAuction : GoodIn wsX11_auction wsX11_statusOfAuction := goodIn_r _ [15, 16, 17, 5, 18, 19, 7, 8, 20, 21, 14, 22, 23, 24, 25, 26, 27, 28, 29, 30, 6, 31, 72, 73, 74, 75, 76, 77, 78, 79, 88, 89, 90, 91, 92, 93, 94, 95, 96, 97, 98] (by decide +kernel) (by decide +kernel)
set_option maxRecDepth 20000 in
theorem gX11_auction_X11_statusOfAuction : GoodIn wsX11_auction (wsV RX11 269 RX11 yX11_statusOfAuction wsX11_statusOfAuction) := goodIn_app (goodIn_of _ (by decide +kernel)) ggX11_auction_X11_statusOfAuction
set_option maxRecDepth 20000 in
theorem ggX11_auction_X0_init : GoodIn wsX11_auction wsX0_init := goodIn_r _ [34, 35, 36, 37, 38, 39, 40, 41, 42, 43, 44, 45, 46, 80, 81, 82, 83, 84, 85, 86, 87] (by decide +kernel) (by decide +kernel)
set_option maxRecDepth 20000 in
theorem gX11_auction_X0_init : GoodIn wsX11_auction (wsX0_init) := ggX11_auction_X0_init
set_option maxRecDepth 20000 in
theorem ggX11_auction_X0_playRounds : GoodIn wsX11_auction wsX0_playRounds := goodIn_r _ [50, 51, 52, 53, 54, 4, 55, 40, 43, 56, 57, 58, 59, 41, 46, 45, 38, 60, 61, 62, 63, 44, 64, 65, 66, 67, 80, 81, 82, 83, 84, 85, 86, 87] (by decide +kernel) (by decide +kernel)
set_option maxRecDepth 20000 in
theorem gX11_auction_X0_playRounds : GoodIn wsX11_auction (wsV RX11 277 RX0 yX0_playRounds wsX0_playRounds) := goodIn_app (goodIn_of _ (by decide +kernel)) ggX11_auction_X0_playRounds
set_option maxRecDepth 20000 in
theorem ggX11_auction_X0_topWith : GoodIn wsX11_auction wsX0_topWith := goodIn_r _ [71, 44, 46, 45, 43, 39, 80, 81, 82, 83, 84, 85, 86, 87] (by decide +kernel) (by decide +kernel)
set_option maxRecDepth 20000 in
theorem gX11_auction_X0_topWith : GoodIn wsX11_auction (wsV RX11 280 RX0 yX0_topWith wsX0_topWith) := goodIn_app (goodIn_of _ (by decide +kernel)) ggX11_auction_X0_topWith
theorem dX11_auction_0 : decode cX11_auction 0 = .ok (.aload_n 0, 1) := by decide +kernel
theorem dX11_auction_1 : decode cX11_auction 1 = .ok (.aload_n 0, 1) := by decide +kernel
theorem dX11_auction_2 : decode cX11_auction 2 = .ok (.iload_n 1, 1) := by decide +kernel
theorem dX11_auction_3 : decode cX11_auction 3 = .ok (.iload_n 2, 1) := by decide +kernel
theorem dX11_auction_4 : decode cX11_auction 4 = .ok (.iload_n 3, 1) := by decide +kernel
theorem dX11_auction_5 : decode cX11_auction 5 = .ok (.iload 4, 2) := by decide +kernel
theorem dX11_auction_7 : decode cX11_auction 7 = .ok (.iload 5, 2) := by decide +kernel
theorem dX11_auction_9 : decode cX11_auction 9 = .ok (.invokevirtual 269, 3) := by decide +kernel
theorem dX11_auction_12 : decode cX11_auction 12 = .ok (.putfield 41, 3) := by decide +kernel
theorem dX11_auction_15 : decode cX11_auction 15 = .ok (.aload_n 0, 1) := by decide +kernel
theorem dX11_auction_16 : decode cX11_auction 16 = .ok (.getfield 41, 3) := by decide +kernel
theorem dX11_auction_19 : decode cX11_auction 19 = .ok (.ifCond .eq 5, 3) := by decide +kernel
theorem dX11_auction_22 : decode cX11_auction 22 = .ok (.iconst (-1), 1) := by decide +kernel
theorem dX11_auction_23 : decode cX11_auction 23 = .ok (.ireturn, 1) := by decide +kernel
theorem dX11_auction_24 : decode cX11_auction 24 = .ok (.new 272, 3) := by decide +kernel
theorem dX11_auction_27 : decode cX11_auction 27 = .ok (.dup, 1) := by decide +kernel
theorem dX11_auction_28 : decode cX11_auction 28 = .ok (.aload_n 0, 1) := by decide +kernel
theorem dX11_auction_29 : decode cX11_auction 29 = .ok (.getfield 11, 3) := by decide +kernel
theorem dX11_auction_32 : decode cX11_auction 32 = .ok (.iload_n 1, 1) := by decide +kernel
theorem dX11_auction_33 : decode cX11_auction 33 = .ok (.aaload, 1) := by decide +kernel
theorem dX11_auction_34 : decode cX11_auction 34 = .ok (.getfield 72, 3) := by decide +kernel
theorem dX11_auction_37 : decode cX11_auction 37 = .ok (.aload_n 0, 1) := by decide +kernel
theorem dX11_auction_38 : decode cX11_auction 38 = .ok (.getfield 19, 3) := by decide +kernel
theorem dX11_auction_41 : decode cX11_auction 41 = .ok (.getfield 105, 3) := by decide +kernel
theorem dX11_auction_44 : decode cX11_auction 44 = .ok (.iload_n 2, 1) := by decide +kernel
theorem dX11_auction_45 : decode cX11_auction 45 = .ok (.iload_n 3, 1) := by decide +kernel
theorem dX11_auction_46 : decode cX11_auction 46 = .ok (.iload 5, 2) := by decide +kernel
theorem dX11_auction_48 : decode cX11_auction 48 = .ok (.invokespecial 274, 3) := by decide +kernel
theorem dX11_auction_51 : decode cX11_auction 51 = .ok (.astore 6, 2) := by decide +kernel
theorem dX11_auction_53 : decode cX11_auction 53 = .ok (.aload 6, 2) := by decide +kernel
theorem dX11_auction_55 : decode cX11_auction 55 = .ok (.invokevirtual 277, 3) := by decide +kernel
theorem dX11_auction_58 : decode cX11_auction 58 = .ok (.aload 6, 2) := by decide +kernel
theorem dX11_auction_60 : decode cX11_auction 60 = .ok (.iload 4, 2) := by decide +kernel
theorem dX11_auction_62 : decode cX11_auction 62 = .ok (.invokevirtual 280, 3) := by decide +kernel
theorem dX11_auction_65 : decode cX11_auction 65 = .ok (.aload 6, 2) := by decide +kernel
theorem dX11_auction_67 : decode cX11_auction 67 = .ok (.getfield 283, 3) := by decide +kernel
theorem dX11_auction_70 : decode cX11_auction 70 = .ok (.iconst (-1), 1) := by decide +kernel
theorem dX11_auction_71 : decode cX11_auction 71 = .ok (.if_icmp .ne 11, 3) := by decide +kernel
theorem dX11_auction_74 : decode cX11_auction 74 = .ok (.aload_n 0, 1) := by decide +kernel
theorem dX11_auction_75 : decode cX11_auction 75 = .ok (.bipush 9, 2) := by decide +kernel
theorem dX11_auction_77 : decode cX11_auction 77 = .ok (.putfield 41, 3) := by decide +kernel
theorem dX11_auction_80 : decode cX11_auction 80 = .ok (.iconst (-1), 1) := by decide +kernel
theorem dX11_auction_81 : decode cX11_auction 81 = .ok (.ireturn, 1) := by decide +kernel
theorem dX11_auction_82 : decode cX11_auction 82 = .ok (.aload_n 0, 1) := by decide +kernel
theorem dX11_auction_83 : decode cX11_auction 83 = .ok (.aload 6, 2) := by decide +kernel
theorem dX11_auction_85 : decode cX11_auction 85 = .ok (.putfield 37, 3) := by decide +kernel
theorem dX11_auction_88 : decode cX11_auction 88 = .ok (.aload 6, 2) := by decide +kernel
theorem dX11_auction_90 : decode cX11_auction 90 = .ok (.getfield 283, 3) := by decide +kernel
theorem dX11_auction_93 : decode cX11_auction 93 = .ok (.ireturn, 1) := by decide +kernel
set_option maxRecDepth 20000 in
theorem ggX11_statusOfAuction_X11_isTray : GoodIn wsX11_statusOfAuction wsX11_isTray := goodIn_r _ [11] (by decide +kernel) (by decide +kernel)
set_option maxRecDepth 20000 in
theorem gX11_statusOfAuction_X11_isTray : GoodIn wsX11_statusOfAuction (va_wsS RX11 60 yX11_isTray wsX11_isTray) := goodIn_app (goodIn_of _ (by decide +kernel)) ggX11_statusOfAuction_X11_isTray
set_option maxRecDepth 20000 in
theorem ggX11_statusOfAuction_X11_isEditor : GoodIn wsX11_statusOfAuction wsX11_isEditor := goodIn_r _ [15, 6, 7, 22, 23, 24, 25, 26, 27, 28, 29, 34, 35, 36, 37, 38, 39, 40] (by decide +kernel) (by decide +kernel)
set_option maxRecDepth 20000 in
theorem gX11_statusOfAuction_X11_isEditor : GoodIn wsX11_statusOfAuction (wsV RX11 122 RX11 yX11_isEditor wsX11_isEditor) := goodIn_app (goodIn_of _ (by decide +kernel)) ggX11_statusOfAuction_X11_isEditor
set_option maxRecDepth 20000 in
theorem ggX11_statusOfAuction_X11_areLimits : GoodIn wsX11_statusOfAuction wsX11_areLimits := goodIn_r _ [19, 6, 7, 20, 21, 22, 23, 24, 25, 26, 27, 28, 29, 34, 35, 36, 37, 38, 39, 40, 30, 31, 32, 33] (by decide +kernel) (by decide +kernel)
set_option maxRecDepth 20000 in
theorem gX11_statusOfAuction_X11_areLimits : GoodIn wsX11_statusOfAuction (wsV RX11 289 RX11 yX11_areLimits wsX11_areLimits) := goodIn_app (goodIn_of _ (by decide +kernel)) ggX11_statusOfAuction_X11_areLimits
theorem dX11_statusOfAuction_0 : decode cX11_statusOfAuction 0 = .ok (.iload_n 1, 1) := by decide +kernel
theorem dX11_statusOfAuction_1 : decode cX11_statusOfAuction 1 = .ok (.invokestatic 60, 3) := by decide +kernel
theorem dX11_statusOfAuction_4 : decode cX11_statusOfAuction 4 = .ok (.ifCond .eq 16, 3) := by decide +kernel
theorem dX11_statusOfAuction_7 : decode cX11_statusOfAuction 7 = .ok (.iload_n 3, 1) := by decide +kernel
theorem dX11_statusOfAuction_8 : decode cX11_statusOfAuction 8 = .ok (.iconst (-1), 1) := by decide +kernel
theorem dX11_statusOfAuction_9 : decode cX11_statusOfAuction 9 = .ok (.if_icmp .eq 13, 3) := by decide +kernel
theorem dX11_statusOfAuction_12 : decode cX11_statusOfAuction 12 = .ok (.aload_n 0, 1) := by decide +kernel
theorem dX11_statusOfAuction_13 : decode cX11_statusOfAuction 13 = .ok (.iload_n 3, 1) := by decide +kernel
theorem dX11_statusOfAuction_14 : decode cX11_statusOfAuction 14 = .ok (.invokevirtual 122, 3) := by decide +kernel
theorem dX11_statusOfAuction_17 : decode cX11_statusOfAuction 17 = .ok (.ifCond .ne 5, 3) := by decide +kernel
theorem dX11_statusOfAuction_20 : decode cX11_statusOfAuction 20 = .ok (.iconst 1, 1) := by decide +kernel
theorem dX11_statusOfAuction_21 : decode cX11_statusOfAuction 21 = .ok (.ireturn, 1) := by decide +kernel
theorem dX11_statusOfAuction_22 : decode cX11_statusOfAuction 22 = .ok (.iload_n 2, 1) := by decide +kernel
theorem dX11_statusOfAuction_23 : decode cX11_statusOfAuction 23 = .ok (.ifCond .lt 21, 3) := by decide +kernel
theorem dX11_statusOfAuction_26 : decode cX11_statusOfAuction 26 = .ok (.iload_n 2, 1) := by decide +kernel
theorem dX11_statusOfAuction_27 : decode cX11_statusOfAuction 27 = .ok (.ldc 241, 2) := by decide +kernel
theorem dX11_statusOfAuction_29 : decode cX11_statusOfAuction 29 = .ok (.if_icmp .gt 15, 3) := by decide +kernel
theorem dX11_statusOfAuction_32 : decode cX11_statusOfAuction 32 = .ok (.iload 4, 2) := by decide +kernel
theorem dX11_statusOfAuction_34 : decode cX11_statusOfAuction 34 = .ok (.ifCond .lt 10, 3) := by decide +kernel
theorem dX11_statusOfAuction_37 : decode cX11_statusOfAuction 37 = .ok (.iload 4, 2) := by decide +kernel
theorem dX11_statusOfAuction_39 : decode cX11_statusOfAuction 39 = .ok (.bipush 50, 2) := by decide +kernel
theorem dX11_statusOfAuction_41 : decode cX11_statusOfAuction 41 = .ok (.if_icmp .le 5, 3) := by decide +kernel
theorem dX11_statusOfAuction_44 : decode cX11_statusOfAuction 44 = .ok (.iconst 2, 1) := by decide +kernel
theorem dX11_statusOfAuction_45 : decode cX11_statusOfAuction 45 = .ok (.ireturn, 1) := by decide +kernel
theorem dX11_statusOfAuction_46 : decode cX11_statusOfAuction 46 = .ok (.iload 5, 2) := by decide +kernel
theorem dX11_statusOfAuction_48 : decode cX11_statusOfAuction 48 = .ok (.iconst 1, 1) := by decide +kernel
theorem dX11_statusOfAuction_49 : decode cX11_statusOfAuction 49 = .ok (.if_icmp .lt 32, 3) := by decide +kernel
theorem dX11_statusOfAuction_52 : decode cX11_statusOfAuction 52 = .ok (.iload 5, 2) := by decide +kernel
theorem dX11_statusOfAuction_54 : decode cX11_statusOfAuction 54 = .ok (.ldc 221, 2) := by decide +kernel
theorem dX11_statusOfAuction_56 : decode cX11_statusOfAuction 56 = .ok (.if_icmp .gt 25, 3) := by decide +kernel
theorem dX11_statusOfAuction_59 : decode cX11_statusOfAuction 59 = .ok (.iload_n 2, 1) := by decide +kernel
theorem dX11_statusOfAuction_60 : decode cX11_statusOfAuction 60 = .ok (.ifCond .ne 7, 3) := by decide +kernel
theorem dX11_statusOfAuction_63 : decode cX11_statusOfAuction 63 = .ok (.iconst 1, 1) := by decide +kernel
theorem dX11_statusOfAuction_64 : decode cX11_statusOfAuction 64 = .ok (.goto 4, 3) := by decide +kernel
theorem dX11_statusOfAuction_67 : decode cX11_statusOfAuction 67 = .ok (.iconst 0, 1) := by decide +kernel
theorem dX11_statusOfAuction_68 : decode cX11_statusOfAuction 68 = .ok (.iload_n 3, 1) := by decide +kernel
theorem dX11_statusOfAuction_69 : decode cX11_statusOfAuction 69 = .ok (.iconst (-1), 1) := by decide +kernel
theorem dX11_statusOfAuction_70 : decode cX11_statusOfAuction 70 = .ok (.if_icmp .ne 7, 3) := by decide +kernel
theorem dX11_statusOfAuction_73 : decode cX11_statusOfAuction 73 = .ok (.iconst 1, 1) := by decide +kernel
theorem dX11_statusOfAuction_74 : decode cX11_statusOfAuction 74 = .ok (.goto 4, 3) := by decide +kernel
theorem dX11_statusOfAuction_77 : decode cX11_statusOfAuction 77 = .ok (.iconst 0, 1) := by decide +kernel
theorem dX11_statusOfAuction_78 : decode cX11_statusOfAuction 78 = .ok (.if_icmp .eq 5, 3) := by decide +kernel
theorem dX11_statusOfAuction_81 : decode cX11_statusOfAuction 81 = .ok (.iconst 2, 1) := by decide +kernel
theorem dX11_statusOfAuction_82 : decode cX11_statusOfAuction 82 = .ok (.ireturn, 1) := by decide +kernel
theorem dX11_statusOfAuction_83 : decode cX11_statusOfAuction 83 = .ok (.aload_n 0, 1) := by decide +kernel
theorem dX11_statusOfAuction_84 : decode cX11_statusOfAuction 84 = .ok (.getfield 11, 3) := by decide +kernel
theorem dX11_statusOfAuction_87 : decode cX11_statusOfAuction 87 = .ok (.iload_n 1, 1) := by decide +kernel
theorem dX11_statusOfAuction_88 : decode cX11_statusOfAuction 88 = .ok (.aaload, 1) := by decide +kernel
theorem dX11_statusOfAuction_89 : decode cX11_statusOfAuction 89 = .ok (.getfield 78, 3) := by decide +kernel
theorem dX11_statusOfAuction_92 : decode cX11_statusOfAuction 92 = .ok (.ifCond .eq 5, 3) := by decide +kernel
theorem dX11_statusOfAuction_95 : decode cX11_statusOfAuction 95 = .ok (.iconst 4, 1) := by decide +kernel
theorem dX11_statusOfAuction_96 : decode cX11_statusOfAuction 96 = .ok (.ireturn, 1) := by decide +kernel
theorem dX11_statusOfAuction_97 : decode cX11_statusOfAuction 97 = .ok (.aload_n 0, 1) := by decide +kernel
theorem dX11_statusOfAuction_98 : decode cX11_statusOfAuction 98 = .ok (.getfield 11, 3) := by decide +kernel
theorem dX11_statusOfAuction_101 : decode cX11_statusOfAuction 101 = .ok (.iload_n 1, 1) := by decide +kernel
theorem dX11_statusOfAuction_102 : decode cX11_statusOfAuction 102 = .ok (.aaload, 1) := by decide +kernel
theorem dX11_statusOfAuction_103 : decode cX11_statusOfAuction 103 = .ok (.getfield 286, 3) := by decide +kernel
theorem dX11_statusOfAuction_106 : decode cX11_statusOfAuction 106 = .ok (.aload_n 0, 1) := by decide +kernel
theorem dX11_statusOfAuction_107 : decode cX11_statusOfAuction 107 = .ok (.getfield 19, 3) := by decide +kernel
theorem dX11_statusOfAuction_110 : decode cX11_statusOfAuction 110 = .ok (.getfield 105, 3) := by decide +kernel
theorem dX11_statusOfAuction_113 : decode cX11_statusOfAuction 113 = .ok (.if_icmp .ge 5, 3) := by decide +kernel
theorem dX11_statusOfAuction_116 : decode cX11_statusOfAuction 116 = .ok (.iconst 5, 1) := by decide +kernel
theorem dX11_statusOfAuction_117 : decode cX11_statusOfAuction 117 = .ok (.ireturn, 1) := by decide +kernel
theorem dX11_statusOfAuction_118 : decode cX11_statusOfAuction 118 = .ok (.aload_n 0, 1) := by decide +kernel
theorem dX11_statusOfAuction_119 : decode cX11_statusOfAuction 119 = .ok (.aload_n 0, 1) := by decide +kernel
theorem dX11_statusOfAuction_120 : decode cX11_statusOfAuction 120 = .ok (.getfield 11, 3) := by decide +kernel
theorem dX11_statusOfAuction_123 : decode cX11_statusOfAuction 123 = .ok (.iload_n 1, 1) := by decide +kernel
theorem dX11_statusOfAuction_124 : decode cX11_statusOfAuction 124 = .ok (.aaload, 1) := by decide +kernel
theorem dX11_statusOfAuction_125 : decode cX11_statusOfAuction 125 = .ok (.iload_n 2, 1) := by decide +kernel
theorem dX11_statusOfAuction_126 : decode cX11_statusOfAuction 126 = .ok (.iload_n 3, 1) := by decide +kernel
theorem dX11_statusOfAuction_127 : decode cX11_statusOfAuction 127 = .ok (.invokevirtual 289, 3) := by decide +kernel
theorem dX11_statusOfAuction_130 : decode cX11_statusOfAuction 130 = .ok (.ifCond .eq 7, 3) := by decide +kernel
theorem dX11_statusOfAuction_133 : decode cX11_statusOfAuction 133 = .ok (.iconst 0, 1) := by decide +kernel
theorem dX11_statusOfAuction_134 : decode cX11_statusOfAuction 134 = .ok (.goto 4, 3) := by decide +kernel
theorem dX11_statusOfAuction_137 : decode cX11_statusOfAuction 137 = .ok (.iconst 2, 1) := by decide +kernel
theorem dX11_statusOfAuction_138 : decode cX11_statusOfAuction 138 = .ok (.ireturn, 1) := by decide +kernel
theorem dX11_areLimits_0 : decode cX11_areLimits 0 = .ok (.iconst 0, 1) := by decide +kernel
theorem dX11_areLimits_1 : decode cX11_areLimits 1 = .ok (.istore 4, 2) := by decide +kernel
theorem dX11_areLimits_3 : decode cX11_areLimits 3 = .ok (.iload 4, 2) := by decide +kernel
theorem dX11_areLimits_5 : decode cX11_areLimits 5 = .ok (.aload_n 0, 1) := by decide +kernel
theorem dX11_areLimits_6 : decode cX11_areLimits 6 = .ok (.getfield 19, 3) := by decide +kernel
theorem dX11_areLimits_9 : decode cX11_areLimits 9 = .ok (.getfield 105, 3) := by decide +kernel
theorem dX11_areLimits_12 : decode cX11_areLimits 12 = .ok (.if_icmp .ge 51, 3) := by decide +kernel
theorem dX11_areLimits_15 : decode cX11_areLimits 15 = .ok (.aload_n 1, 1) := by decide +kernel
theorem dX11_areLimits_16 : decode cX11_areLimits 16 = .ok (.getfield 72, 3) := by decide +kernel
theorem dX11_areLimits_19 : decode cX11_areLimits 19 = .ok (.iload 4, 2) := by decide +kernel
theorem dX11_areLimits_21 : decode cX11_areLimits 21 = .ok (.laload, 1) := by decide +kernel
theorem dX11_areLimits_22 : decode cX11_areLimits 22 = .ok (.lstore 5, 2) := by decide +kernel
theorem dX11_areLimits_24 : decode cX11_areLimits 24 = .ok (.iload 4, 2) := by decide +kernel
theorem dX11_areLimits_26 : decode cX11_areLimits 26 = .ok (.iload_n 3, 1) := by decide +kernel
theorem dX11_areLimits_27 : decode cX11_areLimits 27 = .ok (.if_icmp .ne 8, 3) := by decide +kernel
theorem dX11_areLimits_30 : decode cX11_areLimits 30 = .ok (.iload_n 2, 1) := by decide +kernel
theorem dX11_areLimits_31 : decode cX11_areLimits 31 = .ok (.i2l, 1) := by decide +kernel
theorem dX11_areLimits_32 : decode cX11_areLimits 32 = .ok (.goto 4, 3) := by decide +kernel
theorem dX11_areLimits_35 : decode cX11_areLimits 35 = .ok (.lconst 0, 1) := by decide +kernel
theorem dX11_areLimits_36 : decode cX11_areLimits 36 = .ok (.lstore 7, 2) := by decide +kernel
theorem dX11_areLimits_38 : decode cX11_areLimits 38 = .ok (.lload 5, 2) := by decide +kernel
theorem dX11_areLimits_40 : decode cX11_areLimits 40 = .ok (.lload 7, 2) := by decide +kernel
theorem dX11_areLimits_42 : decode cX11_areLimits 42 = .ok (.lcmp, 1) := by decide +kernel
theorem dX11_areLimits_43 : decode cX11_areLimits 43 = .ok (.ifCond .lt 12, 3) := by decide +kernel
theorem dX11_areLimits_46 : decode cX11_areLimits 46 = .ok (.lload 5, 2) := by decide +kernel
theorem dX11_areLimits_48 : decode cX11_areLimits 48 = .ok (.ldc2_w 293, 3) := by decide +kernel
theorem dX11_areLimits_51 : decode cX11_areLimits 51 = .ok (.lcmp, 1) := by decide +kernel
theorem dX11_areLimits_52 : decode cX11_areLimits 52 = .ok (.ifCond .le 5, 3) := by decide +kernel
theorem dX11_areLimits_55 : decode cX11_areLimits 55 = .ok (.iconst 0, 1) := by decide +kernel
theorem dX11_areLimits_56 : decode cX11_areLimits 56 = .ok (.ireturn, 1) := by decide +kernel
theorem dX11_areLimits_57 : decode cX11_areLimits 57 = .ok (.iinc 4 1, 3) := by decide +kernel
theorem dX11_areLimits_60 : decode cX11_areLimits 60 = .ok (.goto (-57), 3) := by decide +kernel
theorem dX11_areLimits_63 : decode cX11_areLimits 63 = .ok (.iconst 1, 1) := by decide +kernel
theorem dX11_areLimits_64 : decode cX11_areLimits 64 = .ok (.ireturn, 1) := by decide +kernel
theorem dX11_sold_0 : decode cX11_sold 0 = .ok (.iload_n 1, 1) := by decide +kernel
theorem dX11_sold_1 : decode cX11_sold 1 = .ok (.ifCond .lt 8, 3) := by decide +kernel
theorem dX11_sold_4 : decode cX11_sold 4 = .ok (.iload_n 1, 1) := by decide +kernel
theorem dX11_sold_5 : decode cX11_sold 5 = .ok (.iconst 2, 1) := by decide +kernel
theorem dX11_sold_6 : decode cX11_sold 6 = .ok (.if_icmp .le 10, 3) := by decide +kernel
theorem dX11_sold_9 : decode cX11_sold 9 = .ok (.aload_n 0, 1) := by decide +kernel
theorem dX11_sold_10 : decode cX11_sold 10 = .ok (.iconst 2, 1) := by decide +kernel
theorem dX11_sold_11 : decode cX11_sold 11 = .ok (.putfield 41, 3) := by decide +kernel
theorem dX11_sold_14 : decode cX11_sold 14 = .ok (.iconst (-1), 1) := by decide +kernel
theorem dX11_sold_15 : decode cX11_sold 15 = .ok (.ireturn, 1) := by decide +kernel
theorem dX11_sold_16 : decode cX11_sold 16 = .ok (.aload_n 0, 1) := by decide +kernel
theorem dX11_sold_17 : decode cX11_sold 17 = .ok (.getfield 37, 3) := by decide +kernel
theorem dX11_sold_20 : decode cX11_sold 20 = .ok (.ifnonnull 11, 3) := by decide +kernel
theorem dX11_sold_23 : decode cX11_sold 23 = .ok (.aload_n 0, 1) := by decide +kernel
theorem dX11_sold_24 : decode cX11_sold 24 = .ok (.bipush 9, 2) := by decide +kernel
theorem dX11_sold_26 : decode cX11_sold 26 = .ok (.putfield 41, 3) := by decide +kernel
theorem dX11_sold_29 : decode cX11_sold 29 = .ok (.iconst (-1), 1) := by decide +kernel
theorem dX11_sold_30 : decode cX11_sold 30 = .ok (.ireturn, 1) := by decide +kernel
theorem dX11_sold_31 : decode cX11_sold 31 = .ok (.aload_n 0, 1) := by decide +kernel
theorem dX11_sold_32 : decode cX11_sold 32 = .ok (.iconst 0, 1) := by decide +kernel
theorem dX11_sold_33 : decode cX11_sold 33 = .ok (.putfield 41, 3) := by decide +kernel
theorem dX11_sold_36 : decode cX11_sold 36 = .ok (.iload_n 1, 1) := by decide +kernel
theorem dX11_sold_37 : decode cX11_sold 37 = .ok (.ifCond .ne 11, 3) := by decide +kernel
theorem dX11_sold_40 : decode cX11_sold 40 = .ok (.aload_n 0, 1) := by decide +kernel
theorem dX11_sold_41 : decode cX11_sold 41 = .ok (.getfield 37, 3) := by decide +kernel
theorem dX11_sold_44 : decode cX11_sold 44 = .ok (.getfield 295, 3) := by decide +kernel
theorem dX11_sold_47 : decode cX11_sold 47 = .ok (.ireturn, 1) := by decide +kernel
theorem dX11_sold_48 : decode cX11_sold 48 = .ok (.iload_n 1, 1) := by decide +kernel
theorem dX11_sold_49 : decode cX11_sold 49 = .ok (.iconst 1, 1) := by decide +kernel
theorem dX11_sold_50 : decode cX11_sold 50 = .ok (.if_icmp .ne 11, 3) := by decide +kernel
theorem dX11_sold_53 : decode cX11_sold 53 = .ok (.aload_n 0, 1) := by decide +kernel
theorem dX11_sold_54 : decode cX11_sold 54 = .ok (.getfield 37, 3) := by decide +kernel
theorem dX11_sold_57 : decode cX11_sold 57 = .ok (.getfield 298, 3) := by decide +kernel
theorem dX11_sold_60 : decode cX11_sold 60 = .ok (.ireturn, 1) := by decide +kernel
theorem dX11_sold_61 : decode cX11_sold 61 = .ok (.aload_n 0, 1) := by decide +kernel
theorem dX11_sold_62 : decode cX11_sold 62 = .ok (.getfield 37, 3) := by decide +kernel
theorem dX11_sold_65 : decode cX11_sold 65 = .ok (.getfield 301, 3) := by decide +kernel
theorem dX11_sold_68 : decode cX11_sold 68 = .ok (.ifCond .eq 7, 3) := by decide +kernel
theorem dX11_sold_71 : decode cX11_sold 71 = .ok (.iconst 1, 1) := by decide +kernel
theorem dX11_sold_72 : decode cX11_sold 72 = .ok (.goto 4, 3) := by decide +kernel
theorem dX11_sold_75 : decode cX11_sold 75 = .ok (.iconst 0, 1) := by decide +kernel
theorem dX11_sold_76 : decode cX11_sold 76 = .ok (.ireturn, 1) := by decide +kernel
set_option maxRecDepth 20000 in
theorem ggX11_offer_X8_init : GoodIn wsX11_offer wsX8_init := goodIn_r _ [12, 13, 14, 15, 16, 17, 18, 19, 20, 138, 139, 140, 141, 142] (by decide +kernel) (by decide +kernel)
set_option maxRecDepth 20000 in
theorem gX11_offer_X8_init : GoodIn wsX11_offer (wsX8_init) := ggX11_offer_X8_init
set_option maxRecDepth 20000 in
theorem ggX11_offer_X11_statusOfOffer : GoodIn wsX11_offer wsX11_statusOfOffer := goodIn_r _ [25, 5, 6, 26, 27, 28, 29, 30, 24, 31, 32, 33, 34, 35, 36, 37, 38, 39, 40, 41, 42, 43, 44, 45, 3, 46, 16, 17, 18, 19, 20, 47, 48, 49, 50, 51, 52, 53, 54, 55, 56, 57, 58, 59, 60, 61, 62, 63, 64, 65, 66, 67, 68, 69, 70, 71, 72, 73, 74, 75, 76, 77, 78, 79, 80, 81, 82, 83, 84, 85, 86, 87, 88, 89, 90, 91, 92, 93, 94, 95, 96, 97, 98, 99, 100, 101, 102, 103, 104, 105, 106, 107, 108, 109, 110, 111, 112, 113, 114, 115, 116, 117, 118, 119, 120, 121, 143, 144, 145, 146, 147, 148, 149, 150, 151, 152, 153, 159, 160, 161, 162, 163, 164, 165, 166, 167, 168, 169, 170, 171, 172, 138, 139, 140, 141, 142, 173, 174, 175, 176, 177, 178, 179, 180, 181] (by decide +kernel) (by decide +kernel)
set_option maxRecDepth 20000 in
theorem gX11_offer_X11_statusOfOffer : GoodIn wsX11_offer (wsV RX11 304 RX11 yX11_statusOfOffer wsX11_statusOfOffer) := goodIn_app (goodIn_of _ (by decide +kernel)) ggX11_offer_X11_statusOfOffer
set_option maxRecDepth 20000 in
theorem ggX11_offer_X5_init : GoodIn wsX11_offer wsX5_init := goodIn_r _ [124, 125, 14, 15, 126, 127, 128, 129, 130, 154, 155, 156, 157, 158] (by decide +kernel) (by decide +kernel)
set_option maxRecDepth 20000 in
theorem gX11_offer_X5_init : GoodIn wsX11_offer (wsX5_init) := ggX11_offer_X5_init
set_option maxRecDepth 20000 in
theorem ggX11_offer_X6_addOffer : GoodIn wsX11_offer wsX6_addOffer := goodIn_r _ [135, 136, 137, 151, 152, 153] (by decide +kernel) (by decide +kernel)
set_option maxRecDepth 20000 in
theorem gX11_offer_X6_addOffer : GoodIn wsX11_offer (wsV RX11 316 RX6 yX6_addOffer wsX6_addOffer) := goodIn_app (goodIn_of _ (by decide +kernel)) ggX11_offer_X6_addOffer
theorem dX11_offer_0 : decode cX11_offer 0 = .ok (.new 180, 3) := by decide +kernel
theorem dX11_offer_3 : decode cX11_offer 3 = .ok (.dup, 1) := by decide +kernel
theorem dX11_offer_4 : decode cX11_offer 4 = .ok (.iload_n 3, 1) := by decide +kernel
theorem dX11_offer_5 : decode cX11_offer 5 = .ok (.iload 4, 2) := by decide +kernel
theorem dX11_offer_7 : decode cX11_offer 7 = .ok (.iload 5, 2) := by decide +kernel
theorem dX11_offer_9 : decode cX11_offer 9 = .ok (.iload 6, 2) := by decide +kernel
theorem dX11_offer_11 : decode cX11_offer 11 = .ok (.iload 7, 2) := by decide +kernel
theorem dX11_offer_13 : decode cX11_offer 13 = .ok (.invokespecial 182, 3) := by decide +kernel
theorem dX11_offer_16 : decode cX11_offer 16 = .ok (.astore 10, 2) := by decide +kernel
theorem dX11_offer_18 : decode cX11_offer 18 = .ok (.aload_n 0, 1) := by decide +kernel
theorem dX11_offer_19 : decode cX11_offer 19 = .ok (.aload_n 0, 1) := by decide +kernel
theorem dX11_offer_20 : decode cX11_offer 20 = .ok (.iload_n 1, 1) := by decide +kernel
theorem dX11_offer_21 : decode cX11_offer 21 = .ok (.iload_n 2, 1) := by decide +kernel
theorem dX11_offer_22 : decode cX11_offer 22 = .ok (.aload 10, 2) := by decide +kernel
theorem dX11_offer_24 : decode cX11_offer 24 = .ok (.iload 8, 2) := by decide +kernel
theorem dX11_offer_26 : decode cX11_offer 26 = .ok (.iload 9, 2) := by decide +kernel
theorem dX11_offer_28 : decode cX11_offer 28 = .ok (.invokevirtual 304, 3) := by decide +kernel
theorem dX11_offer_31 : decode cX11_offer 31 = .ok (.putfield 41, 3) := by decide +kernel
theorem dX11_offer_34 : decode cX11_offer 34 = .ok (.aload_n 0, 1) := by decide +kernel
theorem dX11_offer_35 : decode cX11_offer 35 = .ok (.getfield 41, 3) := by decide +kernel
theorem dX11_offer_38 : decode cX11_offer 38 = .ok (.ifCond .eq 5, 3) := by decide +kernel
theorem dX11_offer_41 : decode cX11_offer 41 = .ok (.iconst (-1), 1) := by decide +kernel
theorem dX11_offer_42 : decode cX11_offer 42 = .ok (.ireturn, 1) := by decide +kernel
theorem dX11_offer_43 : decode cX11_offer 43 = .ok (.aload_n 0, 1) := by decide +kernel
theorem dX11_offer_44 : decode cX11_offer 44 = .ok (.getfield 33, 3) := by decide +kernel
theorem dX11_offer_47 : decode cX11_offer 47 = .ok (.iload 8, 2) := by decide +kernel
theorem dX11_offer_49 : decode cX11_offer 49 = .ok (.putfield 308, 3) := by decide +kernel
theorem dX11_offer_52 : decode cX11_offer 52 = .ok (.aload_n 0, 1) := by decide +kernel
theorem dX11_offer_53 : decode cX11_offer 53 = .ok (.getfield 33, 3) := by decide +kernel
theorem dX11_offer_56 : decode cX11_offer 56 = .ok (.new 311, 3) := by decide +kernel
theorem dX11_offer_59 : decode cX11_offer 59 = .ok (.dup, 1) := by decide +kernel
theorem dX11_offer_60 : decode cX11_offer 60 = .ok (.iload_n 1, 1) := by decide +kernel
theorem dX11_offer_61 : decode cX11_offer 61 = .ok (.iload_n 2, 1) := by decide +kernel
theorem dX11_offer_62 : decode cX11_offer 62 = .ok (.aload 10, 2) := by decide +kernel
theorem dX11_offer_64 : decode cX11_offer 64 = .ok (.iload 9, 2) := by decide +kernel
theorem dX11_offer_66 : decode cX11_offer 66 = .ok (.invokespecial 313, 3) := by decide +kernel
theorem dX11_offer_69 : decode cX11_offer 69 = .ok (.invokevirtual 316, 3) := by decide +kernel
theorem dX11_offer_72 : decode cX11_offer 72 = .ok (.ireturn, 1) := by decide +kernel
set_option maxRecDepth 20000 in
theorem ggX11_statusOfOffer_X11_statusOfMay : GoodIn wsX11_statusOfOffer wsX11_statusOfMay := goodIn_r _ [9, 10, 11, 12, 8, 13, 4, 14, 15, 16, 17, 18, 19, 20, 21, 22, 23, 24, 25, 26, 27, 28, 29, 30, 31, 32, 33, 34, 35, 36, 106, 107, 108, 109, 110, 111, 112, 113, 117, 118, 119, 120, 121, 122, 123, 124, 125, 126, 127, 128, 129, 130, 131, 132, 133, 134, 135] (by decide +kernel) (by decide +kernel)
set_option maxRecDepth 20000 in
theorem gX11_statusOfOffer_X11_statusOfMay : GoodIn wsX11_statusOfOffer (wsV RX11 261 RX11 yX11_statusOfMay wsX11_statusOfMay) := goodIn_app (goodIn_of _ (by decide +kernel)) ggX11_statusOfOffer_X11_statusOfMay
set_option maxRecDepth 20000 in
theorem ggX11_statusOfOffer_X11_isMinute : GoodIn wsX11_statusOfOffer wsX11_isMinute := goodIn_r _ [35, 36] (by decide +kernel) (by decide +kernel)
set_option maxRecDepth 20000 in
theorem gX11_statusOfOffer_X11_isMinute : GoodIn wsX11_statusOfOffer (va_wsS RX11 255 yX11_isMinute wsX11_isMinute) := goodIn_app (goodIn_of _ (by decide +kernel)) ggX11_statusOfOffer_X11_isMinute
set_option maxRecDepth 20000 in
theorem ggX11_statusOfOffer_X2_mayBeOffered : GoodIn wsX11_statusOfOffer wsX2_mayBeOffered := goodIn_r _ [41, 42, 43, 44, 40, 45, 46, 47, 48, 49, 50, 51, 52, 53, 54, 55, 56, 57, 58, 59, 60, 61, 62, 63, 64, 65, 66, 67, 68, 69, 70, 71, 72, 73, 74, 75, 76, 77, 78, 79, 80, 81, 82, 83, 84, 85, 86, 87, 88, 89, 90, 91, 92, 93, 94, 95, 96, 97, 24, 98, 26, 27, 28, 99, 100, 101, 102, 103, 104, 105, 117, 118, 119, 120, 121, 122, 123, 136, 137, 138, 139, 140, 141, 142, 143, 144, 131, 132, 133, 134, 135] (by decide +kernel) (by decide +kernel)
set_option maxRecDepth 20000 in
theorem gX11_statusOfOffer_X2_mayBeOffered : GoodIn wsX11_statusOfOffer (wsV RX11 265 RX2 yX2_mayBeOffered wsX2_mayBeOffered) := goodIn_app (goodIn_of _ (by decide +kernel)) ggX11_statusOfOffer_X2_mayBeOffered
theorem dX11_statusOfOffer_0 : decode cX11_statusOfOffer 0 = .ok (.aload_n 0, 1) := by decide +kernel
theorem dX11_statusOfOffer_1 : decode cX11_statusOfOffer 1 = .ok (.iload_n 1, 1) := by decide +kernel
theorem dX11_statusOfOffer_2 : decode cX11_statusOfOffer 2 = .ok (.iload_n 2, 1) := by decide +kernel
theorem dX11_statusOfOffer_3 : decode cX11_statusOfOffer 3 = .ok (.aload_n 3, 1) := by decide +kernel
theorem dX11_statusOfOffer_4 : decode cX11_statusOfOffer 4 = .ok (.iload 4, 2) := by decide +kernel
theorem dX11_statusOfOffer_6 : decode cX11_statusOfOffer 6 = .ok (.invokevirtual 261, 3) := by decide +kernel
theorem dX11_statusOfOffer_9 : decode cX11_statusOfOffer 9 = .ok (.istore 6, 2) := by decide +kernel
theorem dX11_statusOfOffer_11 : decode cX11_statusOfOffer 11 = .ok (.iload 6, 2) := by decide +kernel
theorem dX11_statusOfOffer_13 : decode cX11_statusOfOffer 13 = .ok (.ifCond .eq 6, 3) := by decide +kernel
theorem dX11_statusOfOffer_16 : decode cX11_statusOfOffer 16 = .ok (.iload 6, 2) := by decide +kernel
theorem dX11_statusOfOffer_18 : decode cX11_statusOfOffer 18 = .ok (.ireturn, 1) := by decide +kernel
theorem dX11_statusOfOffer_19 : decode cX11_statusOfOffer 19 = .ok (.iload 5, 2) := by decide +kernel
theorem dX11_statusOfOffer_21 : decode cX11_statusOfOffer 21 = .ok (.invokestatic 255, 3) := by decide +kernel
theorem dX11_statusOfOffer_24 : decode cX11_statusOfOffer 24 = .ok (.ifCond .eq 10, 3) := by decide +kernel
theorem dX11_statusOfOffer_27 : decode cX11_statusOfOffer 27 = .ok (.iload 5, 2) := by decide +kernel
theorem dX11_statusOfOffer_29 : decode cX11_statusOfOffer 29 = .ok (.iload 4, 2) := by decide +kernel
theorem dX11_statusOfOffer_31 : decode cX11_statusOfOffer 31 = .ok (.if_icmp .gt 5, 3) := by decide +kernel
theorem dX11_statusOfOffer_34 : decode cX11_statusOfOffer 34 = .ok (.iconst 2, 1) := by decide +kernel
theorem dX11_statusOfOffer_35 : decode cX11_statusOfOffer 35 = .ok (.ireturn, 1) := by decide +kernel
theorem dX11_statusOfOffer_36 : decode cX11_statusOfOffer 36 = .ok (.iload 4, 2) := by decide +kernel
theorem dX11_statusOfOffer_38 : decode cX11_statusOfOffer 38 = .ok (.aload_n 0, 1) := by decide +kernel
theorem dX11_statusOfOffer_39 : decode cX11_statusOfOffer 39 = .ok (.getfield 33, 3) := by decide +kernel
theorem dX11_statusOfOffer_42 : decode cX11_statusOfOffer 42 = .ok (.getfield 308, 3) := by decide +kernel
theorem dX11_statusOfOffer_45 : decode cX11_statusOfOffer 45 = .ok (.if_icmp .ge 5, 3) := by decide +kernel
theorem dX11_statusOfOffer_48 : decode cX11_statusOfOffer 48 = .ok (.iconst 3, 1) := by decide +kernel
theorem dX11_statusOfOffer_49 : decode cX11_statusOfOffer 49 = .ok (.ireturn, 1) := by decide +kernel
theorem dX11_statusOfOffer_50 : decode cX11_statusOfOffer 50 = .ok (.aload_n 0, 1) := by decide +kernel
theorem dX11_statusOfOffer_51 : decode cX11_statusOfOffer 51 = .ok (.getfield 33, 3) := by decide +kernel
theorem dX11_statusOfOffer_54 : decode cX11_statusOfOffer 54 = .ok (.getfield 320, 3) := by decide +kernel
theorem dX11_statusOfOffer_57 : decode cX11_statusOfOffer 57 = .ok (.bipush 60, 2) := by decide +kernel
theorem dX11_statusOfOffer_59 : decode cX11_statusOfOffer 59 = .ok (.if_icmp .lt 6, 3) := by decide +kernel
theorem dX11_statusOfOffer_62 : decode cX11_statusOfOffer 62 = .ok (.bipush 7, 2) := by decide +kernel
theorem dX11_statusOfOffer_64 : decode cX11_statusOfOffer 64 = .ok (.ireturn, 1) := by decide +kernel
theorem dX11_statusOfOffer_65 : decode cX11_statusOfOffer 65 = .ok (.aload_n 0, 1) := by decide +kernel
theorem dX11_statusOfOffer_66 : decode cX11_statusOfOffer 66 = .ok (.getfield 26, 3) := by decide +kernel
theorem dX11_statusOfOffer_69 : decode cX11_statusOfOffer 69 = .ok (.iload_n 1, 1) := by decide +kernel
theorem dX11_statusOfOffer_70 : decode cX11_statusOfOffer 70 = .ok (.iload_n 2, 1) := by decide +kernel
theorem dX11_statusOfOffer_71 : decode cX11_statusOfOffer 71 = .ok (.aload_n 3, 1) := by decide +kernel
theorem dX11_statusOfOffer_72 : decode cX11_statusOfOffer 72 = .ok (.iload 4, 2) := by decide +kernel
theorem dX11_statusOfOffer_74 : decode cX11_statusOfOffer 74 = .ok (.invokevirtual 265, 3) := by decide +kernel
theorem dX11_statusOfOffer_77 : decode cX11_statusOfOffer 77 = .ok (.ifCond .eq 7, 3) := by decide +kernel
theorem dX11_statusOfOffer_80 : decode cX11_statusOfOffer 80 = .ok (.iconst 0, 1) := by decide +kernel
theorem dX11_statusOfOffer_81 : decode cX11_statusOfOffer 81 = .ok (.goto 5, 3) := by decide +kernel
theorem dX11_statusOfOffer_84 : decode cX11_statusOfOffer 84 = .ok (.bipush 12, 2) := by decide +kernel
theorem dX11_statusOfOffer_86 : decode cX11_statusOfOffer 86 = .ok (.ireturn, 1) := by decide +kernel
set_option maxRecDepth 20000 in
theorem ggX11_take_X11_statusOfTake : GoodIn wsX11_take wsX11_statusOfTake := goodIn_r _ [14, 2, 3, 4, 15, 5, 6, 7, 16, 17, 18, 13, 19, 20, 9, 21, 22, 23, 24, 25, 26, 27, 28, 29, 30, 31, 32, 33, 34, 35, 36, 37, 38, 39, 40, 41, 42, 43, 44, 45, 46, 47, 48, 49, 50, 51, 52, 53, 54, 55, 56, 57, 58, 59, 60, 61, 62, 63, 64, 65, 66, 67, 68, 69, 70, 71, 72, 73, 74, 75, 76, 77, 78, 79, 80, 81, 82, 83, 84, 85, 86, 87, 88, 89, 90, 91, 92, 93, 94, 95, 96, 97, 98, 99, 100, 101, 102, 103, 104, 132, 133, 134, 135, 136, 137, 138, 139, 140, 141, 142, 148, 149, 150, 151, 152, 153, 154, 143, 144, 145, 146, 147, 155, 156, 157, 158, 159, 160, 161, 162, 163, 164, 165, 166, 167, 168] (by decide +kernel) (by decide +kernel)
set_option maxRecDepth 20000 in
theorem gX11_take_X11_statusOfTake : GoodIn wsX11_take (wsV RX11 321 RX11 yX11_statusOfTake wsX11_statusOfTake) := goodIn_app (goodIn_of _ (by decide +kernel)) ggX11_take_X11_statusOfTake
set_option maxRecDepth 20000 in
theorem ggX11_take_X2_addGrant : GoodIn wsX11_take wsX2_addGrant := goodIn_r _ [108, 71, 70, 109, 110, 76, 111, 112, 113, 114, 115, 116, 117, 89, 118, 78, 85, 84, 148, 149, 150, 151, 152, 153, 154, 159, 160, 161, 162, 163, 164, 165, 166, 167, 168] (by decide +kernel) (by decide +kernel)
set_option maxRecDepth 20000 in
theorem gX11_take_X2_addGrant : GoodIn wsX11_take (wsV RX11 189 RX2 yX2_addGrant wsX2_addGrant) := goodIn_app (goodIn_of _ (by decide +kernel)) ggX11_take_X2_addGrant
set_option maxRecDepth 20000 in
theorem ggX11_take_X6_voidClashing : GoodIn wsX11_take wsX6_voidClashing := goodIn_r _ [123, 124, 125, 126, 127, 128, 129, 130, 26, 27, 28, 29, 30, 31, 131, 63, 64, 35, 65, 66, 67, 68, 69, 70, 71, 72, 73, 74, 75, 76, 77, 78, 79, 80, 81, 82, 83, 84, 85, 86, 87, 88, 89, 90, 91, 92, 93, 94, 95, 96, 97, 98, 99, 100, 101, 102, 103, 104, 140, 141, 142, 143, 144, 145, 146, 147, 148, 149, 150, 151, 152, 153, 154, 159, 160, 161, 162, 163, 164, 165, 166, 167, 168] (by decide +kernel) (by decide +kernel)
set_option maxRecDepth 20000 in
theorem gX11_take_X6_voidClashing : GoodIn wsX11_take (wsV RX11 341 RX6 yX6_voidClashing wsX6_voidClashing) := goodIn_app (goodIn_of _ (by decide +kernel)) ggX11_take_X6_voidClashing
theorem dX11_take_0 : decode cX11_take 0 = .ok (.aload_n 0, 1) := by decide +kernel
theorem dX11_take_1 : decode cX11_take 1 = .ok (.aload_n 0, 1) := by decide +kernel
theorem dX11_take_2 : decode cX11_take 2 = .ok (.iload_n 1, 1) := by decide +kernel
theorem dX11_take_3 : decode cX11_take 3 = .ok (.iload_n 2, 1) := by decide +kernel
theorem dX11_take_4 : decode cX11_take 4 = .ok (.invokevirtual 321, 3) := by decide +kernel
theorem dX11_take_7 : decode cX11_take 7 = .ok (.putfield 41, 3) := by decide +kernel
theorem dX11_take_10 : decode cX11_take 10 = .ok (.aload_n 0, 1) := by decide +kernel
theorem dX11_take_11 : decode cX11_take 11 = .ok (.getfield 41, 3) := by decide +kernel
theorem dX11_take_14 : decode cX11_take 14 = .ok (.ifCond .eq 5, 3) := by decide +kernel
theorem dX11_take_17 : decode cX11_take 17 = .ok (.iconst (-1), 1) := by decide +kernel
theorem dX11_take_18 : decode cX11_take 18 = .ok (.ireturn, 1) := by decide +kernel
theorem dX11_take_19 : decode cX11_take 19 = .ok (.aload_n 0, 1) := by decide +kernel
theorem dX11_take_20 : decode cX11_take 20 = .ok (.getfield 33, 3) := by decide +kernel
theorem dX11_take_23 : decode cX11_take 23 = .ok (.getfield 324, 3) := by decide +kernel
theorem dX11_take_26 : decode cX11_take 26 = .ok (.iload_n 1, 1) := by decide +kernel
theorem dX11_take_27 : decode cX11_take 27 = .ok (.aaload, 1) := by decide +kernel
theorem dX11_take_28 : decode cX11_take 28 = .ok (.astore_n 3, 1) := by decide +kernel
theorem dX11_take_29 : decode cX11_take 29 = .ok (.aload_n 0, 1) := by decide +kernel
theorem dX11_take_30 : decode cX11_take 30 = .ok (.getfield 26, 3) := by decide +kernel
theorem dX11_take_33 : decode cX11_take 33 = .ok (.aload_n 3, 1) := by decide +kernel
theorem dX11_take_34 : decode cX11_take 34 = .ok (.getfield 328, 3) := by decide +kernel
theorem dX11_take_37 : decode cX11_take 37 = .ok (.aload_n 3, 1) := by decide +kernel
theorem dX11_take_38 : decode cX11_take 38 = .ok (.getfield 331, 3) := by decide +kernel
theorem dX11_take_41 : decode cX11_take 41 = .ok (.aload_n 3, 1) := by decide +kernel
theorem dX11_take_42 : decode cX11_take 42 = .ok (.getfield 334, 3) := by decide +kernel
theorem dX11_take_45 : decode cX11_take 45 = .ok (.invokevirtual 189, 3) := by decide +kernel
theorem dX11_take_48 : decode cX11_take 48 = .ok (.istore 4, 2) := by decide +kernel
theorem dX11_take_50 : decode cX11_take 50 = .ok (.aload_n 3, 1) := by decide +kernel
theorem dX11_take_51 : decode cX11_take 51 = .ok (.iconst 1, 1) := by decide +kernel
theorem dX11_take_52 : decode cX11_take 52 = .ok (.putfield 338, 3) := by decide +kernel
theorem dX11_take_55 : decode cX11_take 55 = .ok (.aload_n 0, 1) := by decide +kernel
theorem dX11_take_56 : decode cX11_take 56 = .ok (.getfield 33, 3) := by decide +kernel
theorem dX11_take_59 : decode cX11_take 59 = .ok (.iload_n 2, 1) := by decide +kernel
theorem dX11_take_60 : decode cX11_take 60 = .ok (.putfield 308, 3) := by decide +kernel
theorem dX11_take_63 : decode cX11_take 63 = .ok (.aload_n 0, 1) := by decide +kernel
theorem dX11_take_64 : decode cX11_take 64 = .ok (.getfield 33, 3) := by decide +kernel
theorem dX11_take_67 : decode cX11_take 67 = .ok (.aload_n 0, 1) := by decide +kernel
theorem dX11_take_68 : decode cX11_take 68 = .ok (.getfield 26, 3) := by decide +kernel
theorem dX11_take_71 : decode cX11_take 71 = .ok (.aload_n 3, 1) := by decide +kernel
theorem dX11_take_72 : decode cX11_take 72 = .ok (.getfield 328, 3) := by decide +kernel
theorem dX11_take_75 : decode cX11_take 75 = .ok (.invokevirtual 341, 3) := by decide +kernel
theorem dX11_take_78 : decode cX11_take 78 = .ok (.iload 4, 2) := by decide +kernel
theorem dX11_take_80 : decode cX11_take 80 = .ok (.ireturn, 1) := by decide +kernel
set_option maxRecDepth 20000 in
theorem ggX11_statusOfTake_X11_statusOfAsking : GoodIn wsX11_statusOfTake wsX11_statusOfAsking := goodIn_r _ [12, 1, 13, 14, 15, 16, 11, 17, 18, 99, 100, 101, 102, 103, 104, 105, 106, 107, 108, 109] (by decide +kernel) (by decide +kernel)
set_option maxRecDepth 20000 in
theorem gX11_statusOfTake_X11_statusOfAsking : GoodIn wsX11_statusOfTake (wsV RX11 345 RX11 yX11_statusOfAsking wsX11_statusOfAsking) := goodIn_app (goodIn_of _ (by decide +kernel)) ggX11_statusOfTake_X11_statusOfAsking
set_option maxRecDepth 20000 in
theorem ggX11_statusOfTake_X5_markAt : GoodIn wsX11_statusOfTake wsX5_markAt := goodIn_r _ [23, 24, 25, 117, 118, 119, 120, 121] (by decide +kernel) (by decide +kernel)
set_option maxRecDepth 20000 in
theorem gX11_statusOfTake_X5_markAt : GoodIn wsX11_statusOfTake (wsV RX11 348 RX5 yX5_markAt wsX5_markAt) := goodIn_app (goodIn_of _ (by decide +kernel)) ggX11_statusOfTake_X5_markAt
set_option maxRecDepth 20000 in
theorem ggX11_statusOfTake_X2_mayBeOffered : GoodIn wsX11_statusOfTake wsX2_mayBeOffered := goodIn_r _ [30, 31, 32, 33, 29, 34, 35, 36, 37, 38, 39, 40, 41, 42, 43, 44, 45, 46, 47, 48, 49, 50, 51, 52, 53, 54, 55, 56, 57, 58, 59, 60, 61, 62, 63, 64, 65, 66, 67, 68, 69, 70, 71, 72, 73, 74, 75, 76, 77, 78, 79, 80, 81, 82, 83, 84, 85, 86, 87, 88, 89, 90, 91, 92, 93, 94, 95, 96, 97, 98, 110, 111, 112, 113, 114, 115, 116, 122, 123, 124, 125, 126, 127, 128, 129, 130, 131, 132, 133, 134, 135] (by decide +kernel) (by decide +kernel)
set_option maxRecDepth 20000 in
theorem gX11_statusOfTake_X2_mayBeOffered : GoodIn wsX11_statusOfTake (wsV RX11 265 RX2 yX2_mayBeOffered wsX2_mayBeOffered) := goodIn_app (goodIn_of _ (by decide +kernel)) ggX11_statusOfTake_X2_mayBeOffered
theorem dX11_statusOfTake_0 : decode cX11_statusOfTake 0 = .ok (.aload_n 0, 1) := by decide +kernel
theorem dX11_statusOfTake_1 : decode cX11_statusOfTake 1 = .ok (.iload_n 1, 1) := by decide +kernel
theorem dX11_statusOfTake_2 : decode cX11_statusOfTake 2 = .ok (.iload_n 2, 1) := by decide +kernel
theorem dX11_statusOfTake_3 : decode cX11_statusOfTake 3 = .ok (.invokevirtual 345, 3) := by decide +kernel
theorem dX11_statusOfTake_6 : decode cX11_statusOfTake 6 = .ok (.istore_n 3, 1) := by decide +kernel
theorem dX11_statusOfTake_7 : decode cX11_statusOfTake 7 = .ok (.iload_n 3, 1) := by decide +kernel
theorem dX11_statusOfTake_8 : decode cX11_statusOfTake 8 = .ok (.ifCond .eq 5, 3) := by decide +kernel
theorem dX11_statusOfTake_11 : decode cX11_statusOfTake 11 = .ok (.iload_n 3, 1) := by decide +kernel
theorem dX11_statusOfTake_12 : decode cX11_statusOfTake 12 = .ok (.ireturn, 1) := by decide +kernel
theorem dX11_statusOfTake_13 : decode cX11_statusOfTake 13 = .ok (.aload_n 0, 1) := by decide +kernel
theorem dX11_statusOfTake_14 : decode cX11_statusOfTake 14 = .ok (.getfield 33, 3) := by decide +kernel
theorem dX11_statusOfTake_17 : decode cX11_statusOfTake 17 = .ok (.getfield 324, 3) := by decide +kernel
theorem dX11_statusOfTake_20 : decode cX11_statusOfTake 20 = .ok (.iload_n 1, 1) := by decide +kernel
theorem dX11_statusOfTake_21 : decode cX11_statusOfTake 21 = .ok (.aaload, 1) := by decide +kernel
theorem dX11_statusOfTake_22 : decode cX11_statusOfTake 22 = .ok (.astore 4, 2) := by decide +kernel
theorem dX11_statusOfTake_24 : decode cX11_statusOfTake 24 = .ok (.aload 4, 2) := by decide +kernel
theorem dX11_statusOfTake_26 : decode cX11_statusOfTake 26 = .ok (.iload_n 2, 1) := by decide +kernel
theorem dX11_statusOfTake_27 : decode cX11_statusOfTake 27 = .ok (.invokevirtual 348, 3) := by decide +kernel
theorem dX11_statusOfTake_30 : decode cX11_statusOfTake 30 = .ok (.ifCond .eq 6, 3) := by decide +kernel
theorem dX11_statusOfTake_33 : decode cX11_statusOfTake 33 = .ok (.bipush 13, 2) := by decide +kernel
theorem dX11_statusOfTake_35 : decode cX11_statusOfTake 35 = .ok (.ireturn, 1) := by decide +kernel
theorem dX11_statusOfTake_36 : decode cX11_statusOfTake 36 = .ok (.aload_n 0, 1) := by decide +kernel
theorem dX11_statusOfTake_37 : decode cX11_statusOfTake 37 = .ok (.getfield 26, 3) := by decide +kernel
theorem dX11_statusOfTake_40 : decode cX11_statusOfTake 40 = .ok (.getfield 196, 3) := by decide +kernel
theorem dX11_statusOfTake_43 : decode cX11_statusOfTake 43 = .ok (.bipush 60, 2) := by decide +kernel
theorem dX11_statusOfTake_45 : decode cX11_statusOfTake 45 = .ok (.if_icmp .lt 6, 3) := by decide +kernel
theorem dX11_statusOfTake_48 : decode cX11_statusOfTake 48 = .ok (.bipush 7, 2) := by decide +kernel
theorem dX11_statusOfTake_50 : decode cX11_statusOfTake 50 = .ok (.ireturn, 1) := by decide +kernel
theorem dX11_statusOfTake_51 : decode cX11_statusOfTake 51 = .ok (.aload_n 0, 1) := by decide +kernel
theorem dX11_statusOfTake_52 : decode cX11_statusOfTake 52 = .ok (.getfield 26, 3) := by decide +kernel
theorem dX11_statusOfTake_55 : decode cX11_statusOfTake 55 = .ok (.aload 4, 2) := by decide +kernel
theorem dX11_statusOfTake_57 : decode cX11_statusOfTake 57 = .ok (.getfield 328, 3) := by decide +kernel
theorem dX11_statusOfTake_60 : decode cX11_statusOfTake 60 = .ok (.aload 4, 2) := by decide +kernel
theorem dX11_statusOfTake_62 : decode cX11_statusOfTake 62 = .ok (.getfield 331, 3) := by decide +kernel
theorem dX11_statusOfTake_65 : decode cX11_statusOfTake 65 = .ok (.aload 4, 2) := by decide +kernel
theorem dX11_statusOfTake_67 : decode cX11_statusOfTake 67 = .ok (.getfield 334, 3) := by decide +kernel
theorem dX11_statusOfTake_70 : decode cX11_statusOfTake 70 = .ok (.iload_n 2, 1) := by decide +kernel
theorem dX11_statusOfTake_71 : decode cX11_statusOfTake 71 = .ok (.invokevirtual 265, 3) := by decide +kernel
theorem dX11_statusOfTake_74 : decode cX11_statusOfTake 74 = .ok (.ifCond .eq 7, 3) := by decide +kernel
theorem dX11_statusOfTake_77 : decode cX11_statusOfTake 77 = .ok (.iconst 0, 1) := by decide +kernel
theorem dX11_statusOfTake_78 : decode cX11_statusOfTake 78 = .ok (.goto 5, 3) := by decide +kernel
theorem dX11_statusOfTake_81 : decode cX11_statusOfTake 81 = .ok (.bipush 12, 2) := by decide +kernel
theorem dX11_statusOfTake_83 : decode cX11_statusOfTake 83 = .ok (.ireturn, 1) := by decide +kernel
set_option maxRecDepth 20000 in
theorem ggX11_statusOfAsking_X11_isMinute : GoodIn wsX11_statusOfAsking wsX11_isMinute := goodIn_r _ [7, 8] (by decide +kernel) (by decide +kernel)
set_option maxRecDepth 20000 in
theorem gX11_statusOfAsking_X11_isMinute : GoodIn wsX11_statusOfAsking (va_wsS RX11 255 yX11_isMinute wsX11_isMinute) := goodIn_app (goodIn_of _ (by decide +kernel)) ggX11_statusOfAsking_X11_isMinute
theorem dX11_statusOfAsking_0 : decode cX11_statusOfAsking 0 = .ok (.iload_n 1, 1) := by decide +kernel
theorem dX11_statusOfAsking_1 : decode cX11_statusOfAsking 1 = .ok (.ifCond .lt 14, 3) := by decide +kernel
theorem dX11_statusOfAsking_4 : decode cX11_statusOfAsking 4 = .ok (.iload_n 1, 1) := by decide +kernel
theorem dX11_statusOfAsking_5 : decode cX11_statusOfAsking 5 = .ok (.aload_n 0, 1) := by decide +kernel
theorem dX11_statusOfAsking_6 : decode cX11_statusOfAsking 6 = .ok (.getfield 33, 3) := by decide +kernel
theorem dX11_statusOfAsking_9 : decode cX11_statusOfAsking 9 = .ok (.getfield 320, 3) := by decide +kernel
theorem dX11_statusOfAsking_12 : decode cX11_statusOfAsking 12 = .ok (.if_icmp .lt 5, 3) := by decide +kernel
theorem dX11_statusOfAsking_15 : decode cX11_statusOfAsking 15 = .ok (.iconst 1, 1) := by decide +kernel
theorem dX11_statusOfAsking_16 : decode cX11_statusOfAsking 16 = .ok (.ireturn, 1) := by decide +kernel
theorem dX11_statusOfAsking_17 : decode cX11_statusOfAsking 17 = .ok (.iload_n 2, 1) := by decide +kernel
theorem dX11_statusOfAsking_18 : decode cX11_statusOfAsking 18 = .ok (.invokestatic 255, 3) := by decide +kernel
theorem dX11_statusOfAsking_21 : decode cX11_statusOfAsking 21 = .ok (.ifCond .ne 5, 3) := by decide +kernel
theorem dX11_statusOfAsking_24 : decode cX11_statusOfAsking 24 = .ok (.iconst 2, 1) := by decide +kernel
theorem dX11_statusOfAsking_25 : decode cX11_statusOfAsking 25 = .ok (.ireturn, 1) := by decide +kernel
theorem dX11_statusOfAsking_26 : decode cX11_statusOfAsking 26 = .ok (.iload_n 2, 1) := by decide +kernel
theorem dX11_statusOfAsking_27 : decode cX11_statusOfAsking 27 = .ok (.aload_n 0, 1) := by decide +kernel
theorem dX11_statusOfAsking_28 : decode cX11_statusOfAsking 28 = .ok (.getfield 33, 3) := by decide +kernel
theorem dX11_statusOfAsking_31 : decode cX11_statusOfAsking 31 = .ok (.getfield 308, 3) := by decide +kernel
theorem dX11_statusOfAsking_34 : decode cX11_statusOfAsking 34 = .ok (.if_icmp .ge 7, 3) := by decide +kernel
theorem dX11_statusOfAsking_37 : decode cX11_statusOfAsking 37 = .ok (.iconst 3, 1) := by decide +kernel
theorem dX11_statusOfAsking_38 : decode cX11_statusOfAsking 38 = .ok (.goto 4, 3) := by decide +kernel
theorem dX11_statusOfAsking_41 : decode cX11_statusOfAsking 41 = .ok (.iconst 0, 1) := by decide +kernel
theorem dX11_statusOfAsking_42 : decode cX11_statusOfAsking 42 = .ok (.ireturn, 1) := by decide +kernel
set_option maxRecDepth 20000 in
theorem ggX11_state_X11_statusOfAsking : GoodIn wsX11_state wsX11_statusOfAsking := goodIn_r _ [8, 2, 9, 10, 11, 12, 7, 13, 14, 22, 23, 24, 25, 26, 27, 28, 29, 30, 31, 32] (by decide +kernel) (by decide +kernel)
set_option maxRecDepth 20000 in
theorem gX11_state_X11_statusOfAsking : GoodIn wsX11_state (wsV RX11 345 RX11 yX11_statusOfAsking wsX11_statusOfAsking) := goodIn_app (goodIn_of _ (by decide +kernel)) ggX11_state_X11_statusOfAsking
set_option maxRecDepth 20000 in
theorem ggX11_state_X5_markAt : GoodIn wsX11_state wsX5_markAt := goodIn_r _ [19, 20, 21, 33, 34, 35, 36, 37] (by decide +kernel) (by decide +kernel)
set_option maxRecDepth 20000 in
theorem gX11_state_X5_markAt : GoodIn wsX11_state (wsV RX11 348 RX5 yX5_markAt wsX5_markAt) := goodIn_app (goodIn_of _ (by decide +kernel)) ggX11_state_X5_markAt
theorem dX11_state_0 : decode cX11_state 0 = .ok (.aload_n 0, 1) := by decide +kernel
theorem dX11_state_1 : decode cX11_state 1 = .ok (.aload_n 0, 1) := by decide +kernel
theorem dX11_state_2 : decode cX11_state 2 = .ok (.iload_n 1, 1) := by decide +kernel
theorem dX11_state_3 : decode cX11_state 3 = .ok (.iload_n 2, 1) := by decide +kernel
theorem dX11_state_4 : decode cX11_state 4 = .ok (.invokevirtual 345, 3) := by decide +kernel
theorem dX11_state_7 : decode cX11_state 7 = .ok (.putfield 41, 3) := by decide +kernel
theorem dX11_state_10 : decode cX11_state 10 = .ok (.aload_n 0, 1) := by decide +kernel
theorem dX11_state_11 : decode cX11_state 11 = .ok (.getfield 41, 3) := by decide +kernel
theorem dX11_state_14 : decode cX11_state 14 = .ok (.ifCond .ne 19, 3) := by decide +kernel
theorem dX11_state_17 : decode cX11_state 17 = .ok (.aload_n 0, 1) := by decide +kernel
theorem dX11_state_18 : decode cX11_state 18 = .ok (.getfield 33, 3) := by decide +kernel
theorem dX11_state_21 : decode cX11_state 21 = .ok (.getfield 324, 3) := by decide +kernel
theorem dX11_state_24 : decode cX11_state 24 = .ok (.iload_n 1, 1) := by decide +kernel
theorem dX11_state_25 : decode cX11_state 25 = .ok (.aaload, 1) := by decide +kernel
theorem dX11_state_26 : decode cX11_state 26 = .ok (.iload_n 2, 1) := by decide +kernel
theorem dX11_state_27 : decode cX11_state 27 = .ok (.invokevirtual 348, 3) := by decide +kernel
theorem dX11_state_30 : decode cX11_state 30 = .ok (.goto 4, 3) := by decide +kernel
theorem dX11_state_33 : decode cX11_state 33 = .ok (.iconst (-1), 1) := by decide +kernel
theorem dX11_state_34 : decode cX11_state 34 = .ok (.ireturn, 1) := by decide +kernel
theorem dX12_init_0 : decode cX12_init 0 = .ok (.aload_n 0, 1) := by decide +kernel
theorem dX12_init_1 : decode cX12_init 1 = .ok (.invokespecial 1, 3) := by decide +kernel
theorem dX12_init_4 : decode cX12_init 4 = .ok (.aload_n 0, 1) := by decide +kernel
theorem dX12_init_5 : decode cX12_init 5 = .ok (.lconst 1, 1) := by decide +kernel
theorem dX12_init_6 : decode cX12_init 6 = .ok (.putfield 7, 3) := by decide +kernel
theorem dX12_init_9 : decode cX12_init 9 = .ok (.aload_n 0, 1) := by decide +kernel
theorem dX12_init_10 : decode cX12_init 10 = .ok (.iconst 4, 1) := by decide +kernel
theorem dX12_init_11 : decode cX12_init 11 = .ok (.newarray .int, 2) := by decide +kernel
theorem dX12_init_13 : decode cX12_init 13 = .ok (.putfield 13, 3) := by decide +kernel
theorem dX12_init_16 : decode cX12_init 16 = .ok (.aload_n 0, 1) := by decide +kernel
theorem dX12_init_17 : decode cX12_init 17 = .ok (.iconst 4, 1) := by decide +kernel
theorem dX12_init_18 : decode cX12_init 18 = .ok (.newarray .int, 2) := by decide +kernel
theorem dX12_init_20 : decode cX12_init 20 = .ok (.putfield 17, 3) := by decide +kernel
theorem dX12_init_23 : decode cX12_init 23 = .ok (.aload_n 0, 1) := by decide +kernel
theorem dX12_init_24 : decode cX12_init 24 = .ok (.sipush 160, 3) := by decide +kernel
theorem dX12_init_27 : decode cX12_init 27 = .ok (.newarray .long, 2) := by decide +kernel
theorem dX12_init_29 : decode cX12_init 29 = .ok (.putfield 20, 3) := by decide +kernel
theorem dX12_init_32 : decode cX12_init 32 = .ok (.aload_n 0, 1) := by decide +kernel
theorem dX12_init_33 : decode cX12_init 33 = .ok (.iconst 4, 1) := by decide +kernel
theorem dX12_init_34 : decode cX12_init 34 = .ok (.putfield 24, 3) := by decide +kernel
theorem dX12_init_37 : decode cX12_init 37 = .ok (.aload_n 0, 1) := by decide +kernel
theorem dX12_init_38 : decode cX12_init 38 = .ok (.bipush 80, 2) := by decide +kernel
theorem dX12_init_40 : decode cX12_init 40 = .ok (.newarray .int, 2) := by decide +kernel
theorem dX12_init_42 : decode cX12_init 42 = .ok (.putfield 28, 3) := by decide +kernel
theorem dX12_init_45 : decode cX12_init 45 = .ok (.aload_n 0, 1) := by decide +kernel
theorem dX12_init_46 : decode cX12_init 46 = .ok (.bipush 80, 2) := by decide +kernel
theorem dX12_init_48 : decode cX12_init 48 = .ok (.newarray .int, 2) := by decide +kernel
theorem dX12_init_50 : decode cX12_init 50 = .ok (.putfield 31, 3) := by decide +kernel
theorem dX12_init_53 : decode cX12_init 53 = .ok (.aload_n 0, 1) := by decide +kernel
theorem dX12_init_54 : decode cX12_init 54 = .ok (.bipush 80, 2) := by decide +kernel
theorem dX12_init_56 : decode cX12_init 56 = .ok (.newarray .boolean, 2) := by decide +kernel
theorem dX12_init_58 : decode cX12_init 58 = .ok (.putfield 34, 3) := by decide +kernel
theorem dX12_init_61 : decode cX12_init 61 = .ok (.aload_n 0, 1) := by decide +kernel
theorem dX12_init_62 : decode cX12_init 62 = .ok (.bipush 8, 2) := by decide +kernel
theorem dX12_init_64 : decode cX12_init 64 = .ok (.newarray .int, 2) := by decide +kernel
theorem dX12_init_66 : decode cX12_init 66 = .ok (.putfield 38, 3) := by decide +kernel
theorem dX12_init_69 : decode cX12_init 69 = .ok (.aload_n 0, 1) := by decide +kernel
theorem dX12_init_70 : decode cX12_init 70 = .ok (.bipush 10, 2) := by decide +kernel
theorem dX12_init_72 : decode cX12_init 72 = .ok (.newarray .int, 2) := by decide +kernel
theorem dX12_init_74 : decode cX12_init 74 = .ok (.putfield 41, 3) := by decide +kernel
theorem dX12_init_77 : decode cX12_init 77 = .ok (.aload_n 0, 1) := by decide +kernel
theorem dX12_init_78 : decode cX12_init 78 = .ok (.bipush 18, 2) := by decide +kernel
theorem dX12_init_80 : decode cX12_init 80 = .ok (.newarray .int, 2) := by decide +kernel
theorem dX12_init_82 : decode cX12_init 82 = .ok (.putfield 44, 3) := by decide +kernel
theorem dX12_init_85 : decode cX12_init 85 = .ok (.aload_n 0, 1) := by decide +kernel
theorem dX12_init_86 : decode cX12_init 86 = .ok (.bipush 18, 2) := by decide +kernel
theorem dX12_init_88 : decode cX12_init 88 = .ok (.newarray .int, 2) := by decide +kernel
theorem dX12_init_90 : decode cX12_init 90 = .ok (.putfield 47, 3) := by decide +kernel
theorem dX12_init_93 : decode cX12_init 93 = .ok (.aload_n 0, 1) := by decide +kernel
theorem dX12_init_94 : decode cX12_init 94 = .ok (.bipush 64, 2) := by decide +kernel
theorem dX12_init_96 : decode cX12_init 96 = .ok (.newarray .int, 2) := by decide +kernel
theorem dX12_init_98 : decode cX12_init 98 = .ok (.putfield 50, 3) := by decide +kernel
theorem dX12_init_101 : decode cX12_init 101 = .ok (.aload_n 0, 1) := by decide +kernel
theorem dX12_init_102 : decode cX12_init 102 = .ok (.bipush 80, 2) := by decide +kernel
theorem dX12_init_104 : decode cX12_init 104 = .ok (.newarray .int, 2) := by decide +kernel
theorem dX12_init_106 : decode cX12_init 106 = .ok (.putfield 53, 3) := by decide +kernel
theorem dX12_init_109 : decode cX12_init 109 = .ok (.aload_n 0, 1) := by decide +kernel
theorem dX12_init_110 : decode cX12_init 110 = .ok (.bipush 80, 2) := by decide +kernel
theorem dX12_init_112 : decode cX12_init 112 = .ok (.newarray .int, 2) := by decide +kernel
theorem dX12_init_114 : decode cX12_init 114 = .ok (.putfield 56, 3) := by decide +kernel
theorem dX12_init_117 : decode cX12_init 117 = .ok (.aload_n 0, 1) := by decide +kernel
theorem dX12_init_118 : decode cX12_init 118 = .ok (.bipush 80, 2) := by decide +kernel
theorem dX12_init_120 : decode cX12_init 120 = .ok (.newarray .int, 2) := by decide +kernel
theorem dX12_init_122 : decode cX12_init 122 = .ok (.putfield 59, 3) := by decide +kernel
theorem dX12_init_125 : decode cX12_init 125 = .ok (.aload_n 0, 1) := by decide +kernel
theorem dX12_init_126 : decode cX12_init 126 = .ok (.bipush 12, 2) := by decide +kernel
theorem dX12_init_128 : decode cX12_init 128 = .ok (.newarray .boolean, 2) := by decide +kernel
theorem dX12_init_130 : decode cX12_init 130 = .ok (.putfield 62, 3) := by decide +kernel
theorem dX12_init_133 : decode cX12_init 133 = .ok (.aload_n 0, 1) := by decide +kernel
theorem dX12_init_134 : decode cX12_init 134 = .ok (.bipush 120, 2) := by decide +kernel
theorem dX12_init_136 : decode cX12_init 136 = .ok (.newarray .boolean, 2) := by decide +kernel
theorem dX12_init_138 : decode cX12_init 138 = .ok (.putfield 65, 3) := by decide +kernel
theorem dX12_init_141 : decode cX12_init 141 = .ok (.aload_n 0, 1) := by decide +kernel
theorem dX12_init_142 : decode cX12_init 142 = .ok (.bipush 60, 2) := by decide +kernel
theorem dX12_init_144 : decode cX12_init 144 = .ok (.newarray .int, 2) := by decide +kernel
theorem dX12_init_146 : decode cX12_init 146 = .ok (.putfield 68, 3) := by decide +kernel
theorem dX12_init_149 : decode cX12_init 149 = .ok (.aload_n 0, 1) := by decide +kernel
theorem dX12_init_150 : decode cX12_init 150 = .ok (.bipush 60, 2) := by decide +kernel
theorem dX12_init_152 : decode cX12_init 152 = .ok (.newarray .int, 2) := by decide +kernel
theorem dX12_init_154 : decode cX12_init 154 = .ok (.putfield 71, 3) := by decide +kernel
theorem dX12_init_157 : decode cX12_init 157 = .ok (.aload_n 0, 1) := by decide +kernel
theorem dX12_init_158 : decode cX12_init 158 = .ok (.bipush 60, 2) := by decide +kernel
theorem dX12_init_160 : decode cX12_init 160 = .ok (.newarray .int, 2) := by decide +kernel
theorem dX12_init_162 : decode cX12_init 162 = .ok (.putfield 74, 3) := by decide +kernel
theorem dX12_init_165 : decode cX12_init 165 = .ok (.aload_n 0, 1) := by decide +kernel
theorem dX12_init_166 : decode cX12_init 166 = .ok (.bipush 60, 2) := by decide +kernel
theorem dX12_init_168 : decode cX12_init 168 = .ok (.newarray .int, 2) := by decide +kernel
theorem dX12_init_170 : decode cX12_init 170 = .ok (.putfield 77, 3) := by decide +kernel
theorem dX12_init_173 : decode cX12_init 173 = .ok (.aload_n 0, 1) := by decide +kernel
theorem dX12_init_174 : decode cX12_init 174 = .ok (.bipush 60, 2) := by decide +kernel
theorem dX12_init_176 : decode cX12_init 176 = .ok (.newarray .int, 2) := by decide +kernel
theorem dX12_init_178 : decode cX12_init 178 = .ok (.putfield 80, 3) := by decide +kernel
theorem dX12_init_181 : decode cX12_init 181 = .ok (.aload_n 0, 1) := by decide +kernel
theorem dX12_init_182 : decode cX12_init 182 = .ok (.bipush 60, 2) := by decide +kernel
theorem dX12_init_184 : decode cX12_init 184 = .ok (.newarray .int, 2) := by decide +kernel
theorem dX12_init_186 : decode cX12_init 186 = .ok (.putfield 83, 3) := by decide +kernel
theorem dX12_init_189 : decode cX12_init 189 = .ok (.aload_n 0, 1) := by decide +kernel
theorem dX12_init_190 : decode cX12_init 190 = .ok (.bipush 60, 2) := by decide +kernel
theorem dX12_init_192 : decode cX12_init 192 = .ok (.newarray .int, 2) := by decide +kernel
theorem dX12_init_194 : decode cX12_init 194 = .ok (.putfield 86, 3) := by decide +kernel
theorem dX12_init_197 : decode cX12_init 197 = .ok (.aload_n 0, 1) := by decide +kernel
theorem dX12_init_198 : decode cX12_init 198 = .ok (.bipush 60, 2) := by decide +kernel
theorem dX12_init_200 : decode cX12_init 200 = .ok (.newarray .int, 2) := by decide +kernel
theorem dX12_init_202 : decode cX12_init 202 = .ok (.putfield 89, 3) := by decide +kernel
theorem dX12_init_205 : decode cX12_init 205 = .ok (.aload_n 0, 1) := by decide +kernel
theorem dX12_init_206 : decode cX12_init 206 = .ok (.bipush 30, 2) := by decide +kernel
theorem dX12_init_208 : decode cX12_init 208 = .ok (.newarray .int, 2) := by decide +kernel
theorem dX12_init_210 : decode cX12_init 210 = .ok (.putfield 92, 3) := by decide +kernel
theorem dX12_init_213 : decode cX12_init 213 = .ok (.aload_n 0, 1) := by decide +kernel
theorem dX12_init_214 : decode cX12_init 214 = .ok (.bipush 30, 2) := by decide +kernel
theorem dX12_init_216 : decode cX12_init 216 = .ok (.newarray .int, 2) := by decide +kernel
theorem dX12_init_218 : decode cX12_init 218 = .ok (.putfield 95, 3) := by decide +kernel
theorem dX12_init_221 : decode cX12_init 221 = .ok (.aload_n 0, 1) := by decide +kernel
theorem dX12_init_222 : decode cX12_init 222 = .ok (.bipush 30, 2) := by decide +kernel
theorem dX12_init_224 : decode cX12_init 224 = .ok (.newarray .int, 2) := by decide +kernel
theorem dX12_init_226 : decode cX12_init 226 = .ok (.putfield 98, 3) := by decide +kernel
theorem dX12_init_229 : decode cX12_init 229 = .ok (.aload_n 0, 1) := by decide +kernel
theorem dX12_init_230 : decode cX12_init 230 = .ok (.bipush 30, 2) := by decide +kernel
theorem dX12_init_232 : decode cX12_init 232 = .ok (.newarray .int, 2) := by decide +kernel
theorem dX12_init_234 : decode cX12_init 234 = .ok (.putfield 101, 3) := by decide +kernel
theorem dX12_init_237 : decode cX12_init 237 = .ok (.aload_n 0, 1) := by decide +kernel
theorem dX12_init_238 : decode cX12_init 238 = .ok (.bipush 60, 2) := by decide +kernel
theorem dX12_init_240 : decode cX12_init 240 = .ok (.newarray .int, 2) := by decide +kernel
theorem dX12_init_242 : decode cX12_init 242 = .ok (.putfield 104, 3) := by decide +kernel
theorem dX12_init_245 : decode cX12_init 245 = .ok (.aload_n 0, 1) := by decide +kernel
theorem dX12_init_246 : decode cX12_init 246 = .ok (.bipush 60, 2) := by decide +kernel
theorem dX12_init_248 : decode cX12_init 248 = .ok (.newarray .int, 2) := by decide +kernel
theorem dX12_init_250 : decode cX12_init 250 = .ok (.putfield 107, 3) := by decide +kernel
theorem dX12_init_253 : decode cX12_init 253 = .ok (.aload_n 0, 1) := by decide +kernel
theorem dX12_init_254 : decode cX12_init 254 = .ok (.bipush 60, 2) := by decide +kernel
theorem dX12_init_256 : decode cX12_init 256 = .ok (.newarray .int, 2) := by decide +kernel
theorem dX12_init_258 : decode cX12_init 258 = .ok (.putfield 110, 3) := by decide +kernel
theorem dX12_init_261 : decode cX12_init 261 = .ok (.aload_n 0, 1) := by decide +kernel
theorem dX12_init_262 : decode cX12_init 262 = .ok (.bipush 60, 2) := by decide +kernel
theorem dX12_init_264 : decode cX12_init 264 = .ok (.newarray .int, 2) := by decide +kernel
theorem dX12_init_266 : decode cX12_init 266 = .ok (.putfield 113, 3) := by decide +kernel
theorem dX12_init_269 : decode cX12_init 269 = .ok (.aload_n 0, 1) := by decide +kernel
theorem dX12_init_270 : decode cX12_init 270 = .ok (.bipush 60, 2) := by decide +kernel
theorem dX12_init_272 : decode cX12_init 272 = .ok (.newarray .int, 2) := by decide +kernel
theorem dX12_init_274 : decode cX12_init 274 = .ok (.putfield 116, 3) := by decide +kernel
theorem dX12_init_277 : decode cX12_init 277 = .ok (.aload_n 0, 1) := by decide +kernel
theorem dX12_init_278 : decode cX12_init 278 = .ok (.bipush 60, 2) := by decide +kernel
theorem dX12_init_280 : decode cX12_init 280 = .ok (.newarray .int, 2) := by decide +kernel
theorem dX12_init_282 : decode cX12_init 282 = .ok (.putfield 119, 3) := by decide +kernel
theorem dX12_init_285 : decode cX12_init 285 = .ok (.aload_n 0, 1) := by decide +kernel
theorem dX12_init_286 : decode cX12_init 286 = .ok (.bipush 60, 2) := by decide +kernel
theorem dX12_init_288 : decode cX12_init 288 = .ok (.newarray .int, 2) := by decide +kernel
theorem dX12_init_290 : decode cX12_init 290 = .ok (.putfield 122, 3) := by decide +kernel
theorem dX12_init_293 : decode cX12_init 293 = .ok (.aload_n 0, 1) := by decide +kernel
theorem dX12_init_294 : decode cX12_init 294 = .ok (.bipush 60, 2) := by decide +kernel
theorem dX12_init_296 : decode cX12_init 296 = .ok (.newarray .int, 2) := by decide +kernel
theorem dX12_init_298 : decode cX12_init 298 = .ok (.putfield 125, 3) := by decide +kernel
theorem dX12_init_301 : decode cX12_init 301 = .ok (.aload_n 0, 1) := by decide +kernel
theorem dX12_init_302 : decode cX12_init 302 = .ok (.bipush 60, 2) := by decide +kernel
theorem dX12_init_304 : decode cX12_init 304 = .ok (.newarray .int, 2) := by decide +kernel
theorem dX12_init_306 : decode cX12_init 306 = .ok (.putfield 128, 3) := by decide +kernel
theorem dX12_init_309 : decode cX12_init 309 = .ok (.aload_n 0, 1) := by decide +kernel
theorem dX12_init_310 : decode cX12_init 310 = .ok (.bipush 10, 2) := by decide +kernel
theorem dX12_init_312 : decode cX12_init 312 = .ok (.newarray .boolean, 2) := by decide +kernel
theorem dX12_init_314 : decode cX12_init 314 = .ok (.putfield 131, 3) := by decide +kernel
theorem dX12_init_317 : decode cX12_init 317 = .ok (.iconst 0, 1) := by decide +kernel
theorem dX12_init_318 : decode cX12_init 318 = .ok (.istore_n 1, 1) := by decide +kernel
theorem dX12_init_319 : decode cX12_init 319 = .ok (.iload_n 1, 1) := by decide +kernel
theorem dX12_init_320 : decode cX12_init 320 = .ok (.iconst 4, 1) := by decide +kernel
theorem dX12_init_321 : decode cX12_init 321 = .ok (.if_icmp .ge 16, 3) := by decide +kernel
theorem dX12_init_324 : decode cX12_init 324 = .ok (.aload_n 0, 1) := by decide +kernel
theorem dX12_init_325 : decode cX12_init 325 = .ok (.getfield 17, 3) := by decide +kernel
theorem dX12_init_328 : decode cX12_init 328 = .ok (.iload_n 1, 1) := by decide +kernel
theorem dX12_init_329 : decode cX12_init 329 = .ok (.iconst (-1), 1) := by decide +kernel
theorem dX12_init_330 : decode cX12_init 330 = .ok (.iastore, 1) := by decide +kernel
theorem dX12_init_331 : decode cX12_init 331 = .ok (.iinc 1 1, 3) := by decide +kernel
theorem dX12_init_334 : decode cX12_init 334 = .ok (.goto (-15), 3) := by decide +kernel
theorem dX12_init_337 : decode cX12_init 337 = .ok (.return_, 1) := by decide +kernel
theorem dX12_status_0 : decode cX12_status 0 = .ok (.aload_n 0, 1) := by decide +kernel
theorem dX12_status_1 : decode cX12_status 1 = .ok (.iconst 0, 1) := by decide +kernel
theorem dX12_status_2 : decode cX12_status 2 = .ok (.putfield 134, 3) := by decide +kernel
theorem dX12_status_5 : decode cX12_status 5 = .ok (.aload_n 0, 1) := by decide +kernel
theorem dX12_status_6 : decode cX12_status 6 = .ok (.getfield 137, 3) := by decide +kernel
theorem dX12_status_9 : decode cX12_status 9 = .ok (.ireturn, 1) := by decide +kernel
theorem dX12_refuse_0 : decode cX12_refuse 0 = .ok (.aload_n 0, 1) := by decide +kernel
theorem dX12_refuse_1 : decode cX12_refuse 1 = .ok (.iload_n 1, 1) := by decide +kernel
theorem dX12_refuse_2 : decode cX12_refuse 2 = .ok (.putfield 137, 3) := by decide +kernel
theorem dX12_refuse_5 : decode cX12_refuse 5 = .ok (.iconst (-1), 1) := by decide +kernel
theorem dX12_refuse_6 : decode cX12_refuse 6 = .ok (.ireturn, 1) := by decide +kernel
theorem dX12_no_0 : decode cX12_no 0 = .ok (.aload_n 0, 1) := by decide +kernel
theorem dX12_no_1 : decode cX12_no 1 = .ok (.iload_n 1, 1) := by decide +kernel
theorem dX12_no_2 : decode cX12_no 2 = .ok (.putfield 137, 3) := by decide +kernel
theorem dX12_no_5 : decode cX12_no 5 = .ok (.iconst 0, 1) := by decide +kernel
theorem dX12_no_6 : decode cX12_no 6 = .ok (.ireturn, 1) := by decide +kernel
theorem dX12_cut_0 : decode cX12_cut 0 = .ok (.iload_n 0, 1) := by decide +kernel
theorem dX12_cut_1 : decode cX12_cut 1 = .ok (.ifCond .ne 10, 3) := by decide +kernel
theorem dX12_cut_4 : decode cX12_cut 4 = .ok (.lload_n 1, 1) := by decide +kernel
theorem dX12_cut_5 : decode cX12_cut 5 = .ok (.l2i, 1) := by decide +kernel
theorem dX12_cut_6 : decode cX12_cut 6 = .ok (.i2b, 1) := by decide +kernel
theorem dX12_cut_7 : decode cX12_cut 7 = .ok (.i2l, 1) := by decide +kernel
theorem dX12_cut_8 : decode cX12_cut 8 = .ok (.goto 27, 3) := by decide +kernel
theorem dX12_cut_11 : decode cX12_cut 11 = .ok (.iload_n 0, 1) := by decide +kernel
theorem dX12_cut_12 : decode cX12_cut 12 = .ok (.iconst 1, 1) := by decide +kernel
theorem dX12_cut_13 : decode cX12_cut 13 = .ok (.if_icmp .ne 10, 3) := by decide +kernel
theorem dX12_cut_16 : decode cX12_cut 16 = .ok (.lload_n 1, 1) := by decide +kernel
theorem dX12_cut_17 : decode cX12_cut 17 = .ok (.l2i, 1) := by decide +kernel
theorem dX12_cut_18 : decode cX12_cut 18 = .ok (.i2s, 1) := by decide +kernel
theorem dX12_cut_19 : decode cX12_cut 19 = .ok (.i2l, 1) := by decide +kernel
theorem dX12_cut_20 : decode cX12_cut 20 = .ok (.goto 15, 3) := by decide +kernel
theorem dX12_cut_23 : decode cX12_cut 23 = .ok (.iload_n 0, 1) := by decide +kernel
theorem dX12_cut_24 : decode cX12_cut 24 = .ok (.iconst 2, 1) := by decide +kernel
theorem dX12_cut_25 : decode cX12_cut 25 = .ok (.if_icmp .ne 9, 3) := by decide +kernel
theorem dX12_cut_28 : decode cX12_cut 28 = .ok (.lload_n 1, 1) := by decide +kernel
theorem dX12_cut_29 : decode cX12_cut 29 = .ok (.l2i, 1) := by decide +kernel
theorem dX12_cut_30 : decode cX12_cut 30 = .ok (.i2l, 1) := by decide +kernel
theorem dX12_cut_31 : decode cX12_cut 31 = .ok (.goto 4, 3) := by decide +kernel
theorem dX12_cut_34 : decode cX12_cut 34 = .ok (.lload_n 1, 1) := by decide +kernel
theorem dX12_cut_35 : decode cX12_cut 35 = .ok (.lreturn, 1) := by decide +kernel
set_option maxRecDepth 20000 in
theorem ggX12_tray_X12_no : GoodIn wsX12_tray wsX12_no := goodIn_r _ [10, 2, 11, 12, 13, 14, 15, 16, 17, 18, 19, 20, 21, 22, 23, 24, 25, 26, 27, 28, 29, 30, 31, 32, 33, 34, 35, 36, 37, 38, 39, 40, 41, 42, 43, 44, 45, 46, 47, 48, 49, 50, 51, 52, 53, 54, 55, 56, 57, 58, 59, 60, 61, 62, 63, 64] (by decide +kernel) (by decide +kernel)
set_option maxRecDepth 20000 in
theorem gX12_tray_X12_no : GoodIn wsX12_tray (wsV RX12 140 RX12 yX12_no wsX12_no) := goodIn_app (goodIn_of _ (by decide +kernel)) ggX12_tray_X12_no
theorem dX12_tray_0 : decode cX12_tray 0 = .ok (.aload_n 0, 1) := by decide +kernel
theorem dX12_tray_1 : decode cX12_tray 1 = .ok (.iconst 0, 1) := by decide +kernel
theorem dX12_tray_2 : decode cX12_tray 2 = .ok (.putfield 134, 3) := by decide +kernel
theorem dX12_tray_5 : decode cX12_tray 5 = .ok (.aload_n 0, 1) := by decide +kernel
theorem dX12_tray_6 : decode cX12_tray 6 = .ok (.iconst 0, 1) := by decide +kernel
theorem dX12_tray_7 : decode cX12_tray 7 = .ok (.putfield 137, 3) := by decide +kernel
theorem dX12_tray_10 : decode cX12_tray 10 = .ok (.iload_n 1, 1) := by decide +kernel
theorem dX12_tray_11 : decode cX12_tray 11 = .ok (.ifCond .lt 17, 3) := by decide +kernel
theorem dX12_tray_14 : decode cX12_tray 14 = .ok (.iload_n 1, 1) := by decide +kernel
theorem dX12_tray_15 : decode cX12_tray 15 = .ok (.iconst 4, 1) := by decide +kernel
theorem dX12_tray_16 : decode cX12_tray 16 = .ok (.if_icmp .ge 12, 3) := by decide +kernel
theorem dX12_tray_19 : decode cX12_tray 19 = .ok (.iload_n 2, 1) := by decide +kernel
theorem dX12_tray_20 : decode cX12_tray 20 = .ok (.ifCond .lt 8, 3) := by decide +kernel
theorem dX12_tray_23 : decode cX12_tray 23 = .ok (.iload_n 2, 1) := by decide +kernel
theorem dX12_tray_24 : decode cX12_tray 24 = .ok (.iconst 3, 1) := by decide +kernel
theorem dX12_tray_25 : decode cX12_tray 25 = .ok (.if_icmp .le 9, 3) := by decide +kernel
theorem dX12_tray_28 : decode cX12_tray 28 = .ok (.aload_n 0, 1) := by decide +kernel
theorem dX12_tray_29 : decode cX12_tray 29 = .ok (.iconst 1, 1) := by decide +kernel
theorem dX12_tray_30 : decode cX12_tray 30 = .ok (.invokevirtual 140, 3) := by decide +kernel
theorem dX12_tray_33 : decode cX12_tray 33 = .ok (.ireturn, 1) := by decide +kernel
theorem dX12_tray_34 : decode cX12_tray 34 = .ok (.iload_n 3, 1) := by decide +kernel
theorem dX12_tray_35 : decode cX12_tray 35 = .ok (.bipush 40, 2) := by decide +kernel
theorem dX12_tray_37 : decode cX12_tray 37 = .ok (.if_icmp .le 9, 3) := by decide +kernel
theorem dX12_tray_40 : decode cX12_tray 40 = .ok (.aload_n 0, 1) := by decide +kernel
theorem dX12_tray_41 : decode cX12_tray 41 = .ok (.iconst 2, 1) := by decide +kernel
theorem dX12_tray_42 : decode cX12_tray 42 = .ok (.invokevirtual 140, 3) := by decide +kernel
theorem dX12_tray_45 : decode cX12_tray 45 = .ok (.ireturn, 1) := by decide +kernel
theorem dX12_tray_46 : decode cX12_tray 46 = .ok (.iload_n 3, 1) := by decide +kernel
theorem dX12_tray_47 : decode cX12_tray 47 = .ok (.ifCond .ge 10, 3) := by decide +kernel
theorem dX12_tray_50 : decode cX12_tray 50 = .ok (.aload_n 0, 1) := by decide +kernel
theorem dX12_tray_51 : decode cX12_tray 51 = .ok (.bipush 6, 2) := by decide +kernel
theorem dX12_tray_53 : decode cX12_tray 53 = .ok (.invokevirtual 140, 3) := by decide +kernel
theorem dX12_tray_56 : decode cX12_tray 56 = .ok (.ireturn, 1) := by decide +kernel
theorem dX12_tray_57 : decode cX12_tray 57 = .ok (.aload_n 0, 1) := by decide +kernel
theorem dX12_tray_58 : decode cX12_tray 58 = .ok (.getfield 13, 3) := by decide +kernel
theorem dX12_tray_61 : decode cX12_tray 61 = .ok (.iload_n 1, 1) := by decide +kernel
theorem dX12_tray_62 : decode cX12_tray 62 = .ok (.iload_n 2, 1) := by decide +kernel
theorem dX12_tray_63 : decode cX12_tray 63 = .ok (.iastore, 1) := by decide +kernel
theorem dX12_tray_64 : decode cX12_tray 64 = .ok (.aload_n 0, 1) := by decide +kernel
theorem dX12_tray_65 : decode cX12_tray 65 = .ok (.getfield 17, 3) := by decide +kernel
theorem dX12_tray_68 : decode cX12_tray 68 = .ok (.iload_n 1, 1) := by decide +kernel
theorem dX12_tray_69 : decode cX12_tray 69 = .ok (.iload_n 3, 1) := by decide +kernel
theorem dX12_tray_70 : decode cX12_tray 70 = .ok (.iastore, 1) := by decide +kernel
theorem dX12_tray_71 : decode cX12_tray 71 = .ok (.iconst 0, 1) := by decide +kernel
theorem dX12_tray_72 : decode cX12_tray 72 = .ok (.istore 4, 2) := by decide +kernel
theorem dX12_tray_74 : decode cX12_tray 74 = .ok (.iload 4, 2) := by decide +kernel
theorem dX12_tray_76 : decode cX12_tray 76 = .ok (.iload_n 3, 1) := by decide +kernel
theorem dX12_tray_77 : decode cX12_tray 77 = .ok (.if_icmp .ge 22, 3) := by decide +kernel
theorem dX12_tray_80 : decode cX12_tray 80 = .ok (.aload_n 0, 1) := by decide +kernel
theorem dX12_tray_81 : decode cX12_tray 81 = .ok (.getfield 20, 3) := by decide +kernel
theorem dX12_tray_84 : decode cX12_tray 84 = .ok (.bipush 40, 2) := by decide +kernel
theorem dX12_tray_86 : decode cX12_tray 86 = .ok (.iload_n 1, 1) := by decide +kernel
theorem dX12_tray_87 : decode cX12_tray 87 = .ok (.imul, 1) := by decide +kernel
theorem dX12_tray_88 : decode cX12_tray 88 = .ok (.iload 4, 2) := by decide +kernel
theorem dX12_tray_90 : decode cX12_tray 90 = .ok (.iadd, 1) := by decide +kernel
theorem dX12_tray_91 : decode cX12_tray 91 = .ok (.lconst 0, 1) := by decide +kernel
theorem dX12_tray_92 : decode cX12_tray 92 = .ok (.lastore, 1) := by decide +kernel
theorem dX12_tray_93 : decode cX12_tray 93 = .ok (.iinc 4 1, 3) := by decide +kernel
theorem dX12_tray_96 : decode cX12_tray 96 = .ok (.goto (-22), 3) := by decide +kernel
theorem dX12_tray_99 : decode cX12_tray 99 = .ok (.iconst 1, 1) := by decide +kernel
theorem dX12_tray_100 : decode cX12_tray 100 = .ok (.ireturn, 1) := by decide +kernel
theorem dX12_trayed_0 : decode cX12_trayed 0 = .ok (.iload_n 1, 1) := by decide +kernel
theorem dX12_trayed_1 : decode cX12_trayed 1 = .ok (.ifCond .lt 8, 3) := by decide +kernel
theorem dX12_trayed_4 : decode cX12_trayed 4 = .ok (.iload_n 1, 1) := by decide +kernel
theorem dX12_trayed_5 : decode cX12_trayed 5 = .ok (.iconst 4, 1) := by decide +kernel
theorem dX12_trayed_6 : decode cX12_trayed 6 = .ok (.if_icmp .lt 7, 3) := by decide +kernel
theorem dX12_trayed_9 : decode cX12_trayed 9 = .ok (.iconst 1, 1) := by decide +kernel
theorem dX12_trayed_10 : decode cX12_trayed 10 = .ok (.goto 17, 3) := by decide +kernel
theorem dX12_trayed_13 : decode cX12_trayed 13 = .ok (.aload_n 0, 1) := by decide +kernel
theorem dX12_trayed_14 : decode cX12_trayed 14 = .ok (.getfield 17, 3) := by decide +kernel
theorem dX12_trayed_17 : decode cX12_trayed 17 = .ok (.iload_n 1, 1) := by decide +kernel
theorem dX12_trayed_18 : decode cX12_trayed 18 = .ok (.iaload, 1) := by decide +kernel
theorem dX12_trayed_19 : decode cX12_trayed 19 = .ok (.ifCond .ge 7, 3) := by decide +kernel
theorem dX12_trayed_22 : decode cX12_trayed 22 = .ok (.iconst 4, 1) := by decide +kernel
theorem dX12_trayed_23 : decode cX12_trayed 23 = .ok (.goto 4, 3) := by decide +kernel
theorem dX12_trayed_26 : decode cX12_trayed 26 = .ok (.iconst 0, 1) := by decide +kernel
theorem dX12_trayed_27 : decode cX12_trayed 27 = .ok (.ireturn, 1) := by decide +kernel
set_option maxRecDepth 20000 in
theorem ggX12_placed_X12_trayed : GoodIn wsX12_placed wsX12_trayed := goodIn_r _ [6, 1, 7, 8, 9, 10, 11, 12, 13, 14, 15, 16, 17, 18, 19, 20, 21, 22, 23, 24, 25, 26, 27, 28, 29, 30, 31, 32, 33, 34, 35, 36, 37, 38, 39, 40, 41, 42, 43, 44, 45, 46, 47, 48, 49, 50, 51, 52, 53, 54, 55, 56, 57, 58, 59, 60] (by decide +kernel) (by decide +kernel)
set_option maxRecDepth 20000 in
theorem gX12_placed_X12_trayed : GoodIn wsX12_placed (wsV RX12 144 RX12 yX12_trayed wsX12_trayed) := goodIn_app (goodIn_of _ (by decide +kernel)) ggX12_placed_X12_trayed
theorem dX12_placed_0 : decode cX12_placed 0 = .ok (.aload_n 0, 1) := by decide +kernel
theorem dX12_placed_1 : decode cX12_placed 1 = .ok (.iload_n 1, 1) := by decide +kernel
theorem dX12_placed_2 : decode cX12_placed 2 = .ok (.invokevirtual 144, 3) := by decide +kernel
theorem dX12_placed_5 : decode cX12_placed 5 = .ok (.istore_n 3, 1) := by decide +kernel
theorem dX12_placed_6 : decode cX12_placed 6 = .ok (.iload_n 3, 1) := by decide +kernel
theorem dX12_placed_7 : decode cX12_placed 7 = .ok (.ifCond .le 7, 3) := by decide +kernel
theorem dX12_placed_10 : decode cX12_placed 10 = .ok (.iload_n 3, 1) := by decide +kernel
theorem dX12_placed_11 : decode cX12_placed 11 = .ok (.goto 22, 3) := by decide +kernel
theorem dX12_placed_14 : decode cX12_placed 14 = .ok (.iload_n 2, 1) := by decide +kernel
theorem dX12_placed_15 : decode cX12_placed 15 = .ok (.ifCond .lt 13, 3) := by decide +kernel
theorem dX12_placed_18 : decode cX12_placed 18 = .ok (.iload_n 2, 1) := by decide +kernel
theorem dX12_placed_19 : decode cX12_placed 19 = .ok (.aload_n 0, 1) := by decide +kernel
theorem dX12_placed_20 : decode cX12_placed 20 = .ok (.getfield 17, 3) := by decide +kernel
theorem dX12_placed_23 : decode cX12_placed 23 = .ok (.iload_n 1, 1) := by decide +kernel
theorem dX12_placed_24 : decode cX12_placed 24 = .ok (.iaload, 1) := by decide +kernel
theorem dX12_placed_25 : decode cX12_placed 25 = .ok (.if_icmp .lt 7, 3) := by decide +kernel
theorem dX12_placed_28 : decode cX12_placed 28 = .ok (.iconst 5, 1) := by decide +kernel
theorem dX12_placed_29 : decode cX12_placed 29 = .ok (.goto 4, 3) := by decide +kernel
theorem dX12_placed_32 : decode cX12_placed 32 = .ok (.iconst 0, 1) := by decide +kernel
theorem dX12_placed_33 : decode cX12_placed 33 = .ok (.ireturn, 1) := by decide +kernel
set_option maxRecDepth 20000 in
theorem ggX12_write_X12_placed : GoodIn wsX12_write wsX12_placed := goodIn_r _ [9, 10, 11, 12, 13, 8, 14, 18, 19, 20, 21, 22, 23, 24, 25, 26, 27, 28, 29, 30, 31, 32, 33, 34, 35, 36, 37, 38, 39, 40, 41, 42, 43, 44, 45, 46, 47, 48, 49, 50, 51, 52, 53, 54, 55, 56, 57, 58, 59, 60, 61, 62, 63, 64, 65, 66, 67, 68, 69, 70, 71] (by decide +kernel) (by decide +kernel)
