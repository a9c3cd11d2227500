theorem dX11_init_5 : decode cX11_init 5 = .ok (.iconst 4, 1) := by decide +kernel
theorem dX11_init_6 : decode cX11_init 6 = .ok (.anewarray 9, 3) := by decide +kernel
theorem dX11_init_9 : decode cX11_init 9 = .ok (.putfield 11, 3) := by decide +kernel
theorem dX11_init_12 : decode cX11_init 12 = .ok (.iconst 0, 1) := by decide +kernel
theorem dX11_init_13 : decode cX11_init 13 = .ok (.istore_n 1, 1) := by decide +kernel
theorem dX11_init_14 : decode cX11_init 14 = .ok (.iload_n 1, 1) := by decide +kernel
theorem dX11_init_15 : decode cX11_init 15 = .ok (.iconst 4, 1) := by decide +kernel
theorem dX11_init_16 : decode cX11_init 16 = .ok (.if_icmp .ge 22, 3) := by decide +kernel
theorem dX11_init_19 : decode cX11_init 19 = .ok (.aload_n 0, 1) := by decide +kernel
theorem dX11_init_20 : decode cX11_init 20 = .ok (.getfield 11, 3) := by decide +kernel
theorem dX11_init_23 : decode cX11_init 23 = .ok (.iload_n 1, 1) := by decide +kernel
theorem dX11_init_24 : decode cX11_init 24 = .ok (.new 9, 3) := by decide +kernel
theorem dX11_init_27 : decode cX11_init 27 = .ok (.dup, 1) := by decide +kernel
theorem dX11_init_28 : decode cX11_init 28 = .ok (.invokespecial 15, 3) := by decide +kernel
theorem dX11_init_31 : decode cX11_init 31 = .ok (.aastore, 1) := by decide +kernel
theorem dX11_init_32 : decode cX11_init 32 = .ok (.iinc 1 1, 3) := by decide +kernel
theorem dX11_init_35 : decode cX11_init 35 = .ok (.goto (-21), 3) := by decide +kernel
theorem dX11_init_38 : decode cX11_init 38 = .ok (.aload_n 0, 1) := by decide +kernel
theorem dX11_init_39 : decode cX11_init 39 = .ok (.new 16, 3) := by decide +kernel
theorem dX11_init_42 : decode cX11_init 42 = .ok (.dup, 1) := by decide +kernel
theorem dX11_init_43 : decode cX11_init 43 = .ok (.invokespecial 18, 3) := by decide +kernel
theorem dX11_init_46 : decode cX11_init 46 = .ok (.putfield 19, 3) := by decide +kernel
theorem dX11_init_49 : decode cX11_init 49 = .ok (.aload_n 0, 1) := by decide +kernel
theorem dX11_init_50 : decode cX11_init 50 = .ok (.new 23, 3) := by decide +kernel
theorem dX11_init_53 : decode cX11_init 53 = .ok (.dup, 1) := by decide +kernel
theorem dX11_init_54 : decode cX11_init 54 = .ok (.invokespecial 25, 3) := by decide +kernel
theorem dX11_init_57 : decode cX11_init 57 = .ok (.putfield 26, 3) := by decide +kernel
theorem dX11_init_60 : decode cX11_init 60 = .ok (.aload_n 0, 1) := by decide +kernel
theorem dX11_init_61 : decode cX11_init 61 = .ok (.new 30, 3) := by decide +kernel
theorem dX11_init_64 : decode cX11_init 64 = .ok (.dup, 1) := by decide +kernel
theorem dX11_init_65 : decode cX11_init 65 = .ok (.invokespecial 32, 3) := by decide +kernel
theorem dX11_init_68 : decode cX11_init 68 = .ok (.putfield 33, 3) := by decide +kernel
theorem dX11_init_71 : decode cX11_init 71 = .ok (.aload_n 0, 1) := by decide +kernel
theorem dX11_init_72 : decode cX11_init 72 = .ok (.aconst_null, 1) := by decide +kernel
theorem dX11_init_73 : decode cX11_init 73 = .ok (.putfield 37, 3) := by decide +kernel
theorem dX11_init_76 : decode cX11_init 76 = .ok (.aload_n 0, 1) := by decide +kernel
theorem dX11_init_77 : decode cX11_init 77 = .ok (.iconst 0, 1) := by decide +kernel
theorem dX11_init_78 : decode cX11_init 78 = .ok (.putfield 41, 3) := by decide +kernel
theorem dX11_init_81 : decode cX11_init 81 = .ok (.aload_n 0, 1) := by decide +kernel
theorem dX11_init_82 : decode cX11_init 82 = .ok (.lconst 0, 1) := by decide +kernel
theorem dX11_init_83 : decode cX11_init 83 = .ok (.putfield 45, 3) := by decide +kernel
theorem dX11_init_86 : decode cX11_init 86 = .ok (.aload_n 0, 1) := by decide +kernel
theorem dX11_init_87 : decode cX11_init 87 = .ok (.lconst 1, 1) := by decide +kernel
theorem dX11_init_88 : decode cX11_init 88 = .ok (.putfield 49, 3) := by decide +kernel
theorem dX11_init_91 : decode cX11_init 91 = .ok (.return_, 1) := by decide +kernel
theorem dX11_status_0 : decode cX11_status 0 = .ok (.aload_n 0, 1) := by decide +kernel
theorem dX11_status_1 : decode cX11_status 1 = .ok (.getfield 41, 3) := by decide +kernel
theorem dX11_status_4 : decode cX11_status 4 = .ok (.ireturn, 1) := by decide +kernel
set_option maxRecDepth 20000 in
theorem ggX11_tray_X11_statusOfNewTray : GoodIn wsX11_tray wsX11_statusOfNewTray := goodIn_r _ [6, 7, 8, 5, 9] (by decide +kernel) (by decide +kernel)
set_option maxRecDepth 20000 in
theorem gX11_tray_X11_statusOfNewTray : GoodIn wsX11_tray (va_wsS RX11 52 yX11_statusOfNewTray wsX11_statusOfNewTray) := goodIn_app (goodIn_of _ (by decide +kernel)) ggX11_tray_X11_statusOfNewTray
set_option maxRecDepth 20000 in
theorem ggX11_tray_X10_layOut : GoodIn wsX11_tray wsX10_layOut := goodIn_r _ [14, 15, 16, 17, 18, 19, 20, 21, 22, 31, 32, 33, 34] (by decide +kernel) (by decide +kernel)
set_option maxRecDepth 20000 in
theorem gX11_tray_X10_layOut : GoodIn wsX11_tray (wsV RX11 56 RX10 yX10_layOut wsX10_layOut) := goodIn_app (goodIn_of _ (by decide +kernel)) ggX11_tray_X10_layOut
theorem dX11_tray_0 : decode cX11_tray 0 = .ok (.aload_n 0, 1) := by decide +kernel
theorem dX11_tray_1 : decode cX11_tray 1 = .ok (.iload_n 1, 1) := by decide +kernel
theorem dX11_tray_2 : decode cX11_tray 2 = .ok (.iload_n 2, 1) := by decide +kernel
theorem dX11_tray_3 : decode cX11_tray 3 = .ok (.iload_n 3, 1) := by decide +kernel
theorem dX11_tray_4 : decode cX11_tray 4 = .ok (.invokestatic 52, 3) := by decide +kernel
theorem dX11_tray_7 : decode cX11_tray 7 = .ok (.putfield 41, 3) := by decide +kernel
theorem dX11_tray_10 : decode cX11_tray 10 = .ok (.aload_n 0, 1) := by decide +kernel
theorem dX11_tray_11 : decode cX11_tray 11 = .ok (.getfield 41, 3) := by decide +kernel
theorem dX11_tray_14 : decode cX11_tray 14 = .ok (.ifCond .eq 5, 3) := by decide +kernel
theorem dX11_tray_17 : decode cX11_tray 17 = .ok (.iconst 0, 1) := by decide +kernel
theorem dX11_tray_18 : decode cX11_tray 18 = .ok (.ireturn, 1) := by decide +kernel
theorem dX11_tray_19 : decode cX11_tray 19 = .ok (.aload_n 0, 1) := by decide +kernel
theorem dX11_tray_20 : decode cX11_tray 20 = .ok (.getfield 11, 3) := by decide +kernel
theorem dX11_tray_23 : decode cX11_tray 23 = .ok (.iload_n 1, 1) := by decide +kernel
theorem dX11_tray_24 : decode cX11_tray 24 = .ok (.aaload, 1) := by decide +kernel
theorem dX11_tray_25 : decode cX11_tray 25 = .ok (.iload_n 2, 1) := by decide +kernel
theorem dX11_tray_26 : decode cX11_tray 26 = .ok (.iload_n 3, 1) := by decide +kernel
theorem dX11_tray_27 : decode cX11_tray 27 = .ok (.invokevirtual 56, 3) := by decide +kernel
theorem dX11_tray_30 : decode cX11_tray 30 = .ok (.iconst 1, 1) := by decide +kernel
theorem dX11_tray_31 : decode cX11_tray 31 = .ok (.ireturn, 1) := by decide +kernel
set_option maxRecDepth 20000 in
theorem ggX11_statusOfNewTray_X11_isTray : GoodIn wsX11_statusOfNewTray wsX11_isTray := goodIn_r _ [4] (by decide +kernel) (by decide +kernel)
set_option maxRecDepth 20000 in
theorem gX11_statusOfNewTray_X11_isTray : GoodIn wsX11_statusOfNewTray (va_wsS RX11 60 yX11_isTray wsX11_isTray) := goodIn_app (goodIn_of _ (by decide +kernel)) ggX11_statusOfNewTray_X11_isTray
theorem dX11_statusOfNewTray_0 : decode cX11_statusOfNewTray 0 = .ok (.iload_n 0, 1) := by decide +kernel
theorem dX11_statusOfNewTray_1 : decode cX11_statusOfNewTray 1 = .ok (.invokestatic 60, 3) := by decide +kernel
theorem dX11_statusOfNewTray_4 : decode cX11_statusOfNewTray 4 = .ok (.ifCond .eq 12, 3) := by decide +kernel
theorem dX11_statusOfNewTray_7 : decode cX11_statusOfNewTray 7 = .ok (.iload_n 1, 1) := by decide +kernel
theorem dX11_statusOfNewTray_8 : decode cX11_statusOfNewTray 8 = .ok (.ifCond .lt 8, 3) := by decide +kernel
theorem dX11_statusOfNewTray_11 : decode cX11_statusOfNewTray 11 = .ok (.iload_n 1, 1) := by decide +kernel
theorem dX11_statusOfNewTray_12 : decode cX11_statusOfNewTray 12 = .ok (.iconst 4, 1) := by decide +kernel
theorem dX11_statusOfNewTray_13 : decode cX11_statusOfNewTray 13 = .ok (.if_icmp .lt 5, 3) := by decide +kernel
theorem dX11_statusOfNewTray_16 : decode cX11_statusOfNewTray 16 = .ok (.iconst 1, 1) := by decide +kernel
theorem dX11_statusOfNewTray_17 : decode cX11_statusOfNewTray 17 = .ok (.ireturn, 1) := by decide +kernel
theorem dX11_statusOfNewTray_18 : decode cX11_statusOfNewTray 18 = .ok (.iload_n 2, 1) := by decide +kernel
theorem dX11_statusOfNewTray_19 : decode cX11_statusOfNewTray 19 = .ok (.bipush 40, 2) := by decide +kernel
theorem dX11_statusOfNewTray_21 : decode cX11_statusOfNewTray 21 = .ok (.if_icmp .le 5, 3) := by decide +kernel
theorem dX11_statusOfNewTray_24 : decode cX11_statusOfNewTray 24 = .ok (.iconst 2, 1) := by decide +kernel
theorem dX11_statusOfNewTray_25 : decode cX11_statusOfNewTray 25 = .ok (.ireturn, 1) := by decide +kernel
theorem dX11_statusOfNewTray_26 : decode cX11_statusOfNewTray 26 = .ok (.iload_n 2, 1) := by decide +kernel
theorem dX11_statusOfNewTray_27 : decode cX11_statusOfNewTray 27 = .ok (.ifCond .ge 8, 3) := by decide +kernel
theorem dX11_statusOfNewTray_30 : decode cX11_statusOfNewTray 30 = .ok (.bipush 6, 2) := by decide +kernel
theorem dX11_statusOfNewTray_32 : decode cX11_statusOfNewTray 32 = .ok (.goto 4, 3) := by decide +kernel
theorem dX11_statusOfNewTray_35 : decode cX11_statusOfNewTray 35 = .ok (.iconst 0, 1) := by decide +kernel
theorem dX11_statusOfNewTray_36 : decode cX11_statusOfNewTray 36 = .ok (.ireturn, 1) := by decide +kernel
theorem dX11_isTray_0 : decode cX11_isTray 0 = .ok (.iload_n 0, 1) := by decide +kernel
theorem dX11_isTray_1 : decode cX11_isTray 1 = .ok (.ifCond .lt 12, 3) := by decide +kernel
theorem dX11_isTray_4 : decode cX11_isTray 4 = .ok (.iload_n 0, 1) := by decide +kernel
theorem dX11_isTray_5 : decode cX11_isTray 5 = .ok (.iconst 4, 1) := by decide +kernel
theorem dX11_isTray_6 : decode cX11_isTray 6 = .ok (.if_icmp .ge 7, 3) := by decide +kernel
theorem dX11_isTray_9 : decode cX11_isTray 9 = .ok (.iconst 1, 1) := by decide +kernel
theorem dX11_isTray_10 : decode cX11_isTray 10 = .ok (.goto 4, 3) := by decide +kernel
theorem dX11_isTray_13 : decode cX11_isTray 13 = .ok (.iconst 0, 1) := by decide +kernel
theorem dX11_isTray_14 : decode cX11_isTray 14 = .ok (.ireturn, 1) := by decide +kernel
set_option maxRecDepth 20000 in
theorem ggX11_write_X11_statusOfPlace : GoodIn wsX11_write wsX11_statusOfPlace := goodIn_r _ [7, 2, 8, 9, 10, 6, 11, 12, 13, 14, 15, 16, 17, 24, 25, 26, 27, 28, 29, 30, 31, 32, 33, 34, 35] (by decide +kernel) (by decide +kernel)
set_option maxRecDepth 20000 in
theorem gX11_write_X11_statusOfPlace : GoodIn wsX11_write (wsV RX11 64 RX11 yX11_statusOfPlace wsX11_statusOfPlace) := goodIn_app (goodIn_of _ (by decide +kernel)) ggX11_write_X11_statusOfPlace
set_option maxRecDepth 20000 in
theorem ggX11_write_X10_put : GoodIn wsX11_write wsX10_put := goodIn_r _ [21, 22, 23, 32, 33, 34, 35] (by decide +kernel) (by decide +kernel)
set_option maxRecDepth 20000 in
theorem gX11_write_X10_put : GoodIn wsX11_write (wsV RX11 68 RX10 yX10_put wsX10_put) := goodIn_app (goodIn_of _ (by decide +kernel)) ggX11_write_X10_put
theorem dX11_write_0 : decode cX11_write 0 = .ok (.aload_n 0, 1) := by decide +kernel
theorem dX11_write_1 : decode cX11_write 1 = .ok (.aload_n 0, 1) := by decide +kernel
theorem dX11_write_2 : decode cX11_write 2 = .ok (.iload_n 1, 1) := by decide +kernel
theorem dX11_write_3 : decode cX11_write 3 = .ok (.iload_n 2, 1) := by decide +kernel
theorem dX11_write_4 : decode cX11_write 4 = .ok (.invokevirtual 64, 3) := by decide +kernel
theorem dX11_write_7 : decode cX11_write 7 = .ok (.putfield 41, 3) := by decide +kernel
theorem dX11_write_10 : decode cX11_write 10 = .ok (.aload_n 0, 1) := by decide +kernel
theorem dX11_write_11 : decode cX11_write 11 = .ok (.getfield 41, 3) := by decide +kernel
theorem dX11_write_14 : decode cX11_write 14 = .ok (.ifCond .eq 5, 3) := by decide +kernel
theorem dX11_write_17 : decode cX11_write 17 = .ok (.iconst 0, 1) := by decide +kernel
theorem dX11_write_18 : decode cX11_write 18 = .ok (.ireturn, 1) := by decide +kernel
theorem dX11_write_19 : decode cX11_write 19 = .ok (.aload_n 0, 1) := by decide +kernel
theorem dX11_write_20 : decode cX11_write 20 = .ok (.getfield 11, 3) := by decide +kernel
theorem dX11_write_23 : decode cX11_write 23 = .ok (.iload_n 1, 1) := by decide +kernel
theorem dX11_write_24 : decode cX11_write 24 = .ok (.aaload, 1) := by decide +kernel
theorem dX11_write_25 : decode cX11_write 25 = .ok (.iload_n 2, 1) := by decide +kernel
theorem dX11_write_26 : decode cX11_write 26 = .ok (.lload_n 3, 1) := by decide +kernel
theorem dX11_write_27 : decode cX11_write 27 = .ok (.invokevirtual 68, 3) := by decide +kernel
theorem dX11_write_30 : decode cX11_write 30 = .ok (.iconst 1, 1) := by decide +kernel
theorem dX11_write_31 : decode cX11_write 31 = .ok (.ireturn, 1) := by decide +kernel
set_option maxRecDepth 20000 in
theorem ggX11_read_X11_statusOfPlace : GoodIn wsX11_read wsX11_statusOfPlace := goodIn_r _ [9, 2, 10, 11, 12, 8, 13, 14, 15, 16, 17, 18, 19, 20, 21, 22, 23, 24, 25, 26, 27, 28, 29, 30, 31] (by decide +kernel) (by decide +kernel)
set_option maxRecDepth 20000 in
theorem gX11_read_X11_statusOfPlace : GoodIn wsX11_read (wsV RX11 64 RX11 yX11_statusOfPlace wsX11_statusOfPlace) := goodIn_app (goodIn_of _ (by decide +kernel)) ggX11_read_X11_statusOfPlace
theorem dX11_read_0 : decode cX11_read 0 = .ok (.aload_n 0, 1) := by decide +kernel
theorem dX11_read_1 : decode cX11_read 1 = .ok (.aload_n 0, 1) := by decide +kernel
theorem dX11_read_2 : decode cX11_read 2 = .ok (.iload_n 1, 1) := by decide +kernel
theorem dX11_read_3 : decode cX11_read 3 = .ok (.iload_n 2, 1) := by decide +kernel
theorem dX11_read_4 : decode cX11_read 4 = .ok (.invokevirtual 64, 3) := by decide +kernel
theorem dX11_read_7 : decode cX11_read 7 = .ok (.putfield 41, 3) := by decide +kernel
theorem dX11_read_10 : decode cX11_read 10 = .ok (.aload_n 0, 1) := by decide +kernel
theorem dX11_read_11 : decode cX11_read 11 = .ok (.getfield 41, 3) := by decide +kernel
theorem dX11_read_14 : decode cX11_read 14 = .ok (.ifCond .ne 17, 3) := by decide +kernel
theorem dX11_read_17 : decode cX11_read 17 = .ok (.aload_n 0, 1) := by decide +kernel
theorem dX11_read_18 : decode cX11_read 18 = .ok (.getfield 11, 3) := by decide +kernel
theorem dX11_read_21 : decode cX11_read 21 = .ok (.iload_n 1, 1) := by decide +kernel
theorem dX11_read_22 : decode cX11_read 22 = .ok (.aaload, 1) := by decide +kernel
theorem dX11_read_23 : decode cX11_read 23 = .ok (.getfield 72, 3) := by decide +kernel
theorem dX11_read_26 : decode cX11_read 26 = .ok (.iload_n 2, 1) := by decide +kernel
theorem dX11_read_27 : decode cX11_read 27 = .ok (.laload, 1) := by decide +kernel
theorem dX11_read_28 : decode cX11_read 28 = .ok (.goto 6, 3) := by decide +kernel
theorem dX11_read_31 : decode cX11_read 31 = .ok (.ldc2_w 76, 3) := by decide +kernel
theorem dX11_read_34 : decode cX11_read 34 = .ok (.lreturn, 1) := by decide +kernel
set_option maxRecDepth 20000 in
theorem ggX11_statusOfPlace_X11_isTray : GoodIn wsX11_statusOfPlace wsX11_isTray := goodIn_r _ [6] (by decide +kernel) (by decide +kernel)
set_option maxRecDepth 20000 in
theorem gX11_statusOfPlace_X11_isTray : GoodIn wsX11_statusOfPlace (va_wsS RX11 60 yX11_isTray wsX11_isTray) := goodIn_app (goodIn_of _ (by decide +kernel)) ggX11_statusOfPlace_X11_isTray
set_option maxRecDepth 20000 in
theorem ggX11_statusOfPlace_X10_hasPlace : GoodIn wsX11_statusOfPlace wsX10_hasPlace := goodIn_r _ [11, 12, 21, 22, 23, 24] (by decide +kernel) (by decide +kernel)
set_option maxRecDepth 20000 in
theorem gX11_statusOfPlace_X10_hasPlace : GoodIn wsX11_statusOfPlace (wsV RX11 82 RX10 yX10_hasPlace wsX10_hasPlace) := goodIn_app (goodIn_of _ (by decide +kernel)) ggX11_statusOfPlace_X10_hasPlace
theorem dX11_statusOfPlace_0 : decode cX11_statusOfPlace 0 = .ok (.iload_n 1, 1) := by decide +kernel
theorem dX11_statusOfPlace_1 : decode cX11_statusOfPlace 1 = .ok (.invokestatic 60, 3) := by decide +kernel
theorem dX11_statusOfPlace_4 : decode cX11_statusOfPlace 4 = .ok (.ifCond .ne 5, 3) := by decide +kernel
theorem dX11_statusOfPlace_7 : decode cX11_statusOfPlace 7 = .ok (.iconst 1, 1) := by decide +kernel
theorem dX11_statusOfPlace_8 : decode cX11_statusOfPlace 8 = .ok (.ireturn, 1) := by decide +kernel
theorem dX11_statusOfPlace_9 : decode cX11_statusOfPlace 9 = .ok (.aload_n 0, 1) := by decide +kernel
theorem dX11_statusOfPlace_10 : decode cX11_statusOfPlace 10 = .ok (.getfield 11, 3) := by decide +kernel
theorem dX11_statusOfPlace_13 : decode cX11_statusOfPlace 13 = .ok (.iload_n 1, 1) := by decide +kernel
theorem dX11_statusOfPlace_14 : decode cX11_statusOfPlace 14 = .ok (.aaload, 1) := by decide +kernel
theorem dX11_statusOfPlace_15 : decode cX11_statusOfPlace 15 = .ok (.getfield 78, 3) := by decide +kernel
theorem dX11_statusOfPlace_18 : decode cX11_statusOfPlace 18 = .ok (.ifCond .eq 5, 3) := by decide +kernel
theorem dX11_statusOfPlace_21 : decode cX11_statusOfPlace 21 = .ok (.iconst 4, 1) := by decide +kernel
theorem dX11_statusOfPlace_22 : decode cX11_statusOfPlace 22 = .ok (.ireturn, 1) := by decide +kernel
theorem dX11_statusOfPlace_23 : decode cX11_statusOfPlace 23 = .ok (.aload_n 0, 1) := by decide +kernel
theorem dX11_statusOfPlace_24 : decode cX11_statusOfPlace 24 = .ok (.getfield 11, 3) := by decide +kernel
theorem dX11_statusOfPlace_27 : decode cX11_statusOfPlace 27 = .ok (.iload_n 1, 1) := by decide +kernel
theorem dX11_statusOfPlace_28 : decode cX11_statusOfPlace 28 = .ok (.aaload, 1) := by decide +kernel
theorem dX11_statusOfPlace_29 : decode cX11_statusOfPlace 29 = .ok (.iload_n 2, 1) := by decide +kernel
theorem dX11_statusOfPlace_30 : decode cX11_statusOfPlace 30 = .ok (.invokevirtual 82, 3) := by decide +kernel
theorem dX11_statusOfPlace_33 : decode cX11_statusOfPlace 33 = .ok (.ifCond .eq 7, 3) := by decide +kernel
theorem dX11_statusOfPlace_36 : decode cX11_statusOfPlace 36 = .ok (.iconst 0, 1) := by decide +kernel
theorem dX11_statusOfPlace_37 : decode cX11_statusOfPlace 37 = .ok (.goto 4, 3) := by decide +kernel
theorem dX11_statusOfPlace_40 : decode cX11_statusOfPlace 40 = .ok (.iconst 5, 1) := by decide +kernel
theorem dX11_statusOfPlace_41 : decode cX11_statusOfPlace 41 = .ok (.ireturn, 1) := by decide +kernel
set_option maxRecDepth 20000 in
theorem ggX11_pour_X11_statusOfPour : GoodIn wsX11_pour wsX11_statusOfPour := goodIn_r _ [12, 2, 13, 14, 15, 16, 11, 17, 18, 19, 20, 21, 22, 23, 24, 25, 26, 27, 28, 29, 30, 31, 32, 33, 34, 35] (by decide +kernel) (by decide +kernel)
set_option maxRecDepth 20000 in
theorem gX11_pour_X11_statusOfPour : GoodIn wsX11_pour (wsV RX11 85 RX11 yX11_statusOfPour wsX11_statusOfPour) := goodIn_app (goodIn_of _ (by decide +kernel)) ggX11_pour_X11_statusOfPour
theorem dX11_pour_0 : decode cX11_pour 0 = .ok (.aload_n 0, 1) := by decide +kernel
theorem dX11_pour_1 : decode cX11_pour 1 = .ok (.aload_n 0, 1) := by decide +kernel
theorem dX11_pour_2 : decode cX11_pour 2 = .ok (.iload_n 1, 1) := by decide +kernel
theorem dX11_pour_3 : decode cX11_pour 3 = .ok (.iload_n 2, 1) := by decide +kernel
theorem dX11_pour_4 : decode cX11_pour 4 = .ok (.iload_n 3, 1) := by decide +kernel
theorem dX11_pour_5 : decode cX11_pour 5 = .ok (.iload 4, 2) := by decide +kernel
theorem dX11_pour_7 : decode cX11_pour 7 = .ok (.iload 5, 2) := by decide +kernel
theorem dX11_pour_9 : decode cX11_pour 9 = .ok (.invokevirtual 85, 3) := by decide +kernel
theorem dX11_pour_12 : decode cX11_pour 12 = .ok (.putfield 41, 3) := by decide +kernel
theorem dX11_pour_15 : decode cX11_pour 15 = .ok (.aload_n 0, 1) := by decide +kernel
theorem dX11_pour_16 : decode cX11_pour 16 = .ok (.getfield 41, 3) := by decide +kernel
theorem dX11_pour_19 : decode cX11_pour 19 = .ok (.ifCond .eq 5, 3) := by decide +kernel
theorem dX11_pour_22 : decode cX11_pour 22 = .ok (.iconst 0, 1) := by decide +kernel
theorem dX11_pour_23 : decode cX11_pour 23 = .ok (.ireturn, 1) := by decide +kernel
theorem dX11_pour_24 : decode cX11_pour 24 = .ok (.aload_n 0, 1) := by decide +kernel
theorem dX11_pour_25 : decode cX11_pour 25 = .ok (.getfield 11, 3) := by decide +kernel
theorem dX11_pour_28 : decode cX11_pour 28 = .ok (.iload_n 1, 1) := by decide +kernel
theorem dX11_pour_29 : decode cX11_pour 29 = .ok (.aaload, 1) := by decide +kernel
theorem dX11_pour_30 : decode cX11_pour 30 = .ok (.getfield 72, 3) := by decide +kernel
theorem dX11_pour_33 : decode cX11_pour 33 = .ok (.iload_n 2, 1) := by decide +kernel
theorem dX11_pour_34 : decode cX11_pour 34 = .ok (.aload_n 0, 1) := by decide +kernel
theorem dX11_pour_35 : decode cX11_pour 35 = .ok (.getfield 11, 3) := by decide +kernel
theorem dX11_pour_38 : decode cX11_pour 38 = .ok (.iload_n 3, 1) := by decide +kernel
theorem dX11_pour_39 : decode cX11_pour 39 = .ok (.aaload, 1) := by decide +kernel
theorem dX11_pour_40 : decode cX11_pour 40 = .ok (.getfield 72, 3) := by decide +kernel
theorem dX11_pour_43 : decode cX11_pour 43 = .ok (.iload 4, 2) := by decide +kernel
theorem dX11_pour_45 : decode cX11_pour 45 = .ok (.iload 5, 2) := by decide +kernel
theorem dX11_pour_47 : decode cX11_pour 47 = .ok (.invokestatic 89, 3) := by decide +kernel
theorem dX11_pour_50 : decode cX11_pour 50 = .ok (.iconst 1, 1) := by decide +kernel
theorem dX11_pour_51 : decode cX11_pour 51 = .ok (.ireturn, 1) := by decide +kernel
set_option maxRecDepth 20000 in
theorem ggX11_statusOfPour_X11_isTray : GoodIn wsX11_statusOfPour wsX11_isTray := goodIn_r _ [7] (by decide +kernel) (by decide +kernel)
set_option maxRecDepth 20000 in
theorem gX11_statusOfPour_X11_isTray : GoodIn wsX11_statusOfPour (va_wsS RX11 60 yX11_isTray wsX11_isTray) := goodIn_app (goodIn_of _ (by decide +kernel)) ggX11_statusOfPour_X11_isTray
set_option maxRecDepth 20000 in
theorem ggX11_statusOfPour_X10_hasPlaces : GoodIn wsX11_statusOfPour wsX10_hasPlaces := goodIn_r _ [12, 13, 22, 23, 24, 25] (by decide +kernel) (by decide +kernel)
set_option maxRecDepth 20000 in
theorem gX11_statusOfPour_X10_hasPlaces : GoodIn wsX11_statusOfPour (wsV RX11 98 RX10 yX10_hasPlaces wsX10_hasPlaces) := goodIn_app (goodIn_of _ (by decide +kernel)) ggX11_statusOfPour_X10_hasPlaces
theorem dX11_statusOfPour_0 : decode cX11_statusOfPour 0 = .ok (.iload_n 1, 1) := by decide +kernel
theorem dX11_statusOfPour_1 : decode cX11_statusOfPour 1 = .ok (.invokestatic 60, 3) := by decide +kernel
theorem dX11_statusOfPour_4 : decode cX11_statusOfPour 4 = .ok (.ifCond .eq 10, 3) := by decide +kernel
theorem dX11_statusOfPour_7 : decode cX11_statusOfPour 7 = .ok (.iload_n 3, 1) := by decide +kernel
theorem dX11_statusOfPour_8 : decode cX11_statusOfPour 8 = .ok (.invokestatic 60, 3) := by decide +kernel
theorem dX11_statusOfPour_11 : decode cX11_statusOfPour 11 = .ok (.ifCond .ne 5, 3) := by decide +kernel
theorem dX11_statusOfPour_14 : decode cX11_statusOfPour 14 = .ok (.iconst 1, 1) := by decide +kernel
theorem dX11_statusOfPour_15 : decode cX11_statusOfPour 15 = .ok (.ireturn, 1) := by decide +kernel
theorem dX11_statusOfPour_16 : decode cX11_statusOfPour 16 = .ok (.aload_n 0, 1) := by decide +kernel
theorem dX11_statusOfPour_17 : decode cX11_statusOfPour 17 = .ok (.getfield 11, 3) := by decide +kernel
theorem dX11_statusOfPour_20 : decode cX11_statusOfPour 20 = .ok (.iload_n 1, 1) := by decide +kernel
theorem dX11_statusOfPour_21 : decode cX11_statusOfPour 21 = .ok (.aaload, 1) := by decide +kernel
theorem dX11_statusOfPour_22 : decode cX11_statusOfPour 22 = .ok (.astore 6, 2) := by decide +kernel
theorem dX11_statusOfPour_24 : decode cX11_statusOfPour 24 = .ok (.aload_n 0, 1) := by decide +kernel
theorem dX11_statusOfPour_25 : decode cX11_statusOfPour 25 = .ok (.getfield 11, 3) := by decide +kernel
theorem dX11_statusOfPour_28 : decode cX11_statusOfPour 28 = .ok (.iload_n 3, 1) := by decide +kernel
theorem dX11_statusOfPour_29 : decode cX11_statusOfPour 29 = .ok (.aaload, 1) := by decide +kernel
theorem dX11_statusOfPour_30 : decode cX11_statusOfPour 30 = .ok (.astore 7, 2) := by decide +kernel
theorem dX11_statusOfPour_32 : decode cX11_statusOfPour 32 = .ok (.aload 6, 2) := by decide +kernel
theorem dX11_statusOfPour_34 : decode cX11_statusOfPour 34 = .ok (.getfield 78, 3) := by decide +kernel
theorem dX11_statusOfPour_37 : decode cX11_statusOfPour 37 = .ok (.ifCond .ne 11, 3) := by decide +kernel
theorem dX11_statusOfPour_40 : decode cX11_statusOfPour 40 = .ok (.aload 7, 2) := by decide +kernel
theorem dX11_statusOfPour_42 : decode cX11_statusOfPour 42 = .ok (.getfield 78, 3) := by decide +kernel
theorem dX11_statusOfPour_45 : decode cX11_statusOfPour 45 = .ok (.ifCond .eq 5, 3) := by decide +kernel
theorem dX11_statusOfPour_48 : decode cX11_statusOfPour 48 = .ok (.iconst 4, 1) := by decide +kernel
theorem dX11_statusOfPour_49 : decode cX11_statusOfPour 49 = .ok (.ireturn, 1) := by decide +kernel
theorem dX11_statusOfPour_50 : decode cX11_statusOfPour 50 = .ok (.aload 6, 2) := by decide +kernel
theorem dX11_statusOfPour_52 : decode cX11_statusOfPour 52 = .ok (.getfield 95, 3) := by decide +kernel
theorem dX11_statusOfPour_55 : decode cX11_statusOfPour 55 = .ok (.aload 7, 2) := by decide +kernel
theorem dX11_statusOfPour_57 : decode cX11_statusOfPour 57 = .ok (.getfield 95, 3) := by decide +kernel
theorem dX11_statusOfPour_60 : decode cX11_statusOfPour 60 = .ok (.if_icmp .eq 6, 3) := by decide +kernel
theorem dX11_statusOfPour_63 : decode cX11_statusOfPour 63 = .ok (.bipush 11, 2) := by decide +kernel
theorem dX11_statusOfPour_65 : decode cX11_statusOfPour 65 = .ok (.ireturn, 1) := by decide +kernel
theorem dX11_statusOfPour_66 : decode cX11_statusOfPour 66 = .ok (.iload 5, 2) := by decide +kernel
theorem dX11_statusOfPour_68 : decode cX11_statusOfPour 68 = .ok (.ifCond .ge 6, 3) := by decide +kernel
theorem dX11_statusOfPour_71 : decode cX11_statusOfPour 71 = .ok (.bipush 6, 2) := by decide +kernel
theorem dX11_statusOfPour_73 : decode cX11_statusOfPour 73 = .ok (.ireturn, 1) := by decide +kernel
theorem dX11_statusOfPour_74 : decode cX11_statusOfPour 74 = .ok (.aload 6, 2) := by decide +kernel
theorem dX11_statusOfPour_76 : decode cX11_statusOfPour 76 = .ok (.iload_n 2, 1) := by decide +kernel
theorem dX11_statusOfPour_77 : decode cX11_statusOfPour 77 = .ok (.iload 5, 2) := by decide +kernel
theorem dX11_statusOfPour_79 : decode cX11_statusOfPour 79 = .ok (.invokevirtual 98, 3) := by decide +kernel
theorem dX11_statusOfPour_82 : decode cX11_statusOfPour 82 = .ok (.ifCond .eq 19, 3) := by decide +kernel
theorem dX11_statusOfPour_85 : decode cX11_statusOfPour 85 = .ok (.aload 7, 2) := by decide +kernel
theorem dX11_statusOfPour_87 : decode cX11_statusOfPour 87 = .ok (.iload 4, 2) := by decide +kernel
theorem dX11_statusOfPour_89 : decode cX11_statusOfPour 89 = .ok (.iload 5, 2) := by decide +kernel
theorem dX11_statusOfPour_91 : decode cX11_statusOfPour 91 = .ok (.invokevirtual 98, 3) := by decide +kernel
theorem dX11_statusOfPour_94 : decode cX11_statusOfPour 94 = .ok (.ifCond .eq 7, 3) := by decide +kernel
theorem dX11_statusOfPour_97 : decode cX11_statusOfPour 97 = .ok (.iconst 0, 1) := by decide +kernel
theorem dX11_statusOfPour_98 : decode cX11_statusOfPour 98 = .ok (.goto 4, 3) := by decide +kernel
theorem dX11_statusOfPour_101 : decode cX11_statusOfPour 101 = .ok (.iconst 5, 1) := by decide +kernel
theorem dX11_statusOfPour_102 : decode cX11_statusOfPour 102 = .ok (.ireturn, 1) := by decide +kernel
theorem dX11_agent_0 : decode cX11_agent 0 = .ok (.aload_n 0, 1) := by decide +kernel
theorem dX11_agent_1 : decode cX11_agent 1 = .ok (.aload_n 0, 1) := by decide +kernel
theorem dX11_agent_2 : decode cX11_agent 2 = .ok (.getfield 19, 3) := by decide +kernel
theorem dX11_agent_5 : decode cX11_agent 5 = .ok (.getfield 102, 3) := by decide +kernel
theorem dX11_agent_8 : decode cX11_agent 8 = .ok (.bipush 8, 2) := by decide +kernel
theorem dX11_agent_10 : decode cX11_agent 10 = .ok (.if_icmp .ge 7, 3) := by decide +kernel
theorem dX11_agent_13 : decode cX11_agent 13 = .ok (.iconst 0, 1) := by decide +kernel
theorem dX11_agent_14 : decode cX11_agent 14 = .ok (.goto 5, 3) := by decide +kernel
theorem dX11_agent_17 : decode cX11_agent 17 = .ok (.bipush 7, 2) := by decide +kernel
theorem dX11_agent_19 : decode cX11_agent 19 = .ok (.putfield 41, 3) := by decide +kernel
theorem dX11_agent_22 : decode cX11_agent 22 = .ok (.aload_n 0, 1) := by decide +kernel
theorem dX11_agent_23 : decode cX11_agent 23 = .ok (.getfield 41, 3) := by decide +kernel
theorem dX11_agent_26 : decode cX11_agent 26 = .ok (.ifCond .eq 5, 3) := by decide +kernel
theorem dX11_agent_29 : decode cX11_agent 29 = .ok (.iconst (-1), 1) := by decide +kernel
theorem dX11_agent_30 : decode cX11_agent 30 = .ok (.ireturn, 1) := by decide +kernel
theorem dX11_agent_31 : decode cX11_agent 31 = .ok (.aload_n 0, 1) := by decide +kernel
theorem dX11_agent_32 : decode cX11_agent 32 = .ok (.getfield 19, 3) := by decide +kernel
theorem dX11_agent_35 : decode cX11_agent 35 = .ok (.dup, 1) := by decide +kernel
theorem dX11_agent_36 : decode cX11_agent 36 = .ok (.getfield 102, 3) := by decide +kernel
theorem dX11_agent_39 : decode cX11_agent 39 = .ok (.iconst 1, 1) := by decide +kernel
theorem dX11_agent_40 : decode cX11_agent 40 = .ok (.iadd, 1) := by decide +kernel
theorem dX11_agent_41 : decode cX11_agent 41 = .ok (.putfield 102, 3) := by decide +kernel
theorem dX11_agent_44 : decode cX11_agent 44 = .ok (.aload_n 0, 1) := by decide +kernel
theorem dX11_agent_45 : decode cX11_agent 45 = .ok (.getfield 19, 3) := by decide +kernel
theorem dX11_agent_48 : decode cX11_agent 48 = .ok (.getfield 102, 3) := by decide +kernel
theorem dX11_agent_51 : decode cX11_agent 51 = .ok (.iconst 1, 1) := by decide +kernel
theorem dX11_agent_52 : decode cX11_agent 52 = .ok (.isub, 1) := by decide +kernel
theorem dX11_agent_53 : decode cX11_agent 53 = .ok (.ireturn, 1) := by decide +kernel
theorem dX11_editor_0 : decode cX11_editor 0 = .ok (.aload_n 0, 1) := by decide +kernel
theorem dX11_editor_1 : decode cX11_editor 1 = .ok (.aload_n 0, 1) := by decide +kernel
theorem dX11_editor_2 : decode cX11_editor 2 = .ok (.getfield 19, 3) := by decide +kernel
theorem dX11_editor_5 : decode cX11_editor 5 = .ok (.getfield 105, 3) := by decide +kernel
theorem dX11_editor_8 : decode cX11_editor 8 = .ok (.bipush 10, 2) := by decide +kernel
theorem dX11_editor_10 : decode cX11_editor 10 = .ok (.if_icmp .ge 7, 3) := by decide +kernel
theorem dX11_editor_13 : decode cX11_editor 13 = .ok (.iconst 0, 1) := by decide +kernel
theorem dX11_editor_14 : decode cX11_editor 14 = .ok (.goto 5, 3) := by decide +kernel
theorem dX11_editor_17 : decode cX11_editor 17 = .ok (.bipush 7, 2) := by decide +kernel
theorem dX11_editor_19 : decode cX11_editor 19 = .ok (.putfield 41, 3) := by decide +kernel
theorem dX11_editor_22 : decode cX11_editor 22 = .ok (.aload_n 0, 1) := by decide +kernel
theorem dX11_editor_23 : decode cX11_editor 23 = .ok (.getfield 41, 3) := by decide +kernel
theorem dX11_editor_26 : decode cX11_editor 26 = .ok (.ifCond .eq 5, 3) := by decide +kernel
theorem dX11_editor_29 : decode cX11_editor 29 = .ok (.iconst (-1), 1) := by decide +kernel
theorem dX11_editor_30 : decode cX11_editor 30 = .ok (.ireturn, 1) := by decide +kernel
theorem dX11_editor_31 : decode cX11_editor 31 = .ok (.aload_n 0, 1) := by decide +kernel
theorem dX11_editor_32 : decode cX11_editor 32 = .ok (.getfield 19, 3) := by decide +kernel
theorem dX11_editor_35 : decode cX11_editor 35 = .ok (.dup, 1) := by decide +kernel
theorem dX11_editor_36 : decode cX11_editor 36 = .ok (.getfield 105, 3) := by decide +kernel
theorem dX11_editor_39 : decode cX11_editor 39 = .ok (.iconst 1, 1) := by decide +kernel
theorem dX11_editor_40 : decode cX11_editor 40 = .ok (.iadd, 1) := by decide +kernel
theorem dX11_editor_41 : decode cX11_editor 41 = .ok (.putfield 105, 3) := by decide +kernel
theorem dX11_editor_44 : decode cX11_editor 44 = .ok (.aload_n 0, 1) := by decide +kernel
theorem dX11_editor_45 : decode cX11_editor 45 = .ok (.getfield 19, 3) := by decide +kernel
theorem dX11_editor_48 : decode cX11_editor 48 = .ok (.getfield 105, 3) := by decide +kernel
theorem dX11_editor_51 : decode cX11_editor 51 = .ok (.iconst 1, 1) := by decide +kernel
theorem dX11_editor_52 : decode cX11_editor 52 = .ok (.isub, 1) := by decide +kernel
theorem dX11_editor_53 : decode cX11_editor 53 = .ok (.ireturn, 1) := by decide +kernel
theorem dX11_isAgent_0 : decode cX11_isAgent 0 = .ok (.iload_n 1, 1) := by decide +kernel
theorem dX11_isAgent_1 : decode cX11_isAgent 1 = .ok (.ifCond .lt 18, 3) := by decide +kernel
theorem dX11_isAgent_4 : decode cX11_isAgent 4 = .ok (.iload_n 1, 1) := by decide +kernel
theorem dX11_isAgent_5 : decode cX11_isAgent 5 = .ok (.aload_n 0, 1) := by decide +kernel
theorem dX11_isAgent_6 : decode cX11_isAgent 6 = .ok (.getfield 19, 3) := by decide +kernel
theorem dX11_isAgent_9 : decode cX11_isAgent 9 = .ok (.getfield 102, 3) := by decide +kernel
theorem dX11_isAgent_12 : decode cX11_isAgent 12 = .ok (.if_icmp .ge 7, 3) := by decide +kernel
theorem dX11_isAgent_15 : decode cX11_isAgent 15 = .ok (.iconst 1, 1) := by decide +kernel
theorem dX11_isAgent_16 : decode cX11_isAgent 16 = .ok (.goto 4, 3) := by decide +kernel
theorem dX11_isAgent_19 : decode cX11_isAgent 19 = .ok (.iconst 0, 1) := by decide +kernel
theorem dX11_isAgent_20 : decode cX11_isAgent 20 = .ok (.ireturn, 1) := by decide +kernel
theorem dX11_isEditor_0 : decode cX11_isEditor 0 = .ok (.iload_n 1, 1) := by decide +kernel
theorem dX11_isEditor_1 : decode cX11_isEditor 1 = .ok (.ifCond .lt 18, 3) := by decide +kernel
theorem dX11_isEditor_4 : decode cX11_isEditor 4 = .ok (.iload_n 1, 1) := by decide +kernel
theorem dX11_isEditor_5 : decode cX11_isEditor 5 = .ok (.aload_n 0, 1) := by decide +kernel
theorem dX11_isEditor_6 : decode cX11_isEditor 6 = .ok (.getfield 19, 3) := by decide +kernel
theorem dX11_isEditor_9 : decode cX11_isEditor 9 = .ok (.getfield 105, 3) := by decide +kernel
theorem dX11_isEditor_12 : decode cX11_isEditor 12 = .ok (.if_icmp .ge 7, 3) := by decide +kernel
theorem dX11_isEditor_15 : decode cX11_isEditor 15 = .ok (.iconst 1, 1) := by decide +kernel
theorem dX11_isEditor_16 : decode cX11_isEditor 16 = .ok (.goto 4, 3) := by decide +kernel
theorem dX11_isEditor_19 : decode cX11_isEditor 19 = .ok (.iconst 0, 1) := by decide +kernel
theorem dX11_isEditor_20 : decode cX11_isEditor 20 = .ok (.ireturn, 1) := by decide +kernel
set_option maxRecDepth 20000 in
theorem ggX11_hours_X4_changeHours : GoodIn wsX11_hours wsX4_changeHours := goodIn_r _ [7, 8, 9, 18, 19, 20, 21, 22, 23, 24] (by decide +kernel) (by decide +kernel)
set_option maxRecDepth 20000 in
theorem gX11_hours_X4_changeHours : GoodIn wsX11_hours (wsV RX11 108 RX4 yX4_changeHours wsX4_changeHours) := goodIn_app (goodIn_of _ (by decide +kernel)) ggX11_hours_X4_changeHours
theorem dX11_hours_0 : decode cX11_hours 0 = .ok (.aload_n 0, 1) := by decide +kernel
theorem dX11_hours_1 : decode cX11_hours 1 = .ok (.iload_n 1, 1) := by decide +kernel
theorem dX11_hours_2 : decode cX11_hours 2 = .ok (.iconst 1, 1) := by decide +kernel
theorem dX11_hours_3 : decode cX11_hours 3 = .ok (.if_icmp .lt 9, 3) := by decide +kernel
theorem dX11_hours_6 : decode cX11_hours 6 = .ok (.iload_n 1, 1) := by decide +kernel
theorem dX11_hours_7 : decode cX11_hours 7 = .ok (.bipush 8, 2) := by decide +kernel
theorem dX11_hours_9 : decode cX11_hours 9 = .ok (.if_icmp .le 7, 3) := by decide +kernel
theorem dX11_hours_12 : decode cX11_hours 12 = .ok (.iconst 2, 1) := by decide +kernel
theorem dX11_hours_13 : decode cX11_hours 13 = .ok (.goto 4, 3) := by decide +kernel
theorem dX11_hours_16 : decode cX11_hours 16 = .ok (.iconst 0, 1) := by decide +kernel
theorem dX11_hours_17 : decode cX11_hours 17 = .ok (.putfield 41, 3) := by decide +kernel
theorem dX11_hours_20 : decode cX11_hours 20 = .ok (.aload_n 0, 1) := by decide +kernel
theorem dX11_hours_21 : decode cX11_hours 21 = .ok (.getfield 41, 3) := by decide +kernel
theorem dX11_hours_24 : decode cX11_hours 24 = .ok (.ifCond .eq 5, 3) := by decide +kernel
theorem dX11_hours_27 : decode cX11_hours 27 = .ok (.iconst 0, 1) := by decide +kernel
theorem dX11_hours_28 : decode cX11_hours 28 = .ok (.ireturn, 1) := by decide +kernel
theorem dX11_hours_29 : decode cX11_hours 29 = .ok (.aload_n 0, 1) := by decide +kernel
theorem dX11_hours_30 : decode cX11_hours 30 = .ok (.getfield 19, 3) := by decide +kernel
theorem dX11_hours_33 : decode cX11_hours 33 = .ok (.iload_n 1, 1) := by decide +kernel
theorem dX11_hours_34 : decode cX11_hours 34 = .ok (.invokevirtual 108, 3) := by decide +kernel
theorem dX11_hours_37 : decode cX11_hours 37 = .ok (.iconst 1, 1) := by decide +kernel
theorem dX11_hours_38 : decode cX11_hours 38 = .ok (.ireturn, 1) := by decide +kernel
set_option maxRecDepth 20000 in
theorem ggX11_worth_X11_statusOfWorth : GoodIn wsX11_worth wsX11_statusOfWorth := goodIn_r _ [7, 8, 9, 10, 6, 11, 2, 12, 13, 14, 15, 16, 17, 25, 26, 27, 28, 29, 30, 31, 32, 33, 34, 35, 36, 37, 38, 39] (by decide +kernel) (by decide +kernel)
set_option maxRecDepth 20000 in
theorem gX11_worth_X11_statusOfWorth : GoodIn wsX11_worth (wsV RX11 112 RX11 yX11_statusOfWorth wsX11_statusOfWorth) := goodIn_app (goodIn_of _ (by decide +kernel)) ggX11_worth_X11_statusOfWorth
set_option maxRecDepth 20000 in
theorem ggX11_worth_X4_changeWorth : GoodIn wsX11_worth wsX4_changeWorth := goodIn_r _ [22, 23, 24, 33, 34, 35, 36, 37, 38, 39] (by decide +kernel) (by decide +kernel)
set_option maxRecDepth 20000 in
theorem gX11_worth_X4_changeWorth : GoodIn wsX11_worth (wsV RX11 115 RX4 yX4_changeWorth wsX4_changeWorth) := goodIn_app (goodIn_of _ (by decide +kernel)) ggX11_worth_X4_changeWorth
theorem dX11_worth_0 : decode cX11_worth 0 = .ok (.aload_n 0, 1) := by decide +kernel
theorem dX11_worth_1 : decode cX11_worth 1 = .ok (.aload_n 0, 1) := by decide +kernel
theorem dX11_worth_2 : decode cX11_worth 2 = .ok (.iload_n 1, 1) := by decide +kernel
theorem dX11_worth_3 : decode cX11_worth 3 = .ok (.iload_n 2, 1) := by decide +kernel
theorem dX11_worth_4 : decode cX11_worth 4 = .ok (.iload_n 3, 1) := by decide +kernel
theorem dX11_worth_5 : decode cX11_worth 5 = .ok (.invokevirtual 112, 3) := by decide +kernel
theorem dX11_worth_8 : decode cX11_worth 8 = .ok (.putfield 41, 3) := by decide +kernel
theorem dX11_worth_11 : decode cX11_worth 11 = .ok (.aload_n 0, 1) := by decide +kernel
theorem dX11_worth_12 : decode cX11_worth 12 = .ok (.getfield 41, 3) := by decide +kernel
theorem dX11_worth_15 : decode cX11_worth 15 = .ok (.ifCond .eq 5, 3) := by decide +kernel
theorem dX11_worth_18 : decode cX11_worth 18 = .ok (.iconst 0, 1) := by decide +kernel
theorem dX11_worth_19 : decode cX11_worth 19 = .ok (.ireturn, 1) := by decide +kernel
theorem dX11_worth_20 : decode cX11_worth 20 = .ok (.aload_n 0, 1) := by decide +kernel
theorem dX11_worth_21 : decode cX11_worth 21 = .ok (.getfield 19, 3) := by decide +kernel
theorem dX11_worth_24 : decode cX11_worth 24 = .ok (.iload_n 1, 1) := by decide +kernel
theorem dX11_worth_25 : decode cX11_worth 25 = .ok (.iload_n 2, 1) := by decide +kernel
theorem dX11_worth_26 : decode cX11_worth 26 = .ok (.iload_n 3, 1) := by decide +kernel
theorem dX11_worth_27 : decode cX11_worth 27 = .ok (.invokevirtual 115, 3) := by decide +kernel
theorem dX11_worth_30 : decode cX11_worth 30 = .ok (.iconst 1, 1) := by decide +kernel
theorem dX11_worth_31 : decode cX11_worth 31 = .ok (.ireturn, 1) := by decide +kernel
set_option maxRecDepth 20000 in
theorem ggX11_statusOfWorth_X11_isAgent : GoodIn wsX11_statusOfWorth wsX11_isAgent := goodIn_r _ [5, 6, 7, 13, 14, 15, 16, 17, 18, 19, 20, 21, 22, 23, 24, 25, 26, 27] (by decide +kernel) (by decide +kernel)
set_option maxRecDepth 20000 in
theorem gX11_statusOfWorth_X11_isAgent : GoodIn wsX11_statusOfWorth (wsV RX11 119 RX11 yX11_isAgent wsX11_isAgent) := goodIn_app (goodIn_of _ (by decide +kernel)) ggX11_statusOfWorth_X11_isAgent
set_option maxRecDepth 20000 in
theorem ggX11_statusOfWorth_X11_isEditor : GoodIn wsX11_statusOfWorth wsX11_isEditor := goodIn_r _ [11, 6, 12, 13, 14, 15, 16, 17, 18, 19, 20, 21, 22, 23, 24, 25, 26, 27] (by decide +kernel) (by decide +kernel)
set_option maxRecDepth 20000 in
theorem gX11_statusOfWorth_X11_isEditor : GoodIn wsX11_statusOfWorth (wsV RX11 122 RX11 yX11_isEditor wsX11_isEditor) := goodIn_app (goodIn_of _ (by decide +kernel)) ggX11_statusOfWorth_X11_isEditor
theorem dX11_statusOfWorth_0 : decode cX11_statusOfWorth 0 = .ok (.aload_n 0, 1) := by decide +kernel
theorem dX11_statusOfWorth_1 : decode cX11_statusOfWorth 1 = .ok (.iload_n 1, 1) := by decide +kernel
theorem dX11_statusOfWorth_2 : decode cX11_statusOfWorth 2 = .ok (.invokevirtual 119, 3) := by decide +kernel
theorem dX11_statusOfWorth_5 : decode cX11_statusOfWorth 5 = .ok (.ifCond .eq 11, 3) := by decide +kernel
theorem dX11_statusOfWorth_8 : decode cX11_statusOfWorth 8 = .ok (.aload_n 0, 1) := by decide +kernel
theorem dX11_statusOfWorth_9 : decode cX11_statusOfWorth 9 = .ok (.iload_n 2, 1) := by decide +kernel
theorem dX11_statusOfWorth_10 : decode cX11_statusOfWorth 10 = .ok (.invokevirtual 122, 3) := by decide +kernel
theorem dX11_statusOfWorth_13 : decode cX11_statusOfWorth 13 = .ok (.ifCond .ne 5, 3) := by decide +kernel
theorem dX11_statusOfWorth_16 : decode cX11_statusOfWorth 16 = .ok (.iconst 1, 1) := by decide +kernel
theorem dX11_statusOfWorth_17 : decode cX11_statusOfWorth 17 = .ok (.ireturn, 1) := by decide +kernel
theorem dX11_statusOfWorth_18 : decode cX11_statusOfWorth 18 = .ok (.iload_n 3, 1) := by decide +kernel
theorem dX11_statusOfWorth_19 : decode cX11_statusOfWorth 19 = .ok (.ifCond .lt 9, 3) := by decide +kernel
theorem dX11_statusOfWorth_22 : decode cX11_statusOfWorth 22 = .ok (.iload_n 3, 1) := by decide +kernel
theorem dX11_statusOfWorth_23 : decode cX11_statusOfWorth 23 = .ok (.bipush 100, 2) := by decide +kernel
theorem dX11_statusOfWorth_25 : decode cX11_statusOfWorth 25 = .ok (.if_icmp .le 7, 3) := by decide +kernel
theorem dX11_statusOfWorth_28 : decode cX11_statusOfWorth 28 = .ok (.iconst 2, 1) := by decide +kernel
theorem dX11_statusOfWorth_29 : decode cX11_statusOfWorth 29 = .ok (.goto 4, 3) := by decide +kernel
theorem dX11_statusOfWorth_32 : decode cX11_statusOfWorth 32 = .ok (.iconst 0, 1) := by decide +kernel
theorem dX11_statusOfWorth_33 : decode cX11_statusOfWorth 33 = .ok (.ireturn, 1) := by decide +kernel
set_option maxRecDepth 20000 in
theorem ggX11_best_X4_bringUpToDate : GoodIn wsX11_best wsX4_bringUpToDate := goodIn_r _ [8, 9, 10, 11, 12, 13, 14, 15, 16, 17, 18, 19, 20, 21, 22, 23, 24, 25, 26, 27, 28, 29, 30, 31, 32, 33, 34, 35, 36, 37, 38, 39, 40, 41, 42, 43, 44, 45, 46, 47, 48, 49, 50, 51, 52, 53, 54, 55, 56, 57, 58, 59, 60, 61, 62, 63, 64, 65, 66, 67, 68, 69, 70, 71, 72, 73, 74, 75, 76, 77, 78, 79, 80, 81, 82, 83, 84, 85, 86, 87, 88, 89, 90, 91, 92, 93, 94, 95, 96, 97, 7, 98, 99, 100, 101, 102, 103, 104, 105, 106, 107, 108, 109, 110, 111, 112, 113, 114, 115, 116, 117, 118, 119, 120, 121, 122, 123, 124, 125, 126, 127, 128, 129, 130, 131, 132, 133, 134, 135, 136, 137, 138, 139, 140, 141, 154, 155, 156, 157, 158, 159, 160, 161, 162, 163, 164, 165, 166, 167, 168, 169, 170, 171] (by decide +kernel) (by decide +kernel)
set_option maxRecDepth 20000 in
theorem gX11_best_X4_bringUpToDate : GoodIn wsX11_best (wsV RX11 125 RX4 yX4_bringUpToDate wsX4_bringUpToDate) := goodIn_app (goodIn_of _ (by decide +kernel)) ggX11_best_X4_bringUpToDate
set_option maxRecDepth 20000 in
theorem ggX11_best_X1_worthTogether : GoodIn wsX11_best wsX1_worthTogether := goodIn_r _ [145, 22, 20, 161, 162, 163, 164, 165, 166, 167, 168] (by decide +kernel) (by decide +kernel)
set_option maxRecDepth 20000 in
theorem gX11_best_X1_worthTogether : GoodIn wsX11_best (wsV RX11 132 RX1 yX1_worthTogether wsX1_worthTogether) := goodIn_app (goodIn_of _ (by decide +kernel)) ggX11_best_X1_worthTogether
theorem dX11_best_0 : decode cX11_best 0 = .ok (.aload_n 0, 1) := by decide +kernel
theorem dX11_best_1 : decode cX11_best 1 = .ok (.iconst 0, 1) := by decide +kernel
theorem dX11_best_2 : decode cX11_best 2 = .ok (.putfield 41, 3) := by decide +kernel
theorem dX11_best_5 : decode cX11_best 5 = .ok (.aload_n 0, 1) := by decide +kernel
theorem dX11_best_6 : decode cX11_best 6 = .ok (.getfield 19, 3) := by decide +kernel
theorem dX11_best_9 : decode cX11_best 9 = .ok (.invokevirtual 125, 3) := by decide +kernel
theorem dX11_best_12 : decode cX11_best 12 = .ok (.aload_n 0, 1) := by decide +kernel
theorem dX11_best_13 : decode cX11_best 13 = .ok (.getfield 19, 3) := by decide +kernel
theorem dX11_best_16 : decode cX11_best 16 = .ok (.getfield 128, 3) := by decide +kernel
theorem dX11_best_19 : decode cX11_best 19 = .ok (.invokevirtual 132, 3) := by decide +kernel
theorem dX11_best_22 : decode cX11_best 22 = .ok (.ireturn, 1) := by decide +kernel
set_option maxRecDepth 20000 in
theorem ggX11_meets_X11_isAgent : GoodIn wsX11_meets wsX11_isAgent := goodIn_r _ [8, 2, 9, 154, 155, 156, 157, 158, 159, 160, 161, 162, 163, 164, 165, 166, 167, 168] (by decide +kernel) (by decide +kernel)
set_option maxRecDepth 20000 in
theorem gX11_meets_X11_isAgent : GoodIn wsX11_meets (wsV RX11 119 RX11 yX11_isAgent wsX11_isAgent) := goodIn_app (goodIn_of _ (by decide +kernel)) ggX11_meets_X11_isAgent
set_option maxRecDepth 20000 in
theorem ggX11_meets_X11_isEditor : GoodIn wsX11_meets wsX11_isEditor := goodIn_r _ [13, 2, 14, 154, 155, 156, 157, 158, 159, 160, 161, 162, 163, 164, 165, 166, 167, 168] (by decide +kernel) (by decide +kernel)
set_option maxRecDepth 20000 in
theorem gX11_meets_X11_isEditor : GoodIn wsX11_meets (wsV RX11 122 RX11 yX11_isEditor wsX11_isEditor) := goodIn_app (goodIn_of _ (by decide +kernel)) ggX11_meets_X11_isEditor
set_option maxRecDepth 20000 in
theorem ggX11_meets_X4_bringUpToDate : GoodIn wsX11_meets wsX4_bringUpToDate := goodIn_r _ [19, 20, 21, 22, 23, 24, 25, 26, 27, 28, 29, 30, 31, 32, 33, 34, 35, 36, 37, 38, 39, 40, 41, 42, 43, 44, 45, 46, 47, 48, 49, 50, 51, 52, 53, 54, 55, 56, 57, 58, 59, 60, 61, 62, 63, 64, 65, 66, 67, 68, 69, 70, 71, 72, 73, 74, 75, 76, 77, 78, 79, 80, 81, 82, 83, 84, 85, 86, 87, 88, 89, 90, 91, 92, 93, 94, 95, 96, 97, 98, 99, 100, 101, 102, 103, 104, 105, 106, 107, 108, 18, 109, 110, 111, 112, 113, 114, 115, 116, 117, 118, 119, 120, 121, 122, 123, 124, 125, 126, 127, 128, 129, 130, 131, 132, 133, 134, 135, 136, 137, 138, 139, 140, 141, 142, 143, 144, 145, 146, 147, 148, 149, 150, 151, 152, 162, 163, 164, 165, 166, 167, 168, 169, 170, 171, 172, 173, 174, 175, 176, 177, 178, 179] (by decide +kernel) (by decide +kernel)
set_option maxRecDepth 20000 in
theorem gX11_meets_X4_bringUpToDate : GoodIn wsX11_meets (wsV RX11 125 RX4 yX4_bringUpToDate wsX4_bringUpToDate) := goodIn_app (goodIn_of _ (by decide +kernel)) ggX11_meets_X4_bringUpToDate
set_option maxRecDepth 20000 in
theorem ggX11_meets_X9_hourOf : GoodIn wsX11_meets wsX9_hourOf := goodIn_r _ [140, 117, 129, 130, 131, 115, 132, 118, 177, 178, 179] (by decide +kernel) (by decide +kernel)
set_option maxRecDepth 20000 in
theorem gX11_meets_X9_hourOf : GoodIn wsX11_meets (wsV RX11 142 RX9 yX9_hourOf wsX9_hourOf) := goodIn_app (goodIn_of _ (by decide +kernel)) ggX11_meets_X9_hourOf
theorem dX11_meets_0 : decode cX11_meets 0 = .ok (.aload_n 0, 1) := by decide +kernel
theorem dX11_meets_1 : decode cX11_meets 1 = .ok (.aload_n 0, 1) := by decide +kernel
theorem dX11_meets_2 : decode cX11_meets 2 = .ok (.iload_n 1, 1) := by decide +kernel
theorem dX11_meets_3 : decode cX11_meets 3 = .ok (.invokevirtual 119, 3) := by decide +kernel
theorem dX11_meets_6 : decode cX11_meets 6 = .ok (.ifCond .eq 15, 3) := by decide +kernel
theorem dX11_meets_9 : decode cX11_meets 9 = .ok (.aload_n 0, 1) := by decide +kernel
theorem dX11_meets_10 : decode cX11_meets 10 = .ok (.iload_n 2, 1) := by decide +kernel
theorem dX11_meets_11 : decode cX11_meets 11 = .ok (.invokevirtual 122, 3) := by decide +kernel
theorem dX11_meets_14 : decode cX11_meets 14 = .ok (.ifCond .eq 7, 3) := by decide +kernel
theorem dX11_meets_17 : decode cX11_meets 17 = .ok (.iconst 0, 1) := by decide +kernel
theorem dX11_meets_18 : decode cX11_meets 18 = .ok (.goto 4, 3) := by decide +kernel
theorem dX11_meets_21 : decode cX11_meets 21 = .ok (.iconst 1, 1) := by decide +kernel
theorem dX11_meets_22 : decode cX11_meets 22 = .ok (.putfield 41, 3) := by decide +kernel
theorem dX11_meets_25 : decode cX11_meets 25 = .ok (.aload_n 0, 1) := by decide +kernel
theorem dX11_meets_26 : decode cX11_meets 26 = .ok (.getfield 41, 3) := by decide +kernel
theorem dX11_meets_29 : decode cX11_meets 29 = .ok (.ifCond .eq 5, 3) := by decide +kernel
theorem dX11_meets_32 : decode cX11_meets 32 = .ok (.iconst (-1), 1) := by decide +kernel
theorem dX11_meets_33 : decode cX11_meets 33 = .ok (.ireturn, 1) := by decide +kernel
theorem dX11_meets_34 : decode cX11_meets 34 = .ok (.aload_n 0, 1) := by decide +kernel
theorem dX11_meets_35 : decode cX11_meets 35 = .ok (.getfield 19, 3) := by decide +kernel
theorem dX11_meets_38 : decode cX11_meets 38 = .ok (.invokevirtual 125, 3) := by decide +kernel
theorem dX11_meets_41 : decode cX11_meets 41 = .ok (.aload_n 0, 1) := by decide +kernel
theorem dX11_meets_42 : decode cX11_meets 42 = .ok (.getfield 19, 3) := by decide +kernel
theorem dX11_meets_45 : decode cX11_meets 45 = .ok (.getfield 138, 3) := by decide +kernel
theorem dX11_meets_48 : decode cX11_meets 48 = .ok (.iload_n 1, 1) := by decide +kernel
theorem dX11_meets_49 : decode cX11_meets 49 = .ok (.iload_n 2, 1) := by decide +kernel
theorem dX11_meets_50 : decode cX11_meets 50 = .ok (.invokevirtual 142, 3) := by decide +kernel
theorem dX11_meets_53 : decode cX11_meets 53 = .ok (.istore_n 3, 1) := by decide +kernel
theorem dX11_meets_54 : decode cX11_meets 54 = .ok (.aload_n 0, 1) := by decide +kernel
theorem dX11_meets_55 : decode cX11_meets 55 = .ok (.iload_n 3, 1) := by decide +kernel
theorem dX11_meets_56 : decode cX11_meets 56 = .ok (.iconst (-1), 1) := by decide +kernel
theorem dX11_meets_57 : decode cX11_meets 57 = .ok (.if_icmp .ne 8, 3) := by decide +kernel
theorem dX11_meets_60 : decode cX11_meets 60 = .ok (.bipush 9, 2) := by decide +kernel
theorem dX11_meets_62 : decode cX11_meets 62 = .ok (.goto 4, 3) := by decide +kernel
theorem dX11_meets_65 : decode cX11_meets 65 = .ok (.iconst 0, 1) := by decide +kernel
theorem dX11_meets_66 : decode cX11_meets 66 = .ok (.putfield 41, 3) := by decide +kernel
theorem dX11_meets_69 : decode cX11_meets 69 = .ok (.iload_n 3, 1) := by decide +kernel
theorem dX11_meets_70 : decode cX11_meets 70 = .ok (.ireturn, 1) := by decide +kernel
set_option maxRecDepth 20000 in
theorem ggX11_at_X11_statusOfHour : GoodIn wsX11_at wsX11_statusOfHour := goodIn_r _ [8, 2, 9, 10, 11, 12, 7, 13, 14, 154, 155, 156, 157, 158, 159, 160, 161, 162, 163, 164, 165, 166, 167, 168] (by decide +kernel) (by decide +kernel)
set_option maxRecDepth 20000 in
theorem gX11_at_X11_statusOfHour : GoodIn wsX11_at (wsV RX11 147 RX11 yX11_statusOfHour wsX11_statusOfHour) := goodIn_app (goodIn_of _ (by decide +kernel)) ggX11_at_X11_statusOfHour
set_option maxRecDepth 20000 in
theorem ggX11_at_X4_bringUpToDate : GoodIn wsX11_at wsX4_bringUpToDate := goodIn_r _ [19, 20, 21, 22, 23, 24, 25, 26, 27, 28, 29, 30, 31, 32, 33, 34, 35, 36, 37, 38, 39, 40, 41, 42, 43, 44, 45, 46, 47, 48, 49, 50, 51, 52, 53, 54, 55, 56, 57, 58, 59, 60, 61, 62, 63, 64, 65, 66, 67, 68, 69, 70, 71, 72, 73, 74, 75, 76, 77, 78, 79, 80, 81, 82, 83, 84, 85, 86, 87, 88, 89, 90, 91, 92, 93, 94, 95, 96, 97, 98, 99, 100, 101, 102, 103, 104, 105, 106, 107, 108, 18, 109, 110, 111, 112, 113, 114, 115, 116, 117, 118, 119, 120, 121, 122, 123, 124, 125, 126, 127, 128, 129, 130, 131, 132, 133, 134, 135, 136, 137, 138, 139, 140, 141, 142, 143, 144, 145, 146, 147, 148, 149, 150, 151, 152, 162, 163, 164, 165, 166, 167, 168, 169, 170, 171, 172, 173, 174, 175, 176, 177, 178, 179] (by decide +kernel) (by decide +kernel)
set_option maxRecDepth 20000 in
theorem gX11_at_X4_bringUpToDate : GoodIn wsX11_at (wsV RX11 125 RX4 yX4_bringUpToDate wsX4_bringUpToDate) := goodIn_app (goodIn_of _ (by decide +kernel)) ggX11_at_X4_bringUpToDate
set_option maxRecDepth 20000 in
theorem ggX11_at_X9_editorAt : GoodIn wsX11_at wsX9_editorAt := goodIn_r _ [132, 118, 177, 178, 179] (by decide +kernel) (by decide +kernel)
set_option maxRecDepth 20000 in
theorem gX11_at_X9_editorAt : GoodIn wsX11_at (wsV RX11 150 RX9 yX9_editorAt wsX9_editorAt) := goodIn_app (goodIn_of _ (by decide +kernel)) ggX11_at_X9_editorAt
theorem dX11_at_0 : decode cX11_at 0 = .ok (.aload_n 0, 1) := by decide +kernel
theorem dX11_at_1 : decode cX11_at 1 = .ok (.aload_n 0, 1) := by decide +kernel
theorem dX11_at_2 : decode cX11_at 2 = .ok (.iload_n 1, 1) := by decide +kernel
theorem dX11_at_3 : decode cX11_at 3 = .ok (.iload_n 2, 1) := by decide +kernel
theorem dX11_at_4 : decode cX11_at 4 = .ok (.invokevirtual 147, 3) := by decide +kernel
theorem dX11_at_7 : decode cX11_at 7 = .ok (.putfield 41, 3) := by decide +kernel
theorem dX11_at_10 : decode cX11_at 10 = .ok (.aload_n 0, 1) := by decide +kernel
theorem dX11_at_11 : decode cX11_at 11 = .ok (.getfield 41, 3) := by decide +kernel
theorem dX11_at_14 : decode cX11_at 14 = .ok (.ifCond .eq 5, 3) := by decide +kernel
theorem dX11_at_17 : decode cX11_at 17 = .ok (.iconst (-1), 1) := by decide +kernel
theorem dX11_at_18 : decode cX11_at 18 = .ok (.ireturn, 1) := by decide +kernel
theorem dX11_at_19 : decode cX11_at 19 = .ok (.aload_n 0, 1) := by decide +kernel
theorem dX11_at_20 : decode cX11_at 20 = .ok (.getfield 19, 3) := by decide +kernel
theorem dX11_at_23 : decode cX11_at 23 = .ok (.invokevirtual 125, 3) := by decide +kernel
theorem dX11_at_26 : decode cX11_at 26 = .ok (.aload_n 0, 1) := by decide +kernel
theorem dX11_at_27 : decode cX11_at 27 = .ok (.getfield 19, 3) := by decide +kernel
theorem dX11_at_30 : decode cX11_at 30 = .ok (.getfield 138, 3) := by decide +kernel
theorem dX11_at_33 : decode cX11_at 33 = .ok (.iload_n 1, 1) := by decide +kernel
theorem dX11_at_34 : decode cX11_at 34 = .ok (.iload_n 2, 1) := by decide +kernel
theorem dX11_at_35 : decode cX11_at 35 = .ok (.invokevirtual 150, 3) := by decide +kernel
theorem dX11_at_38 : decode cX11_at 38 = .ok (.istore_n 3, 1) := by decide +kernel
theorem dX11_at_39 : decode cX11_at 39 = .ok (.aload_n 0, 1) := by decide +kernel
theorem dX11_at_40 : decode cX11_at 40 = .ok (.iload_n 3, 1) := by decide +kernel
theorem dX11_at_41 : decode cX11_at 41 = .ok (.iconst (-1), 1) := by decide +kernel
theorem dX11_at_42 : decode cX11_at 42 = .ok (.if_icmp .ne 8, 3) := by decide +kernel
theorem dX11_at_45 : decode cX11_at 45 = .ok (.bipush 9, 2) := by decide +kernel
theorem dX11_at_47 : decode cX11_at 47 = .ok (.goto 4, 3) := by decide +kernel
theorem dX11_at_50 : decode cX11_at 50 = .ok (.iconst 0, 1) := by decide +kernel
theorem dX11_at_51 : decode cX11_at 51 = .ok (.putfield 41, 3) := by decide +kernel
theorem dX11_at_54 : decode cX11_at 54 = .ok (.iload_n 3, 1) := by decide +kernel
theorem dX11_at_55 : decode cX11_at 55 = .ok (.ireturn, 1) := by decide +kernel
set_option maxRecDepth 20000 in
theorem ggX11_statusOfHour_X11_isAgent : GoodIn wsX11_statusOfHour wsX11_isAgent := goodIn_r _ [7, 1, 8, 9, 10, 11, 12, 13, 14, 15, 16, 17, 18, 19, 20, 21, 22, 23] (by decide +kernel) (by decide +kernel)
set_option maxRecDepth 20000 in
theorem gX11_statusOfHour_X11_isAgent : GoodIn wsX11_statusOfHour (wsV RX11 119 RX11 yX11_isAgent wsX11_isAgent) := goodIn_app (goodIn_of _ (by decide +kernel)) ggX11_statusOfHour_X11_isAgent
theorem dX11_statusOfHour_0 : decode cX11_statusOfHour 0 = .ok (.aload_n 0, 1) := by decide +kernel
theorem dX11_statusOfHour_1 : decode cX11_statusOfHour 1 = .ok (.iload_n 1, 1) := by decide +kernel
theorem dX11_statusOfHour_2 : decode cX11_statusOfHour 2 = .ok (.invokevirtual 119, 3) := by decide +kernel
theorem dX11_statusOfHour_5 : decode cX11_statusOfHour 5 = .ok (.ifCond .ne 5, 3) := by decide +kernel
theorem dX11_statusOfHour_8 : decode cX11_statusOfHour 8 = .ok (.iconst 1, 1) := by decide +kernel
theorem dX11_statusOfHour_9 : decode cX11_statusOfHour 9 = .ok (.ireturn, 1) := by decide +kernel
theorem dX11_statusOfHour_10 : decode cX11_statusOfHour 10 = .ok (.iload_n 2, 1) := by decide +kernel
theorem dX11_statusOfHour_11 : decode cX11_statusOfHour 11 = .ok (.ifCond .lt 14, 3) := by decide +kernel
theorem dX11_statusOfHour_14 : decode cX11_statusOfHour 14 = .ok (.iload_n 2, 1) := by decide +kernel
theorem dX11_statusOfHour_15 : decode cX11_statusOfHour 15 = .ok (.aload_n 0, 1) := by decide +kernel
theorem dX11_statusOfHour_16 : decode cX11_statusOfHour 16 = .ok (.getfield 19, 3) := by decide +kernel
theorem dX11_statusOfHour_19 : decode cX11_statusOfHour 19 = .ok (.getfield 153, 3) := by decide +kernel
theorem dX11_statusOfHour_22 : decode cX11_statusOfHour 22 = .ok (.if_icmp .lt 7, 3) := by decide +kernel
theorem dX11_statusOfHour_25 : decode cX11_statusOfHour 25 = .ok (.iconst 2, 1) := by decide +kernel
theorem dX11_statusOfHour_26 : decode cX11_statusOfHour 26 = .ok (.goto 4, 3) := by decide +kernel
theorem dX11_statusOfHour_29 : decode cX11_statusOfHour 29 = .ok (.iconst 0, 1) := by decide +kernel
theorem dX11_statusOfHour_30 : decode cX11_statusOfHour 30 = .ok (.ireturn, 1) := by decide +kernel
set_option maxRecDepth 20000 in
theorem ggX11_book_X2_addBook : GoodIn wsX11_book wsX2_addBook := goodIn_r _ [8, 9, 10, 19, 20, 21, 22, 23, 24, 25] (by decide +kernel) (by decide +kernel)
set_option maxRecDepth 20000 in
theorem gX11_book_X2_addBook : GoodIn wsX11_book (wsV RX11 159 RX2 yX2_addBook wsX2_addBook) := goodIn_app (goodIn_of _ (by decide +kernel)) ggX11_book_X2_addBook
theorem dX11_book_0 : decode cX11_book 0 = .ok (.aload_n 0, 1) := by decide +kernel
theorem dX11_book_1 : decode cX11_book 1 = .ok (.aload_n 0, 1) := by decide +kernel
theorem dX11_book_2 : decode cX11_book 2 = .ok (.getfield 26, 3) := by decide +kernel
theorem dX11_book_5 : decode cX11_book 5 = .ok (.getfield 156, 3) := by decide +kernel
theorem dX11_book_8 : decode cX11_book 8 = .ok (.bipush 12, 2) := by decide +kernel
theorem dX11_book_10 : decode cX11_book 10 = .ok (.if_icmp .ge 7, 3) := by decide +kernel
theorem dX11_book_13 : decode cX11_book 13 = .ok (.iconst 0, 1) := by decide +kernel
theorem dX11_book_14 : decode cX11_book 14 = .ok (.goto 5, 3) := by decide +kernel
theorem dX11_book_17 : decode cX11_book 17 = .ok (.bipush 7, 2) := by decide +kernel
theorem dX11_book_19 : decode cX11_book 19 = .ok (.putfield 41, 3) := by decide +kernel
theorem dX11_book_22 : decode cX11_book 22 = .ok (.aload_n 0, 1) := by decide +kernel
theorem dX11_book_23 : decode cX11_book 23 = .ok (.getfield 41, 3) := by decide +kernel
theorem dX11_book_26 : decode cX11_book 26 = .ok (.ifCond .ne 14, 3) := by decide +kernel
theorem dX11_book_29 : decode cX11_book 29 = .ok (.aload_n 0, 1) := by decide +kernel
theorem dX11_book_30 : decode cX11_book 30 = .ok (.getfield 26, 3) := by decide +kernel
theorem dX11_book_33 : decode cX11_book 33 = .ok (.iload_n 1, 1) := by decide +kernel
theorem dX11_book_34 : decode cX11_book 34 = .ok (.invokevirtual 159, 3) := by decide +kernel
theorem dX11_book_37 : decode cX11_book 37 = .ok (.goto 4, 3) := by decide +kernel
theorem dX11_book_40 : decode cX11_book 40 = .ok (.iconst (-1), 1) := by decide +kernel
theorem dX11_book_41 : decode cX11_book 41 = .ok (.ireturn, 1) := by decide +kernel
theorem dX11_isBook_0 : decode cX11_isBook 0 = .ok (.iload_n 1, 1) := by decide +kernel
theorem dX11_isBook_1 : decode cX11_isBook 1 = .ok (.ifCond .lt 18, 3) := by decide +kernel
theorem dX11_isBook_4 : decode cX11_isBook 4 = .ok (.iload_n 1, 1) := by decide +kernel
theorem dX11_isBook_5 : decode cX11_isBook 5 = .ok (.aload_n 0, 1) := by decide +kernel
theorem dX11_isBook_6 : decode cX11_isBook 6 = .ok (.getfield 26, 3) := by decide +kernel
theorem dX11_isBook_9 : decode cX11_isBook 9 = .ok (.getfield 156, 3) := by decide +kernel
theorem dX11_isBook_12 : decode cX11_isBook 12 = .ok (.if_icmp .ge 7, 3) := by decide +kernel
theorem dX11_isBook_15 : decode cX11_isBook 15 = .ok (.iconst 1, 1) := by decide +kernel
theorem dX11_isBook_16 : decode cX11_isBook 16 = .ok (.goto 4, 3) := by decide +kernel
theorem dX11_isBook_19 : decode cX11_isBook 19 = .ok (.iconst 0, 1) := by decide +kernel
theorem dX11_isBook_20 : decode cX11_isBook 20 = .ok (.ireturn, 1) := by decide +kernel
set_option maxRecDepth 20000 in
theorem ggX11_list_X11_statusOfListing : GoodIn wsX11_list wsX11_statusOfListing := goodIn_r _ [7, 2, 8, 9, 10, 6, 11, 12, 13, 14, 15, 16, 17, 18, 19, 20, 21, 22, 23, 24, 29, 30, 31, 32, 33, 34, 35, 36, 37, 38, 39, 40, 41, 42, 43, 44, 45, 46, 47, 48, 49, 50] (by decide +kernel) (by decide +kernel)
set_option maxRecDepth 20000 in
theorem gX11_list_X11_statusOfListing : GoodIn wsX11_list (wsV RX11 163 RX11 yX11_statusOfListing wsX11_statusOfListing) := goodIn_app (goodIn_of _ (by decide +kernel)) ggX11_list_X11_statusOfListing
set_option maxRecDepth 20000 in
theorem ggX11_list_X2_putOnList : GoodIn wsX11_list wsX2_putOnList := goodIn_r _ [28, 24, 37, 38, 39, 40, 41, 42, 43] (by decide +kernel) (by decide +kernel)
set_option maxRecDepth 20000 in
theorem gX11_list_X2_putOnList : GoodIn wsX11_list (wsV RX11 167 RX2 yX2_putOnList wsX2_putOnList) := goodIn_app (goodIn_of _ (by decide +kernel)) ggX11_list_X2_putOnList
theorem dX11_list_0 : decode cX11_list 0 = .ok (.aload_n 0, 1) := by decide +kernel
theorem dX11_list_1 : decode cX11_list 1 = .ok (.aload_n 0, 1) := by decide +kernel
theorem dX11_list_2 : decode cX11_list 2 = .ok (.iload_n 1, 1) := by decide +kernel
theorem dX11_list_3 : decode cX11_list 3 = .ok (.iload_n 2, 1) := by decide +kernel
theorem dX11_list_4 : decode cX11_list 4 = .ok (.iload_n 3, 1) := by decide +kernel
theorem dX11_list_5 : decode cX11_list 5 = .ok (.invokevirtual 163, 3) := by decide +kernel
theorem dX11_list_8 : decode cX11_list 8 = .ok (.putfield 41, 3) := by decide +kernel
theorem dX11_list_11 : decode cX11_list 11 = .ok (.aload_n 0, 1) := by decide +kernel
theorem dX11_list_12 : decode cX11_list 12 = .ok (.getfield 41, 3) := by decide +kernel
theorem dX11_list_15 : decode cX11_list 15 = .ok (.ifCond .eq 5, 3) := by decide +kernel
theorem dX11_list_18 : decode cX11_list 18 = .ok (.iconst 0, 1) := by decide +kernel
theorem dX11_list_19 : decode cX11_list 19 = .ok (.ireturn, 1) := by decide +kernel
theorem dX11_list_20 : decode cX11_list 20 = .ok (.aload_n 0, 1) := by decide +kernel
theorem dX11_list_21 : decode cX11_list 21 = .ok (.getfield 26, 3) := by decide +kernel
theorem dX11_list_24 : decode cX11_list 24 = .ok (.iload_n 1, 1) := by decide +kernel
theorem dX11_list_25 : decode cX11_list 25 = .ok (.iload_n 2, 1) := by decide +kernel
theorem dX11_list_26 : decode cX11_list 26 = .ok (.iload_n 3, 1) := by decide +kernel
theorem dX11_list_27 : decode cX11_list 27 = .ok (.invokevirtual 167, 3) := by decide +kernel
theorem dX11_list_30 : decode cX11_list 30 = .ok (.iconst 1, 1) := by decide +kernel
theorem dX11_list_31 : decode cX11_list 31 = .ok (.ireturn, 1) := by decide +kernel
set_option maxRecDepth 20000 in
theorem ggX11_statusOfListing_X11_isBook : GoodIn wsX11_statusOfListing wsX11_isBook := goodIn_r _ [6, 1, 7, 20, 21, 22, 23, 24, 25, 26, 27, 28, 29, 30, 31, 32, 33, 34] (by decide +kernel) (by decide +kernel)
set_option maxRecDepth 20000 in
theorem gX11_statusOfListing_X11_isBook : GoodIn wsX11_statusOfListing (wsV RX11 171 RX11 yX11_isBook wsX11_isBook) := goodIn_app (goodIn_of _ (by decide +kernel)) ggX11_statusOfListing_X11_isBook
set_option maxRecDepth 20000 in
theorem ggX11_statusOfListing_X11_isEditor : GoodIn wsX11_statusOfListing wsX11_isEditor := goodIn_r _ [11, 12, 13, 20, 21, 22, 23, 24, 25, 26, 27, 35, 36, 37, 38, 39, 40, 41] (by decide +kernel) (by decide +kernel)
set_option maxRecDepth 20000 in
theorem gX11_statusOfListing_X11_isEditor : GoodIn wsX11_statusOfListing (wsV RX11 122 RX11 yX11_isEditor wsX11_isEditor) := goodIn_app (goodIn_of _ (by decide +kernel)) ggX11_statusOfListing_X11_isEditor
set_option maxRecDepth 20000 in
theorem ggX11_statusOfListing_X2_isOnList : GoodIn wsX11_statusOfListing wsX2_isOnList := goodIn_r _ [18, 19, 28, 29, 30, 31, 32, 33, 34] (by decide +kernel) (by decide +kernel)
set_option maxRecDepth 20000 in
theorem gX11_statusOfListing_X2_isOnList : GoodIn wsX11_statusOfListing (wsV RX11 174 RX2 yX2_isOnList wsX2_isOnList) := goodIn_app (goodIn_of _ (by decide +kernel)) ggX11_statusOfListing_X2_isOnList
theorem dX11_statusOfListing_0 : decode cX11_statusOfListing 0 = .ok (.aload_n 0, 1) := by decide +kernel
theorem dX11_statusOfListing_1 : decode cX11_statusOfListing 1 = .ok (.iload_n 1, 1) := by decide +kernel
theorem dX11_statusOfListing_2 : decode cX11_statusOfListing 2 = .ok (.invokevirtual 171, 3) := by decide +kernel
theorem dX11_statusOfListing_5 : decode cX11_statusOfListing 5 = .ok (.ifCond .eq 11, 3) := by decide +kernel
theorem dX11_statusOfListing_8 : decode cX11_statusOfListing 8 = .ok (.aload_n 0, 1) := by decide +kernel
theorem dX11_statusOfListing_9 : decode cX11_statusOfListing 9 = .ok (.iload_n 2, 1) := by decide +kernel
theorem dX11_statusOfListing_10 : decode cX11_statusOfListing 10 = .ok (.invokevirtual 122, 3) := by decide +kernel
theorem dX11_statusOfListing_13 : decode cX11_statusOfListing 13 = .ok (.ifCond .ne 5, 3) := by decide +kernel
theorem dX11_statusOfListing_16 : decode cX11_statusOfListing 16 = .ok (.iconst 1, 1) := by decide +kernel
theorem dX11_statusOfListing_17 : decode cX11_statusOfListing 17 = .ok (.ireturn, 1) := by decide +kernel
theorem dX11_statusOfListing_18 : decode cX11_statusOfListing 18 = .ok (.aload_n 0, 1) := by decide +kernel
theorem dX11_statusOfListing_19 : decode cX11_statusOfListing 19 = .ok (.getfield 26, 3) := by decide +kernel
theorem dX11_statusOfListing_22 : decode cX11_statusOfListing 22 = .ok (.iload_n 1, 1) := by decide +kernel
theorem dX11_statusOfListing_23 : decode cX11_statusOfListing 23 = .ok (.iload_n 2, 1) := by decide +kernel
theorem dX11_statusOfListing_24 : decode cX11_statusOfListing 24 = .ok (.invokevirtual 174, 3) := by decide +kernel
theorem dX11_statusOfListing_27 : decode cX11_statusOfListing 27 = .ok (.iload_n 3, 1) := by decide +kernel
theorem dX11_statusOfListing_28 : decode cX11_statusOfListing 28 = .ok (.if_icmp .ne 8, 3) := by decide +kernel
theorem dX11_statusOfListing_31 : decode cX11_statusOfListing 31 = .ok (.bipush 8, 2) := by decide +kernel
theorem dX11_statusOfListing_33 : decode cX11_statusOfListing 33 = .ok (.goto 4, 3) := by decide +kernel
theorem dX11_statusOfListing_36 : decode cX11_statusOfListing 36 = .ok (.iconst 0, 1) := by decide +kernel
theorem dX11_statusOfListing_37 : decode cX11_statusOfListing 37 = .ok (.ireturn, 1) := by decide +kernel
set_option maxRecDepth 20000 in
theorem ggX11_hears_X11_isEditor : GoodIn wsX11_hears wsX11_isEditor := goodIn_r _ [7, 8, 9, 26, 27, 28, 29, 30, 31, 32, 33, 34, 35, 36, 37, 38, 39, 40] (by decide +kernel) (by decide +kernel)
set_option maxRecDepth 20000 in
theorem gX11_hears_X11_isEditor : GoodIn wsX11_hears (wsV RX11 122 RX11 yX11_isEditor wsX11_isEditor) := goodIn_app (goodIn_of _ (by decide +kernel)) ggX11_hears_X11_isEditor
set_option maxRecDepth 20000 in
theorem ggX11_hears_X11_isBook : GoodIn wsX11_hears wsX11_isBook := goodIn_r _ [13, 2, 14, 26, 27, 28, 29, 30, 31, 32, 33, 41, 42, 43, 44, 45, 46, 47] (by decide +kernel) (by decide +kernel)
set_option maxRecDepth 20000 in
theorem gX11_hears_X11_isBook : GoodIn wsX11_hears (wsV RX11 171 RX11 yX11_isBook wsX11_isBook) := goodIn_app (goodIn_of _ (by decide +kernel)) ggX11_hears_X11_isBook
set_option maxRecDepth 20000 in
theorem ggX11_hears_X2_isTold : GoodIn wsX11_hears wsX2_isTold := goodIn_r _ [19, 20, 21, 22, 23, 18, 24, 25, 41, 42, 43, 44, 45, 46, 47] (by decide +kernel) (by decide +kernel)
set_option maxRecDepth 20000 in
theorem gX11_hears_X2_isTold : GoodIn wsX11_hears (wsV RX11 177 RX2 yX2_isTold wsX2_isTold) := goodIn_app (goodIn_of _ (by decide +kernel)) ggX11_hears_X2_isTold
theorem dX11_hears_0 : decode cX11_hears 0 = .ok (.aload_n 0, 1) := by decide +kernel
theorem dX11_hears_1 : decode cX11_hears 1 = .ok (.aload_n 0, 1) := by decide +kernel
theorem dX11_hears_2 : decode cX11_hears 2 = .ok (.iload_n 2, 1) := by decide +kernel
theorem dX11_hears_3 : decode cX11_hears 3 = .ok (.invokevirtual 122, 3) := by decide +kernel
theorem dX11_hears_6 : decode cX11_hears 6 = .ok (.ifCond .eq 7, 3) := by decide +kernel
theorem dX11_hears_9 : decode cX11_hears 9 = .ok (.iconst 0, 1) := by decide +kernel
theorem dX11_hears_10 : decode cX11_hears 10 = .ok (.goto 4, 3) := by decide +kernel
theorem dX11_hears_13 : decode cX11_hears 13 = .ok (.iconst 1, 1) := by decide +kernel
theorem dX11_hears_14 : decode cX11_hears 14 = .ok (.putfield 41, 3) := by decide +kernel
theorem dX11_hears_17 : decode cX11_hears 17 = .ok (.aload_n 0, 1) := by decide +kernel
theorem dX11_hears_18 : decode cX11_hears 18 = .ok (.getfield 41, 3) := by decide +kernel
theorem dX11_hears_21 : decode cX11_hears 21 = .ok (.ifCond .eq 5, 3) := by decide +kernel
theorem dX11_hears_24 : decode cX11_hears 24 = .ok (.iconst (-1), 1) := by decide +kernel
theorem dX11_hears_25 : decode cX11_hears 25 = .ok (.ireturn, 1) := by decide +kernel
theorem dX11_hears_26 : decode cX11_hears 26 = .ok (.aload_n 0, 1) := by decide +kernel
theorem dX11_hears_27 : decode cX11_hears 27 = .ok (.iload_n 1, 1) := by decide +kernel
theorem dX11_hears_28 : decode cX11_hears 28 = .ok (.invokevirtual 171, 3) := by decide +kernel
theorem dX11_hears_31 : decode cX11_hears 31 = .ok (.ifCond .eq 19, 3) := by decide +kernel
theorem dX11_hears_34 : decode cX11_hears 34 = .ok (.aload_n 0, 1) := by decide +kernel
theorem dX11_hears_35 : decode cX11_hears 35 = .ok (.getfield 26, 3) := by decide +kernel
theorem dX11_hears_38 : decode cX11_hears 38 = .ok (.iload_n 1, 1) := by decide +kernel
theorem dX11_hears_39 : decode cX11_hears 39 = .ok (.iload_n 2, 1) := by decide +kernel
theorem dX11_hears_40 : decode cX11_hears 40 = .ok (.invokevirtual 177, 3) := by decide +kernel
theorem dX11_hears_43 : decode cX11_hears 43 = .ok (.ifCond .eq 7, 3) := by decide +kernel
theorem dX11_hears_46 : decode cX11_hears 46 = .ok (.iconst 1, 1) := by decide +kernel
theorem dX11_hears_47 : decode cX11_hears 47 = .ok (.goto 4, 3) := by decide +kernel
theorem dX11_hears_50 : decode cX11_hears 50 = .ok (.iconst 0, 1) := by decide +kernel
theorem dX11_hears_51 : decode cX11_hears 51 = .ok (.ireturn, 1) := by decide +kernel
set_option maxRecDepth 20000 in
theorem ggX11_grant_X8_init : GoodIn wsX11_grant wsX8_init := goodIn_r _ [8, 9, 10, 11, 12, 13, 14, 15, 16, 92, 93, 94, 95, 96] (by decide +kernel) (by decide +kernel)
set_option maxRecDepth 20000 in
theorem gX11_grant_X8_init : GoodIn wsX11_grant (wsX8_init) := ggX11_grant_X8_init
set_option maxRecDepth 20000 in
theorem ggX11_grant_X11_statusOfGrant : GoodIn wsX11_grant wsX11_statusOfGrant := goodIn_r _ [21, 5, 22, 23, 24, 25, 20, 26, 27, 28, 29, 30, 31, 32, 33, 34, 35, 36, 3, 37, 12, 13, 14, 15, 16, 38, 39, 40, 41, 42, 43, 44, 45, 46, 47, 48, 49, 50, 51, 52, 53, 54, 55, 56, 57, 58, 59, 60, 61, 62, 63, 64, 65, 66, 67, 68, 69, 70, 71, 72, 73, 74, 75, 76, 77, 78, 79, 97, 98, 99, 100, 101, 102, 103, 104, 105, 106, 107, 108, 109, 110, 111, 112, 113, 114, 115, 116, 117, 118, 92, 93, 94, 95, 96, 119, 120, 121, 122, 123] (by decide +kernel) (by decide +kernel)
set_option maxRecDepth 20000 in
theorem gX11_grant_X11_statusOfGrant : GoodIn wsX11_grant (wsV RX11 185 RX11 yX11_statusOfGrant wsX11_statusOfGrant) := goodIn_app (goodIn_of _ (by decide +kernel)) ggX11_grant_X11_statusOfGrant
set_option maxRecDepth 20000 in
theorem ggX11_grant_X2_addGrant : GoodIn wsX11_grant wsX2_addGrant := goodIn_r _ [83, 50, 49, 84, 85, 55, 86, 87, 88, 89, 10, 11, 90, 68, 91, 57, 64, 63, 105, 106, 107, 108, 109, 110, 111, 119, 120, 121, 122, 123, 92, 93, 94, 95, 96] (by decide +kernel) (by decide +kernel)
set_option maxRecDepth 20000 in
theorem gX11_grant_X2_addGrant : GoodIn wsX11_grant (wsV RX11 189 RX2 yX2_addGrant wsX2_addGrant) := goodIn_app (goodIn_of _ (by decide +kernel)) ggX11_grant_X2_addGrant
theorem dX11_grant_0 : decode cX11_grant 0 = .ok (.new 180, 3) := by decide +kernel
theorem dX11_grant_3 : decode cX11_grant 3 = .ok (.dup, 1) := by decide +kernel
theorem dX11_grant_4 : decode cX11_grant 4 = .ok (.iload_n 3, 1) := by decide +kernel
theorem dX11_grant_5 : decode cX11_grant 5 = .ok (.iload 4, 2) := by decide +kernel
theorem dX11_grant_7 : decode cX11_grant 7 = .ok (.iload 5, 2) := by decide +kernel
theorem dX11_grant_9 : decode cX11_grant 9 = .ok (.iload 6, 2) := by decide +kernel
theorem dX11_grant_11 : decode cX11_grant 11 = .ok (.iload 7, 2) := by decide +kernel
theorem dX11_grant_13 : decode cX11_grant 13 = .ok (.invokespecial 182, 3) := by decide +kernel
theorem dX11_grant_16 : decode cX11_grant 16 = .ok (.astore 8, 2) := by decide +kernel
theorem dX11_grant_18 : decode cX11_grant 18 = .ok (.aload_n 0, 1) := by decide +kernel
theorem dX11_grant_19 : decode cX11_grant 19 = .ok (.aload_n 0, 1) := by decide +kernel
theorem dX11_grant_20 : decode cX11_grant 20 = .ok (.iload_n 1, 1) := by decide +kernel
theorem dX11_grant_21 : decode cX11_grant 21 = .ok (.iload_n 2, 1) := by decide +kernel
theorem dX11_grant_22 : decode cX11_grant 22 = .ok (.aload 8, 2) := by decide +kernel
theorem dX11_grant_24 : decode cX11_grant 24 = .ok (.invokevirtual 185, 3) := by decide +kernel
theorem dX11_grant_27 : decode cX11_grant 27 = .ok (.putfield 41, 3) := by decide +kernel
theorem dX11_grant_30 : decode cX11_grant 30 = .ok (.aload_n 0, 1) := by decide +kernel
theorem dX11_grant_31 : decode cX11_grant 31 = .ok (.getfield 41, 3) := by decide +kernel
theorem dX11_grant_34 : decode cX11_grant 34 = .ok (.ifCond .ne 17, 3) := by decide +kernel
theorem dX11_grant_37 : decode cX11_grant 37 = .ok (.aload_n 0, 1) := by decide +kernel
theorem dX11_grant_38 : decode cX11_grant 38 = .ok (.getfield 26, 3) := by decide +kernel
theorem dX11_grant_41 : decode cX11_grant 41 = .ok (.iload_n 1, 1) := by decide +kernel
theorem dX11_grant_42 : decode cX11_grant 42 = .ok (.iload_n 2, 1) := by decide +kernel
theorem dX11_grant_43 : decode cX11_grant 43 = .ok (.aload 8, 2) := by decide +kernel
theorem dX11_grant_45 : decode cX11_grant 45 = .ok (.invokevirtual 189, 3) := by decide +kernel
theorem dX11_grant_48 : decode cX11_grant 48 = .ok (.goto 4, 3) := by decide +kernel
theorem dX11_grant_51 : decode cX11_grant 51 = .ok (.iconst (-1), 1) := by decide +kernel
theorem dX11_grant_52 : decode cX11_grant 52 = .ok (.ireturn, 1) := by decide +kernel
set_option maxRecDepth 20000 in
theorem ggX11_statusOfGrant_X11_isBook : GoodIn wsX11_statusOfGrant wsX11_isBook := goodIn_r _ [7, 1, 8, 67, 68, 69, 70, 71, 72, 73, 74, 75, 76, 77, 78, 79, 80, 81] (by decide +kernel) (by decide +kernel)
set_option maxRecDepth 20000 in
theorem gX11_statusOfGrant_X11_isBook : GoodIn wsX11_statusOfGrant (wsV RX11 171 RX11 yX11_isBook wsX11_isBook) := goodIn_app (goodIn_of _ (by decide +kernel)) ggX11_statusOfGrant_X11_isBook
set_option maxRecDepth 20000 in
theorem ggX11_statusOfGrant_X11_isEditor : GoodIn wsX11_statusOfGrant wsX11_isEditor := goodIn_r _ [12, 13, 14, 67, 68, 69, 70, 71, 72, 73, 74, 82, 83, 84, 85, 86, 87, 88] (by decide +kernel) (by decide +kernel)
set_option maxRecDepth 20000 in
theorem gX11_statusOfGrant_X11_isEditor : GoodIn wsX11_statusOfGrant (wsV RX11 122 RX11 yX11_isEditor wsX11_isEditor) := goodIn_app (goodIn_of _ (by decide +kernel)) ggX11_statusOfGrant_X11_isEditor
set_option maxRecDepth 20000 in
theorem ggX11_statusOfGrant_X8_canBe : GoodIn wsX11_statusOfGrant wsX8_canBe := goodIn_r _ [19, 20, 21, 22, 23, 24, 25, 6, 26, 89, 90, 91, 92, 93] (by decide +kernel) (by decide +kernel)
set_option maxRecDepth 20000 in
theorem gX11_statusOfGrant_X8_canBe : GoodIn wsX11_statusOfGrant (wsV RX11 192 RX8 yX8_canBe wsX8_canBe) := goodIn_app (goodIn_of _ (by decide +kernel)) ggX11_statusOfGrant_X8_canBe
set_option maxRecDepth 20000 in
theorem ggX11_statusOfGrant_X2_wouldClash : GoodIn wsX11_statusOfGrant wsX2_wouldClash := goodIn_r _ [31, 32, 33, 34, 30, 35, 36, 37, 38, 39, 40, 41, 42, 43, 44, 45, 46, 47, 48, 49, 50, 51, 52, 53, 54, 55, 56, 57, 58, 18, 59, 20, 21, 22, 60, 61, 62, 63, 64, 65, 66, 75, 76, 77, 78, 79, 80, 81, 94, 95, 96, 97, 98, 89, 90, 91, 92, 93] (by decide +kernel) (by decide +kernel)
set_option maxRecDepth 20000 in
theorem gX11_statusOfGrant_X2_wouldClash : GoodIn wsX11_statusOfGrant (wsV RX11 199 RX2 yX2_wouldClash wsX2_wouldClash) := goodIn_app (goodIn_of _ (by decide +kernel)) ggX11_statusOfGrant_X2_wouldClash
theorem dX11_statusOfGrant_0 : decode cX11_statusOfGrant 0 = .ok (.aload_n 0, 1) := by decide +kernel
theorem dX11_statusOfGrant_1 : decode cX11_statusOfGrant 1 = .ok (.iload_n 1, 1) := by decide +kernel
theorem dX11_statusOfGrant_2 : decode cX11_statusOfGrant 2 = .ok (.invokevirtual 171, 3) := by decide +kernel
theorem dX11_statusOfGrant_5 : decode cX11_statusOfGrant 5 = .ok (.ifCond .eq 11, 3) := by decide +kernel
theorem dX11_statusOfGrant_8 : decode cX11_statusOfGrant 8 = .ok (.aload_n 0, 1) := by decide +kernel
theorem dX11_statusOfGrant_9 : decode cX11_statusOfGrant 9 = .ok (.iload_n 2, 1) := by decide +kernel
theorem dX11_statusOfGrant_10 : decode cX11_statusOfGrant 10 = .ok (.invokevirtual 122, 3) := by decide +kernel
theorem dX11_statusOfGrant_13 : decode cX11_statusOfGrant 13 = .ok (.ifCond .ne 5, 3) := by decide +kernel
theorem dX11_statusOfGrant_16 : decode cX11_statusOfGrant 16 = .ok (.iconst 1, 1) := by decide +kernel
theorem dX11_statusOfGrant_17 : decode cX11_statusOfGrant 17 = .ok (.ireturn, 1) := by decide +kernel
theorem dX11_statusOfGrant_18 : decode cX11_statusOfGrant 18 = .ok (.aload_n 3, 1) := by decide +kernel
theorem dX11_statusOfGrant_19 : decode cX11_statusOfGrant 19 = .ok (.invokevirtual 192, 3) := by decide +kernel
theorem dX11_statusOfGrant_22 : decode cX11_statusOfGrant 22 = .ok (.ifCond .ne 5, 3) := by decide +kernel
theorem dX11_statusOfGrant_25 : decode cX11_statusOfGrant 25 = .ok (.iconst 2, 1) := by decide +kernel
theorem dX11_statusOfGrant_26 : decode cX11_statusOfGrant 26 = .ok (.ireturn, 1) := by decide +kernel
theorem dX11_statusOfGrant_27 : decode cX11_statusOfGrant 27 = .ok (.aload_n 0, 1) := by decide +kernel
theorem dX11_statusOfGrant_28 : decode cX11_statusOfGrant 28 = .ok (.getfield 26, 3) := by decide +kernel
theorem dX11_statusOfGrant_31 : decode cX11_statusOfGrant 31 = .ok (.getfield 196, 3) := by decide +kernel
theorem dX11_statusOfGrant_34 : decode cX11_statusOfGrant 34 = .ok (.bipush 60, 2) := by decide +kernel
theorem dX11_statusOfGrant_36 : decode cX11_statusOfGrant 36 = .ok (.if_icmp .lt 6, 3) := by decide +kernel
theorem dX11_statusOfGrant_39 : decode cX11_statusOfGrant 39 = .ok (.bipush 7, 2) := by decide +kernel
theorem dX11_statusOfGrant_41 : decode cX11_statusOfGrant 41 = .ok (.ireturn, 1) := by decide +kernel
theorem dX11_statusOfGrant_42 : decode cX11_statusOfGrant 42 = .ok (.aload_n 0, 1) := by decide +kernel
theorem dX11_statusOfGrant_43 : decode cX11_statusOfGrant 43 = .ok (.getfield 26, 3) := by decide +kernel
theorem dX11_statusOfGrant_46 : decode cX11_statusOfGrant 46 = .ok (.iload_n 1, 1) := by decide +kernel
theorem dX11_statusOfGrant_47 : decode cX11_statusOfGrant 47 = .ok (.aload_n 3, 1) := by decide +kernel
theorem dX11_statusOfGrant_48 : decode cX11_statusOfGrant 48 = .ok (.invokevirtual 199, 3) := by decide +kernel
theorem dX11_statusOfGrant_51 : decode cX11_statusOfGrant 51 = .ok (.ifCond .eq 8, 3) := by decide +kernel
theorem dX11_statusOfGrant_54 : decode cX11_statusOfGrant 54 = .ok (.bipush 10, 2) := by decide +kernel
theorem dX11_statusOfGrant_56 : decode cX11_statusOfGrant 56 = .ok (.goto 4, 3) := by decide +kernel
theorem dX11_statusOfGrant_59 : decode cX11_statusOfGrant 59 = .ok (.iconst 0, 1) := by decide +kernel
theorem dX11_statusOfGrant_60 : decode cX11_statusOfGrant 60 = .ok (.ireturn, 1) := by decide +kernel
set_option maxRecDepth 20000 in
theorem ggX11_end_X11_statusOfEnd : GoodIn wsX11_end wsX11_statusOfEnd := goodIn_r _ [8, 2, 9, 3, 10, 11, 12, 7, 13, 25, 26, 27, 28, 29, 30, 31, 32, 33, 34, 35, 36, 37, 38, 39, 40, 41, 42, 43, 44] (by decide +kernel) (by decide +kernel)
set_option maxRecDepth 20000 in
theorem gX11_end_X11_statusOfEnd : GoodIn wsX11_end (wsV RX11 203 RX11 yX11_statusOfEnd wsX11_statusOfEnd) := goodIn_app (goodIn_of _ (by decide +kernel)) ggX11_end_X11_statusOfEnd
set_option maxRecDepth 20000 in
theorem ggX11_end_X3_endOn : GoodIn wsX11_end wsX3_endOn := goodIn_r _ [18, 19, 20, 21, 22, 23, 24, 40, 41, 42, 43, 44] (by decide +kernel) (by decide +kernel)
set_option maxRecDepth 20000 in
theorem gX11_end_X3_endOn : GoodIn wsX11_end (wsV RX11 210 RX3 yX3_endOn wsX3_endOn) := goodIn_app (goodIn_of _ (by decide +kernel)) ggX11_end_X3_endOn
theorem dX11_end_0 : decode cX11_end 0 = .ok (.aload_n 0, 1) := by decide +kernel
theorem dX11_end_1 : decode cX11_end 1 = .ok (.aload_n 0, 1) := by decide +kernel
theorem dX11_end_2 : decode cX11_end 2 = .ok (.iload_n 1, 1) := by decide +kernel
theorem dX11_end_3 : decode cX11_end 3 = .ok (.iload_n 2, 1) := by decide +kernel
theorem dX11_end_4 : decode cX11_end 4 = .ok (.invokevirtual 203, 3) := by decide +kernel
theorem dX11_end_7 : decode cX11_end 7 = .ok (.putfield 41, 3) := by decide +kernel
theorem dX11_end_10 : decode cX11_end 10 = .ok (.aload_n 0, 1) := by decide +kernel
theorem dX11_end_11 : decode cX11_end 11 = .ok (.getfield 41, 3) := by decide +kernel
theorem dX11_end_14 : decode cX11_end 14 = .ok (.ifCond .eq 5, 3) := by decide +kernel
theorem dX11_end_17 : decode cX11_end 17 = .ok (.iconst 0, 1) := by decide +kernel
theorem dX11_end_18 : decode cX11_end 18 = .ok (.ireturn, 1) := by decide +kernel
theorem dX11_end_19 : decode cX11_end 19 = .ok (.aload_n 0, 1) := by decide +kernel
theorem dX11_end_20 : decode cX11_end 20 = .ok (.getfield 26, 3) := by decide +kernel
theorem dX11_end_23 : decode cX11_end 23 = .ok (.getfield 206, 3) := by decide +kernel
theorem dX11_end_26 : decode cX11_end 26 = .ok (.iload_n 1, 1) := by decide +kernel
theorem dX11_end_27 : decode cX11_end 27 = .ok (.aaload, 1) := by decide +kernel
theorem dX11_end_28 : decode cX11_end 28 = .ok (.iload_n 2, 1) := by decide +kernel
theorem dX11_end_29 : decode cX11_end 29 = .ok (.invokevirtual 210, 3) := by decide +kernel
theorem dX11_end_32 : decode cX11_end 32 = .ok (.iconst 1, 1) := by decide +kernel
theorem dX11_end_33 : decode cX11_end 33 = .ok (.ireturn, 1) := by decide +kernel
set_option maxRecDepth 20000 in
theorem ggX11_statusOfEnd_X11_isDay : GoodIn wsX11_statusOfEnd wsX11_isDay := goodIn_r _ [8] (by decide +kernel) (by decide +kernel)
set_option maxRecDepth 20000 in
theorem gX11_statusOfEnd_X11_isDay : GoodIn wsX11_statusOfEnd (va_wsS RX11 215 yX11_isDay wsX11_isDay) := goodIn_app (goodIn_of _ (by decide +kernel)) ggX11_statusOfEnd_X11_isDay
theorem dX11_statusOfEnd_0 : decode cX11_statusOfEnd 0 = .ok (.iload_n 1, 1) := by decide +kernel
theorem dX11_statusOfEnd_1 : decode cX11_statusOfEnd 1 = .ok (.ifCond .lt 14, 3) := by decide +kernel
theorem dX11_statusOfEnd_4 : decode cX11_statusOfEnd 4 = .ok (.iload_n 1, 1) := by decide +kernel
theorem dX11_statusOfEnd_5 : decode cX11_statusOfEnd 5 = .ok (.aload_n 0, 1) := by decide +kernel
theorem dX11_statusOfEnd_6 : decode cX11_statusOfEnd 6 = .ok (.getfield 26, 3) := by decide +kernel
theorem dX11_statusOfEnd_9 : decode cX11_statusOfEnd 9 = .ok (.getfield 196, 3) := by decide +kernel
theorem dX11_statusOfEnd_12 : decode cX11_statusOfEnd 12 = .ok (.if_icmp .lt 5, 3) := by decide +kernel
theorem dX11_statusOfEnd_15 : decode cX11_statusOfEnd 15 = .ok (.iconst 1, 1) := by decide +kernel
theorem dX11_statusOfEnd_16 : decode cX11_statusOfEnd 16 = .ok (.ireturn, 1) := by decide +kernel
theorem dX11_statusOfEnd_17 : decode cX11_statusOfEnd 17 = .ok (.iload_n 2, 1) := by decide +kernel
theorem dX11_statusOfEnd_18 : decode cX11_statusOfEnd 18 = .ok (.invokestatic 215, 3) := by decide +kernel
theorem dX11_statusOfEnd_21 : decode cX11_statusOfEnd 21 = .ok (.ifCond .ne 5, 3) := by decide +kernel
theorem dX11_statusOfEnd_24 : decode cX11_statusOfEnd 24 = .ok (.iconst 2, 1) := by decide +kernel
theorem dX11_statusOfEnd_25 : decode cX11_statusOfEnd 25 = .ok (.ireturn, 1) := by decide +kernel
theorem dX11_statusOfEnd_26 : decode cX11_statusOfEnd 26 = .ok (.aload_n 0, 1) := by decide +kernel
theorem dX11_statusOfEnd_27 : decode cX11_statusOfEnd 27 = .ok (.getfield 26, 3) := by decide +kernel
theorem dX11_statusOfEnd_30 : decode cX11_statusOfEnd 30 = .ok (.getfield 206, 3) := by decide +kernel
theorem dX11_statusOfEnd_33 : decode cX11_statusOfEnd 33 = .ok (.iload_n 1, 1) := by decide +kernel
theorem dX11_statusOfEnd_34 : decode cX11_statusOfEnd 34 = .ok (.aaload, 1) := by decide +kernel
theorem dX11_statusOfEnd_35 : decode cX11_statusOfEnd 35 = .ok (.getfield 218, 3) := by decide +kernel
theorem dX11_statusOfEnd_38 : decode cX11_statusOfEnd 38 = .ok (.ifCond .eq 8, 3) := by decide +kernel
theorem dX11_statusOfEnd_41 : decode cX11_statusOfEnd 41 = .ok (.bipush 8, 2) := by decide +kernel
theorem dX11_statusOfEnd_43 : decode cX11_statusOfEnd 43 = .ok (.goto 4, 3) := by decide +kernel
theorem dX11_statusOfEnd_46 : decode cX11_statusOfEnd 46 = .ok (.iconst 0, 1) := by decide +kernel
theorem dX11_statusOfEnd_47 : decode cX11_statusOfEnd 47 = .ok (.ireturn, 1) := by decide +kernel
theorem dX11_isDay_0 : decode cX11_isDay 0 = .ok (.iload_n 0, 1) := by decide +kernel
theorem dX11_isDay_1 : decode cX11_isDay 1 = .ok (.ifCond .lt 14, 3) := by decide +kernel
theorem dX11_isDay_4 : decode cX11_isDay 4 = .ok (.iload_n 0, 1) := by decide +kernel
theorem dX11_isDay_5 : decode cX11_isDay 5 = .ok (.sipush 9999, 3) := by decide +kernel
theorem dX11_isDay_8 : decode cX11_isDay 8 = .ok (.if_icmp .gt 7, 3) := by decide +kernel
theorem dX11_isDay_11 : decode cX11_isDay 11 = .ok (.iconst 1, 1) := by decide +kernel
theorem dX11_isDay_12 : decode cX11_isDay 12 = .ok (.goto 4, 3) := by decide +kernel
theorem dX11_isDay_15 : decode cX11_isDay 15 = .ok (.iconst 0, 1) := by decide +kernel
theorem dX11_isDay_16 : decode cX11_isDay 16 = .ok (.ireturn, 1) := by decide +kernel
theorem dX11_isMinute_0 : decode cX11_isMinute 0 = .ok (.iload_n 0, 1) := by decide +kernel
theorem dX11_isMinute_1 : decode cX11_isMinute 1 = .ok (.ifCond .lt 13, 3) := by decide +kernel
theorem dX11_isMinute_4 : decode cX11_isMinute 4 = .ok (.iload_n 0, 1) := by decide +kernel
theorem dX11_isMinute_5 : decode cX11_isMinute 5 = .ok (.ldc 221, 2) := by decide +kernel
theorem dX11_isMinute_7 : decode cX11_isMinute 7 = .ok (.if_icmp .gt 7, 3) := by decide +kernel
theorem dX11_isMinute_10 : decode cX11_isMinute 10 = .ok (.iconst 1, 1) := by decide +kernel
theorem dX11_isMinute_11 : decode cX11_isMinute 11 = .ok (.goto 4, 3) := by decide +kernel
theorem dX11_isMinute_14 : decode cX11_isMinute 14 = .ok (.iconst 0, 1) := by decide +kernel
theorem dX11_isMinute_15 : decode cX11_isMinute 15 = .ok (.ireturn, 1) := by decide +kernel
set_option maxRecDepth 20000 in
theorem ggX11_has_X11_statusOfCell : GoodIn wsX11_has wsX11_statusOfCell := goodIn_r _ [10, 11, 12, 13, 9, 14, 2, 15, 16, 17, 18, 66, 67, 68, 69, 70, 71, 72, 73, 79, 80, 81, 82, 83, 84, 85] (by decide +kernel) (by decide +kernel)
set_option maxRecDepth 20000 in
theorem gX11_has_X11_statusOfCell : GoodIn wsX11_has (wsV RX11 222 RX11 yX11_statusOfCell wsX11_statusOfCell) := goodIn_app (goodIn_of _ (by decide +kernel)) ggX11_has_X11_statusOfCell
set_option maxRecDepth 20000 in
theorem ggX11_has_X8_init : GoodIn wsX11_has wsX8_init := goodIn_r _ [21, 22, 23, 24, 25, 26, 27, 28, 29, 74, 75, 76, 77, 78] (by decide +kernel) (by decide +kernel)
set_option maxRecDepth 20000 in
theorem gX11_has_X8_init : GoodIn wsX11_has (wsX8_init) := ggX11_has_X8_init
set_option maxRecDepth 20000 in
theorem ggX11_has_X2_ownerOf : GoodIn wsX11_has wsX2_ownerOf := goodIn_r _ [34, 35, 36, 37, 38, 39, 40, 41, 42, 43, 44, 45, 46, 47, 48, 49, 50, 51, 52, 53, 54, 55, 56, 57, 5, 58, 25, 26, 27, 59, 60, 61, 62, 63, 64, 65, 79, 80, 81, 82, 83, 84, 85, 86, 87, 88, 89, 90, 74, 75, 76, 77, 78] (by decide +kernel) (by decide +kernel)
set_option maxRecDepth 20000 in
theorem gX11_has_X2_ownerOf : GoodIn wsX11_has (wsV RX11 225 RX2 yX2_ownerOf wsX2_ownerOf) := goodIn_app (goodIn_of _ (by decide +kernel)) ggX11_has_X2_ownerOf
theorem dX11_has_0 : decode cX11_has 0 = .ok (.aload_n 0, 1) := by decide +kernel
theorem dX11_has_1 : decode cX11_has 1 = .ok (.aload_n 0, 1) := by decide +kernel
theorem dX11_has_2 : decode cX11_has 2 = .ok (.iload_n 1, 1) := by decide +kernel
theorem dX11_has_3 : decode cX11_has 3 = .ok (.iload_n 2, 1) := by decide +kernel
theorem dX11_has_4 : decode cX11_has 4 = .ok (.iload_n 3, 1) := by decide +kernel
theorem dX11_has_5 : decode cX11_has 5 = .ok (.iload 4, 2) := by decide +kernel
theorem dX11_has_7 : decode cX11_has 7 = .ok (.iload 5, 2) := by decide +kernel
theorem dX11_has_9 : decode cX11_has 9 = .ok (.invokevirtual 222, 3) := by decide +kernel
theorem dX11_has_12 : decode cX11_has 12 = .ok (.putfield 41, 3) := by decide +kernel
theorem dX11_has_15 : decode cX11_has 15 = .ok (.aload_n 0, 1) := by decide +kernel
theorem dX11_has_16 : decode cX11_has 16 = .ok (.getfield 41, 3) := by decide +kernel
theorem dX11_has_19 : decode cX11_has 19 = .ok (.ifCond .eq 5, 3) := by decide +kernel
theorem dX11_has_22 : decode cX11_has 22 = .ok (.iconst (-1), 1) := by decide +kernel
theorem dX11_has_23 : decode cX11_has 23 = .ok (.ireturn, 1) := by decide +kernel
theorem dX11_has_24 : decode cX11_has 24 = .ok (.aload_n 0, 1) := by decide +kernel
theorem dX11_has_25 : decode cX11_has 25 = .ok (.getfield 26, 3) := by decide +kernel
theorem dX11_has_28 : decode cX11_has 28 = .ok (.iload_n 1, 1) := by decide +kernel
theorem dX11_has_29 : decode cX11_has 29 = .ok (.new 180, 3) := by decide +kernel
theorem dX11_has_32 : decode cX11_has 32 = .ok (.dup, 1) := by decide +kernel
theorem dX11_has_33 : decode cX11_has 33 = .ok (.iconst 1, 1) := by decide +kernel
theorem dX11_has_34 : decode cX11_has 34 = .ok (.iload_n 2, 1) := by decide +kernel
theorem dX11_has_35 : decode cX11_has 35 = .ok (.ishl, 1) := by decide +kernel
theorem dX11_has_36 : decode cX11_has 36 = .ok (.iconst 1, 1) := by decide +kernel
theorem dX11_has_37 : decode cX11_has 37 = .ok (.iload_n 3, 1) := by decide +kernel
theorem dX11_has_38 : decode cX11_has 38 = .ok (.ishl, 1) := by decide +kernel
theorem dX11_has_39 : decode cX11_has 39 = .ok (.iconst 1, 1) := by decide +kernel
theorem dX11_has_40 : decode cX11_has 40 = .ok (.iload 4, 2) := by decide +kernel
theorem dX11_has_42 : decode cX11_has 42 = .ok (.ishl, 1) := by decide +kernel
theorem dX11_has_43 : decode cX11_has 43 = .ok (.iload 5, 2) := by decide +kernel
theorem dX11_has_45 : decode cX11_has 45 = .ok (.iload 5, 2) := by decide +kernel
theorem dX11_has_47 : decode cX11_has 47 = .ok (.invokespecial 182, 3) := by decide +kernel
theorem dX11_has_50 : decode cX11_has 50 = .ok (.invokevirtual 225, 3) := by decide +kernel
theorem dX11_has_53 : decode cX11_has 53 = .ok (.istore 6, 2) := by decide +kernel
theorem dX11_has_55 : decode cX11_has 55 = .ok (.aload_n 0, 1) := by decide +kernel
theorem dX11_has_56 : decode cX11_has 56 = .ok (.iload 6, 2) := by decide +kernel
theorem dX11_has_58 : decode cX11_has 58 = .ok (.iconst (-1), 1) := by decide +kernel
theorem dX11_has_59 : decode cX11_has 59 = .ok (.if_icmp .ne 8, 3) := by decide +kernel
theorem dX11_has_62 : decode cX11_has 62 = .ok (.bipush 9, 2) := by decide +kernel
theorem dX11_has_64 : decode cX11_has 64 = .ok (.goto 4, 3) := by decide +kernel
theorem dX11_has_67 : decode cX11_has 67 = .ok (.iconst 0, 1) := by decide +kernel
theorem dX11_has_68 : decode cX11_has 68 = .ok (.putfield 41, 3) := by decide +kernel
theorem dX11_has_71 : decode cX11_has 71 = .ok (.iload 6, 2) := by decide +kernel
theorem dX11_has_73 : decode cX11_has 73 = .ok (.ireturn, 1) := by decide +kernel
set_option maxRecDepth 20000 in
theorem ggX11_statusOfCell_X11_isBook : GoodIn wsX11_statusOfCell wsX11_isBook := goodIn_r _ [5, 6, 7, 11, 12, 13, 14, 15, 16, 17, 18, 19, 20, 21, 22, 23, 24, 25] (by decide +kernel) (by decide +kernel)
set_option maxRecDepth 20000 in
theorem gX11_statusOfCell_X11_isBook : GoodIn wsX11_statusOfCell (wsV RX11 171 RX11 yX11_isBook wsX11_isBook) := goodIn_app (goodIn_of _ (by decide +kernel)) ggX11_statusOfCell_X11_isBook
set_option maxRecDepth 20000 in
theorem ggX11_statusOfCell_X11_isDay : GoodIn wsX11_statusOfCell wsX11_isDay := goodIn_r _ [10] (by decide +kernel) (by decide +kernel)
set_option maxRecDepth 20000 in
theorem gX11_statusOfCell_X11_isDay : GoodIn wsX11_statusOfCell (va_wsS RX11 215 yX11_isDay wsX11_isDay) := goodIn_app (goodIn_of _ (by decide +kernel)) ggX11_statusOfCell_X11_isDay
theorem dX11_statusOfCell_0 : decode cX11_statusOfCell 0 = .ok (.aload_n 0, 1) := by decide +kernel
theorem dX11_statusOfCell_1 : decode cX11_statusOfCell 1 = .ok (.iload_n 1, 1) := by decide +kernel
theorem dX11_statusOfCell_2 : decode cX11_statusOfCell 2 = .ok (.invokevirtual 171, 3) := by decide +kernel
theorem dX11_statusOfCell_5 : decode cX11_statusOfCell 5 = .ok (.ifCond .ne 5, 3) := by decide +kernel
theorem dX11_statusOfCell_8 : decode cX11_statusOfCell 8 = .ok (.iconst 1, 1) := by decide +kernel
theorem dX11_statusOfCell_9 : decode cX11_statusOfCell 9 = .ok (.ireturn, 1) := by decide +kernel
theorem dX11_statusOfCell_10 : decode cX11_statusOfCell 10 = .ok (.iload_n 2, 1) := by decide +kernel
theorem dX11_statusOfCell_11 : decode cX11_statusOfCell 11 = .ok (.ifCond .lt 33, 3) := by decide +kernel
theorem dX11_statusOfCell_14 : decode cX11_statusOfCell 14 = .ok (.iload_n 2, 1) := by decide +kernel
theorem dX11_statusOfCell_15 : decode cX11_statusOfCell 15 = .ok (.bipush 7, 2) := by decide +kernel
theorem dX11_statusOfCell_17 : decode cX11_statusOfCell 17 = .ok (.if_icmp .gt 27, 3) := by decide +kernel
theorem dX11_statusOfCell_20 : decode cX11_statusOfCell 20 = .ok (.iload_n 3, 1) := by decide +kernel
theorem dX11_statusOfCell_21 : decode cX11_statusOfCell 21 = .ok (.ifCond .lt 23, 3) := by decide +kernel
theorem dX11_statusOfCell_24 : decode cX11_statusOfCell 24 = .ok (.iload_n 3, 1) := by decide +kernel
theorem dX11_statusOfCell_25 : decode cX11_statusOfCell 25 = .ok (.iconst 3, 1) := by decide +kernel
theorem dX11_statusOfCell_26 : decode cX11_statusOfCell 26 = .ok (.if_icmp .gt 18, 3) := by decide +kernel
theorem dX11_statusOfCell_29 : decode cX11_statusOfCell 29 = .ok (.iload 4, 2) := by decide +kernel
theorem dX11_statusOfCell_31 : decode cX11_statusOfCell 31 = .ok (.ifCond .lt 13, 3) := by decide +kernel
theorem dX11_statusOfCell_34 : decode cX11_statusOfCell 34 = .ok (.iload 4, 2) := by decide +kernel
theorem dX11_statusOfCell_36 : decode cX11_statusOfCell 36 = .ok (.iconst 3, 1) := by decide +kernel
theorem dX11_statusOfCell_37 : decode cX11_statusOfCell 37 = .ok (.if_icmp .gt 7, 3) := by decide +kernel
theorem dX11_statusOfCell_40 : decode cX11_statusOfCell 40 = .ok (.iconst 1, 1) := by decide +kernel
theorem dX11_statusOfCell_41 : decode cX11_statusOfCell 41 = .ok (.goto 4, 3) := by decide +kernel
theorem dX11_statusOfCell_44 : decode cX11_statusOfCell 44 = .ok (.iconst 0, 1) := by decide +kernel
theorem dX11_statusOfCell_45 : decode cX11_statusOfCell 45 = .ok (.istore 6, 2) := by decide +kernel
theorem dX11_statusOfCell_47 : decode cX11_statusOfCell 47 = .ok (.iload 6, 2) := by decide +kernel
theorem dX11_statusOfCell_49 : decode cX11_statusOfCell 49 = .ok (.ifCond .eq 15, 3) := by decide +kernel
theorem dX11_statusOfCell_52 : decode cX11_statusOfCell 52 = .ok (.iload 5, 2) := by decide +kernel
theorem dX11_statusOfCell_54 : decode cX11_statusOfCell 54 = .ok (.invokestatic 215, 3) := by decide +kernel
theorem dX11_statusOfCell_57 : decode cX11_statusOfCell 57 = .ok (.ifCond .eq 7, 3) := by decide +kernel
theorem dX11_statusOfCell_60 : decode cX11_statusOfCell 60 = .ok (.iconst 0, 1) := by decide +kernel
theorem dX11_statusOfCell_61 : decode cX11_statusOfCell 61 = .ok (.goto 4, 3) := by decide +kernel
theorem dX11_statusOfCell_64 : decode cX11_statusOfCell 64 = .ok (.iconst 2, 1) := by decide +kernel
theorem dX11_statusOfCell_65 : decode cX11_statusOfCell 65 = .ok (.ireturn, 1) := by decide +kernel
set_option maxRecDepth 20000 in
theorem ggX11_left_X8_init : GoodIn wsX11_left wsX8_init := goodIn_r _ [8, 9, 10, 11, 12, 13, 14, 15, 16, 78, 79, 80, 81, 82] (by decide +kernel) (by decide +kernel)
set_option maxRecDepth 20000 in
theorem gX11_left_X8_init : GoodIn wsX11_left (wsX8_init) := ggX11_left_X8_init
set_option maxRecDepth 20000 in
theorem ggX11_left_X11_isBook : GoodIn wsX11_left wsX11_isBook := goodIn_r _ [21, 5, 22, 83, 84, 85, 86, 87, 88, 89, 90, 91, 92, 93, 94, 95, 96, 97] (by decide +kernel) (by decide +kernel)
set_option maxRecDepth 20000 in
theorem gX11_left_X11_isBook : GoodIn wsX11_left (wsV RX11 171 RX11 yX11_isBook wsX11_isBook) := goodIn_app (goodIn_of _ (by decide +kernel)) ggX11_left_X11_isBook
set_option maxRecDepth 20000 in
theorem ggX11_left_X8_canBe : GoodIn wsX11_left wsX8_canBe := goodIn_r _ [26, 12, 13, 14, 15, 16, 27, 20, 28, 78, 79, 80, 81, 82] (by decide +kernel) (by decide +kernel)
set_option maxRecDepth 20000 in
theorem gX11_left_X8_canBe : GoodIn wsX11_left (wsV RX11 192 RX8 yX8_canBe wsX8_canBe) := goodIn_app (goodIn_of _ (by decide +kernel)) ggX11_left_X8_canBe
set_option maxRecDepth 20000 in
theorem ggX11_left_X8_cells : GoodIn wsX11_left wsX8_cells := goodIn_r _ [32, 12, 13, 14, 33, 34, 35, 36, 37, 38, 39, 78, 79, 80, 81, 82] (by decide +kernel) (by decide +kernel)
set_option maxRecDepth 20000 in
theorem gX11_left_X8_cells : GoodIn wsX11_left (wsV RX11 229 RX8 yX8_cells wsX8_cells) := goodIn_app (goodIn_of _ (by decide +kernel)) ggX11_left_X8_cells
set_option maxRecDepth 20000 in
theorem ggX11_left_X2_cellsGranted : GoodIn wsX11_left wsX2_cellsGranted := goodIn_r _ [44, 45, 46, 47, 48, 49, 50, 51, 52, 53, 54, 55, 56, 57, 58, 59, 60, 61, 62, 63, 64, 65, 66, 3, 67, 12, 13, 14, 33, 34, 35, 36, 37, 38, 39, 91, 92, 93, 94, 95, 96, 97, 98, 99, 100, 101, 102, 78, 79, 80, 81, 82] (by decide +kernel) (by decide +kernel)
set_option maxRecDepth 20000 in
theorem gX11_left_X2_cellsGranted : GoodIn wsX11_left (wsV RX11 232 RX2 yX2_cellsGranted wsX2_cellsGranted) := goodIn_app (goodIn_of _ (by decide +kernel)) ggX11_left_X2_cellsGranted
set_option maxRecDepth 20000 in
theorem ggX11_left_X11_tellFraction : GoodIn wsX11_left wsX11_tellFraction := goodIn_r _ [71, 72, 73, 74, 75, 20, 76, 77, 83, 84, 85, 86, 87, 88, 89, 90] (by decide +kernel) (by decide +kernel)
set_option maxRecDepth 20000 in
theorem gX11_left_X11_tellFraction : GoodIn wsX11_left (wsV RX11 235 RX11 yX11_tellFraction wsX11_tellFraction) := goodIn_app (goodIn_of _ (by decide +kernel)) ggX11_left_X11_tellFraction
theorem dX11_left_0 : decode cX11_left 0 = .ok (.new 180, 3) := by decide +kernel
theorem dX11_left_3 : decode cX11_left 3 = .ok (.dup, 1) := by decide +kernel
theorem dX11_left_4 : decode cX11_left 4 = .ok (.iload_n 2, 1) := by decide +kernel
theorem dX11_left_5 : decode cX11_left 5 = .ok (.iload_n 3, 1) := by decide +kernel
theorem dX11_left_6 : decode cX11_left 6 = .ok (.iload 4, 2) := by decide +kernel
theorem dX11_left_8 : decode cX11_left 8 = .ok (.iload 5, 2) := by decide +kernel
theorem dX11_left_10 : decode cX11_left 10 = .ok (.iload 5, 2) := by decide +kernel
theorem dX11_left_12 : decode cX11_left 12 = .ok (.invokespecial 182, 3) := by decide +kernel
theorem dX11_left_15 : decode cX11_left 15 = .ok (.astore 6, 2) := by decide +kernel
theorem dX11_left_17 : decode cX11_left 17 = .ok (.aload_n 0, 1) := by decide +kernel
theorem dX11_left_18 : decode cX11_left 18 = .ok (.aload_n 0, 1) := by decide +kernel
theorem dX11_left_19 : decode cX11_left 19 = .ok (.iload_n 1, 1) := by decide +kernel
theorem dX11_left_20 : decode cX11_left 20 = .ok (.invokevirtual 171, 3) := by decide +kernel
theorem dX11_left_23 : decode cX11_left 23 = .ok (.ifCond .ne 7, 3) := by decide +kernel
theorem dX11_left_26 : decode cX11_left 26 = .ok (.iconst 1, 1) := by decide +kernel
theorem dX11_left_27 : decode cX11_left 27 = .ok (.goto 16, 3) := by decide +kernel
theorem dX11_left_30 : decode cX11_left 30 = .ok (.aload 6, 2) := by decide +kernel
theorem dX11_left_32 : decode cX11_left 32 = .ok (.invokevirtual 192, 3) := by decide +kernel
theorem dX11_left_35 : decode cX11_left 35 = .ok (.ifCond .ne 7, 3) := by decide +kernel
theorem dX11_left_38 : decode cX11_left 38 = .ok (.iconst 2, 1) := by decide +kernel
theorem dX11_left_39 : decode cX11_left 39 = .ok (.goto 4, 3) := by decide +kernel
theorem dX11_left_42 : decode cX11_left 42 = .ok (.iconst 0, 1) := by decide +kernel
theorem dX11_left_43 : decode cX11_left 43 = .ok (.putfield 41, 3) := by decide +kernel
theorem dX11_left_46 : decode cX11_left 46 = .ok (.aload_n 0, 1) := by decide +kernel
theorem dX11_left_47 : decode cX11_left 47 = .ok (.getfield 41, 3) := by decide +kernel
theorem dX11_left_50 : decode cX11_left 50 = .ok (.ifCond .eq 5, 3) := by decide +kernel
theorem dX11_left_53 : decode cX11_left 53 = .ok (.iconst 0, 1) := by decide +kernel
theorem dX11_left_54 : decode cX11_left 54 = .ok (.ireturn, 1) := by decide +kernel
theorem dX11_left_55 : decode cX11_left 55 = .ok (.aload 6, 2) := by decide +kernel
theorem dX11_left_57 : decode cX11_left 57 = .ok (.invokevirtual 229, 3) := by decide +kernel
theorem dX11_left_60 : decode cX11_left 60 = .ok (.istore 7, 2) := by decide +kernel
theorem dX11_left_62 : decode cX11_left 62 = .ok (.aload_n 0, 1) := by decide +kernel
theorem dX11_left_63 : decode cX11_left 63 = .ok (.iload 7, 2) := by decide +kernel
theorem dX11_left_65 : decode cX11_left 65 = .ok (.aload_n 0, 1) := by decide +kernel
theorem dX11_left_66 : decode cX11_left 66 = .ok (.getfield 26, 3) := by decide +kernel
theorem dX11_left_69 : decode cX11_left 69 = .ok (.iload_n 1, 1) := by decide +kernel
theorem dX11_left_70 : decode cX11_left 70 = .ok (.aload 6, 2) := by decide +kernel
theorem dX11_left_72 : decode cX11_left 72 = .ok (.invokevirtual 232, 3) := by decide +kernel
theorem dX11_left_75 : decode cX11_left 75 = .ok (.isub, 1) := by decide +kernel
theorem dX11_left_76 : decode cX11_left 76 = .ok (.iload 7, 2) := by decide +kernel
