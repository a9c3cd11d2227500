theorem dX2_isOnList_9 : decode cX2_isOnList 9 = .ok (.iadd, 1) := by decide +kernel
theorem dX2_isOnList_10 : decode cX2_isOnList 10 = .ok (.baload, 1) := by decide +kernel
theorem dX2_isOnList_11 : decode cX2_isOnList 11 = .ok (.ireturn, 1) := by decide +kernel
theorem dX2_putOnList_0 : decode cX2_putOnList 0 = .ok (.aload_n 0, 1) := by decide +kernel
theorem dX2_putOnList_1 : decode cX2_putOnList 1 = .ok (.getfield 19, 3) := by decide +kernel
theorem dX2_putOnList_4 : decode cX2_putOnList 4 = .ok (.iload_n 1, 1) := by decide +kernel
theorem dX2_putOnList_5 : decode cX2_putOnList 5 = .ok (.bipush 10, 2) := by decide +kernel
theorem dX2_putOnList_7 : decode cX2_putOnList 7 = .ok (.imul, 1) := by decide +kernel
theorem dX2_putOnList_8 : decode cX2_putOnList 8 = .ok (.iload_n 2, 1) := by decide +kernel
theorem dX2_putOnList_9 : decode cX2_putOnList 9 = .ok (.iadd, 1) := by decide +kernel
theorem dX2_putOnList_10 : decode cX2_putOnList 10 = .ok (.iload_n 3, 1) := by decide +kernel
theorem dX2_putOnList_11 : decode cX2_putOnList 11 = .ok (.bastore, 1) := by decide +kernel
theorem dX2_putOnList_12 : decode cX2_putOnList 12 = .ok (.return_, 1) := by decide +kernel
set_option maxRecDepth 20000 in
theorem ggX2_isTold_X2_isOnList : GoodIn wsX2_isTold wsX2_isOnList := goodIn_r _ [6, 7, 8, 9, 10, 11, 12, 13, 14] (by decide +kernel) (by decide +kernel)
set_option maxRecDepth 20000 in
theorem gX2_isTold_X2_isOnList : GoodIn wsX2_isTold (wsV RX2 40 RX2 yX2_isOnList wsX2_isOnList) := goodIn_app (goodIn_of _ (by decide +kernel)) ggX2_isTold_X2_isOnList
theorem dX2_isTold_0 : decode cX2_isTold 0 = .ok (.aload_n 0, 1) := by decide +kernel
theorem dX2_isTold_1 : decode cX2_isTold 1 = .ok (.getfield 15, 3) := by decide +kernel
theorem dX2_isTold_4 : decode cX2_isTold 4 = .ok (.iload_n 1, 1) := by decide +kernel
theorem dX2_isTold_5 : decode cX2_isTold 5 = .ok (.baload, 1) := by decide +kernel
theorem dX2_isTold_6 : decode cX2_isTold 6 = .ok (.ifCond .eq 12, 3) := by decide +kernel
theorem dX2_isTold_9 : decode cX2_isTold 9 = .ok (.aload_n 0, 1) := by decide +kernel
theorem dX2_isTold_10 : decode cX2_isTold 10 = .ok (.iload_n 1, 1) := by decide +kernel
theorem dX2_isTold_11 : decode cX2_isTold 11 = .ok (.iload_n 2, 1) := by decide +kernel
theorem dX2_isTold_12 : decode cX2_isTold 12 = .ok (.invokevirtual 40, 3) := by decide +kernel
theorem dX2_isTold_15 : decode cX2_isTold 15 = .ok (.ifCond .eq 7, 3) := by decide +kernel
theorem dX2_isTold_18 : decode cX2_isTold 18 = .ok (.iconst 1, 1) := by decide +kernel
theorem dX2_isTold_19 : decode cX2_isTold 19 = .ok (.goto 4, 3) := by decide +kernel
theorem dX2_isTold_22 : decode cX2_isTold 22 = .ok (.iconst 0, 1) := by decide +kernel
theorem dX2_isTold_23 : decode cX2_isTold 23 = .ok (.ireturn, 1) := by decide +kernel
set_option maxRecDepth 20000 in
theorem ggX2_addGrant_X3_init : GoodIn wsX2_addGrant wsX3_init := goodIn_r _ [8, 9, 10, 11, 12, 13, 14, 15, 16, 17, 25, 26, 27, 28, 29, 30, 31, 32, 33, 34] (by decide +kernel) (by decide +kernel)
set_option maxRecDepth 20000 in
theorem gX2_addGrant_X3_init : GoodIn wsX2_addGrant (wsX3_init) := ggX2_addGrant_X3_init
theorem dX2_addGrant_0 : decode cX2_addGrant 0 = .ok (.aload_n 0, 1) := by decide +kernel
theorem dX2_addGrant_1 : decode cX2_addGrant 1 = .ok (.getfield 27, 3) := by decide +kernel
theorem dX2_addGrant_4 : decode cX2_addGrant 4 = .ok (.aload_n 0, 1) := by decide +kernel
theorem dX2_addGrant_5 : decode cX2_addGrant 5 = .ok (.getfield 22, 3) := by decide +kernel
theorem dX2_addGrant_8 : decode cX2_addGrant 8 = .ok (.new 25, 3) := by decide +kernel
theorem dX2_addGrant_11 : decode cX2_addGrant 11 = .ok (.dup, 1) := by decide +kernel
theorem dX2_addGrant_12 : decode cX2_addGrant 12 = .ok (.iload_n 1, 1) := by decide +kernel
theorem dX2_addGrant_13 : decode cX2_addGrant 13 = .ok (.iload_n 2, 1) := by decide +kernel
theorem dX2_addGrant_14 : decode cX2_addGrant 14 = .ok (.aload_n 3, 1) := by decide +kernel
theorem dX2_addGrant_15 : decode cX2_addGrant 15 = .ok (.invokespecial 44, 3) := by decide +kernel
theorem dX2_addGrant_18 : decode cX2_addGrant 18 = .ok (.aastore, 1) := by decide +kernel
theorem dX2_addGrant_19 : decode cX2_addGrant 19 = .ok (.aload_n 0, 1) := by decide +kernel
theorem dX2_addGrant_20 : decode cX2_addGrant 20 = .ok (.dup, 1) := by decide +kernel
theorem dX2_addGrant_21 : decode cX2_addGrant 21 = .ok (.getfield 22, 3) := by decide +kernel
theorem dX2_addGrant_24 : decode cX2_addGrant 24 = .ok (.iconst 1, 1) := by decide +kernel
theorem dX2_addGrant_25 : decode cX2_addGrant 25 = .ok (.iadd, 1) := by decide +kernel
theorem dX2_addGrant_26 : decode cX2_addGrant 26 = .ok (.putfield 22, 3) := by decide +kernel
theorem dX2_addGrant_29 : decode cX2_addGrant 29 = .ok (.aload_n 0, 1) := by decide +kernel
theorem dX2_addGrant_30 : decode cX2_addGrant 30 = .ok (.getfield 22, 3) := by decide +kernel
theorem dX2_addGrant_33 : decode cX2_addGrant 33 = .ok (.iconst 1, 1) := by decide +kernel
theorem dX2_addGrant_34 : decode cX2_addGrant 34 = .ok (.isub, 1) := by decide +kernel
theorem dX2_addGrant_35 : decode cX2_addGrant 35 = .ok (.ireturn, 1) := by decide +kernel
theorem dX2_addOption_0 : decode cX2_addOption 0 = .ok (.aload_n 0, 1) := by decide +kernel
theorem dX2_addOption_1 : decode cX2_addOption 1 = .ok (.getfield 36, 3) := by decide +kernel
theorem dX2_addOption_4 : decode cX2_addOption 4 = .ok (.aload_n 0, 1) := by decide +kernel
theorem dX2_addOption_5 : decode cX2_addOption 5 = .ok (.getfield 31, 3) := by decide +kernel
theorem dX2_addOption_8 : decode cX2_addOption 8 = .ok (.aload_n 1, 1) := by decide +kernel
theorem dX2_addOption_9 : decode cX2_addOption 9 = .ok (.aastore, 1) := by decide +kernel
theorem dX2_addOption_10 : decode cX2_addOption 10 = .ok (.aload_n 0, 1) := by decide +kernel
theorem dX2_addOption_11 : decode cX2_addOption 11 = .ok (.dup, 1) := by decide +kernel
theorem dX2_addOption_12 : decode cX2_addOption 12 = .ok (.getfield 31, 3) := by decide +kernel
theorem dX2_addOption_15 : decode cX2_addOption 15 = .ok (.iconst 1, 1) := by decide +kernel
theorem dX2_addOption_16 : decode cX2_addOption 16 = .ok (.iadd, 1) := by decide +kernel
theorem dX2_addOption_17 : decode cX2_addOption 17 = .ok (.putfield 31, 3) := by decide +kernel
theorem dX2_addOption_20 : decode cX2_addOption 20 = .ok (.return_, 1) := by decide +kernel
set_option maxRecDepth 20000 in
theorem ggX2_wouldClash_X2_ownerOf : GoodIn wsX2_wouldClash wsX2_ownerOf := goodIn_r _ [5, 6, 7, 8, 9, 10, 11, 12, 13, 14, 15, 16, 17, 18, 19, 20, 21, 22, 23, 24, 25, 26, 27, 28, 29, 30, 31, 32, 33, 34, 35, 36, 37, 38, 39, 40, 41, 42, 43, 44, 45, 46, 47, 48, 49, 50, 51, 52, 53, 54, 55, 56, 57] (by decide +kernel) (by decide +kernel)
set_option maxRecDepth 20000 in
theorem gX2_wouldClash_X2_ownerOf : GoodIn wsX2_wouldClash (wsV RX2 47 RX2 yX2_ownerOf wsX2_ownerOf) := goodIn_app (goodIn_of _ (by decide +kernel)) ggX2_wouldClash_X2_ownerOf
theorem dX2_wouldClash_0 : decode cX2_wouldClash 0 = .ok (.aload_n 0, 1) := by decide +kernel
theorem dX2_wouldClash_1 : decode cX2_wouldClash 1 = .ok (.iload_n 1, 1) := by decide +kernel
theorem dX2_wouldClash_2 : decode cX2_wouldClash 2 = .ok (.aload_n 2, 1) := by decide +kernel
theorem dX2_wouldClash_3 : decode cX2_wouldClash 3 = .ok (.invokevirtual 47, 3) := by decide +kernel
theorem dX2_wouldClash_6 : decode cX2_wouldClash 6 = .ok (.iconst (-1), 1) := by decide +kernel
theorem dX2_wouldClash_7 : decode cX2_wouldClash 7 = .ok (.if_icmp .eq 7, 3) := by decide +kernel
theorem dX2_wouldClash_10 : decode cX2_wouldClash 10 = .ok (.iconst 1, 1) := by decide +kernel
theorem dX2_wouldClash_11 : decode cX2_wouldClash 11 = .ok (.goto 4, 3) := by decide +kernel
theorem dX2_wouldClash_14 : decode cX2_wouldClash 14 = .ok (.iconst 0, 1) := by decide +kernel
theorem dX2_wouldClash_15 : decode cX2_wouldClash 15 = .ok (.ireturn, 1) := by decide +kernel
set_option maxRecDepth 20000 in
theorem ggX2_ownerOf_X3_cellsWith : GoodIn wsX2_ownerOf wsX3_cellsWith := goodIn_r _ [8, 9, 10, 11, 12, 13, 14, 15, 16, 17, 18, 19, 20, 21, 22, 23, 24, 25, 26, 27, 28, 29, 30, 31, 32, 33, 34, 35, 43, 44, 45, 46, 47, 48, 49, 50, 51, 52] (by decide +kernel) (by decide +kernel)
set_option maxRecDepth 20000 in
theorem gX2_ownerOf_X3_cellsWith : GoodIn wsX2_ownerOf (wsV RX2 51 RX3 yX3_cellsWith wsX3_cellsWith) := goodIn_app (goodIn_of _ (by decide +kernel)) ggX2_ownerOf_X3_cellsWith
theorem dX2_ownerOf_0 : decode cX2_ownerOf 0 = .ok (.iconst 0, 1) := by decide +kernel
theorem dX2_ownerOf_1 : decode cX2_ownerOf 1 = .ok (.istore_n 3, 1) := by decide +kernel
theorem dX2_ownerOf_2 : decode cX2_ownerOf 2 = .ok (.iload_n 3, 1) := by decide +kernel
theorem dX2_ownerOf_3 : decode cX2_ownerOf 3 = .ok (.aload_n 0, 1) := by decide +kernel
theorem dX2_ownerOf_4 : decode cX2_ownerOf 4 = .ok (.getfield 22, 3) := by decide +kernel
theorem dX2_ownerOf_7 : decode cX2_ownerOf 7 = .ok (.if_icmp .ge 33, 3) := by decide +kernel
theorem dX2_ownerOf_10 : decode cX2_ownerOf 10 = .ok (.aload_n 0, 1) := by decide +kernel
theorem dX2_ownerOf_11 : decode cX2_ownerOf 11 = .ok (.getfield 27, 3) := by decide +kernel
theorem dX2_ownerOf_14 : decode cX2_ownerOf 14 = .ok (.iload_n 3, 1) := by decide +kernel
theorem dX2_ownerOf_15 : decode cX2_ownerOf 15 = .ok (.aaload, 1) := by decide +kernel
theorem dX2_ownerOf_16 : decode cX2_ownerOf 16 = .ok (.iload_n 1, 1) := by decide +kernel
theorem dX2_ownerOf_17 : decode cX2_ownerOf 17 = .ok (.aload_n 2, 1) := by decide +kernel
theorem dX2_ownerOf_18 : decode cX2_ownerOf 18 = .ok (.invokevirtual 51, 3) := by decide +kernel
theorem dX2_ownerOf_21 : decode cX2_ownerOf 21 = .ok (.ifCond .le 13, 3) := by decide +kernel
theorem dX2_ownerOf_24 : decode cX2_ownerOf 24 = .ok (.aload_n 0, 1) := by decide +kernel
theorem dX2_ownerOf_25 : decode cX2_ownerOf 25 = .ok (.getfield 27, 3) := by decide +kernel
theorem dX2_ownerOf_28 : decode cX2_ownerOf 28 = .ok (.iload_n 3, 1) := by decide +kernel
theorem dX2_ownerOf_29 : decode cX2_ownerOf 29 = .ok (.aaload, 1) := by decide +kernel
theorem dX2_ownerOf_30 : decode cX2_ownerOf 30 = .ok (.getfield 54, 3) := by decide +kernel
theorem dX2_ownerOf_33 : decode cX2_ownerOf 33 = .ok (.ireturn, 1) := by decide +kernel
theorem dX2_ownerOf_34 : decode cX2_ownerOf 34 = .ok (.iinc 3 1, 3) := by decide +kernel
theorem dX2_ownerOf_37 : decode cX2_ownerOf 37 = .ok (.goto (-35), 3) := by decide +kernel
theorem dX2_ownerOf_40 : decode cX2_ownerOf 40 = .ok (.iconst (-1), 1) := by decide +kernel
theorem dX2_ownerOf_41 : decode cX2_ownerOf 41 = .ok (.ireturn, 1) := by decide +kernel
set_option maxRecDepth 20000 in
theorem ggX2_cellsGranted_X3_cellsWith : GoodIn wsX2_cellsGranted wsX3_cellsWith := goodIn_r _ [7, 8, 9, 10, 11, 12, 13, 14, 15, 16, 17, 18, 19, 20, 21, 22, 23, 24, 25, 26, 27, 28, 29, 30, 31, 32, 33, 34, 42, 43, 44, 45, 46, 47, 48, 49, 50, 51] (by decide +kernel) (by decide +kernel)
set_option maxRecDepth 20000 in
theorem gX2_cellsGranted_X3_cellsWith : GoodIn wsX2_cellsGranted (wsV RX2 51 RX3 yX3_cellsWith wsX3_cellsWith) := goodIn_app (goodIn_of _ (by decide +kernel)) ggX2_cellsGranted_X3_cellsWith
theorem dX2_cellsGranted_0 : decode cX2_cellsGranted 0 = .ok (.iconst 0, 1) := by decide +kernel
theorem dX2_cellsGranted_1 : decode cX2_cellsGranted 1 = .ok (.istore_n 3, 1) := by decide +kernel
theorem dX2_cellsGranted_2 : decode cX2_cellsGranted 2 = .ok (.iconst 0, 1) := by decide +kernel
theorem dX2_cellsGranted_3 : decode cX2_cellsGranted 3 = .ok (.istore 4, 2) := by decide +kernel
theorem dX2_cellsGranted_5 : decode cX2_cellsGranted 5 = .ok (.iload 4, 2) := by decide +kernel
theorem dX2_cellsGranted_7 : decode cX2_cellsGranted 7 = .ok (.aload_n 0, 1) := by decide +kernel
theorem dX2_cellsGranted_8 : decode cX2_cellsGranted 8 = .ok (.getfield 22, 3) := by decide +kernel
theorem dX2_cellsGranted_11 : decode cX2_cellsGranted 11 = .ok (.if_icmp .ge 24, 3) := by decide +kernel
theorem dX2_cellsGranted_14 : decode cX2_cellsGranted 14 = .ok (.iload_n 3, 1) := by decide +kernel
theorem dX2_cellsGranted_15 : decode cX2_cellsGranted 15 = .ok (.aload_n 0, 1) := by decide +kernel
theorem dX2_cellsGranted_16 : decode cX2_cellsGranted 16 = .ok (.getfield 27, 3) := by decide +kernel
theorem dX2_cellsGranted_19 : decode cX2_cellsGranted 19 = .ok (.iload 4, 2) := by decide +kernel
theorem dX2_cellsGranted_21 : decode cX2_cellsGranted 21 = .ok (.aaload, 1) := by decide +kernel
theorem dX2_cellsGranted_22 : decode cX2_cellsGranted 22 = .ok (.iload_n 1, 1) := by decide +kernel
theorem dX2_cellsGranted_23 : decode cX2_cellsGranted 23 = .ok (.aload_n 2, 1) := by decide +kernel
theorem dX2_cellsGranted_24 : decode cX2_cellsGranted 24 = .ok (.invokevirtual 51, 3) := by decide +kernel
theorem dX2_cellsGranted_27 : decode cX2_cellsGranted 27 = .ok (.iadd, 1) := by decide +kernel
theorem dX2_cellsGranted_28 : decode cX2_cellsGranted 28 = .ok (.istore_n 3, 1) := by decide +kernel
theorem dX2_cellsGranted_29 : decode cX2_cellsGranted 29 = .ok (.iinc 4 1, 3) := by decide +kernel
theorem dX2_cellsGranted_32 : decode cX2_cellsGranted 32 = .ok (.goto (-27), 3) := by decide +kernel
theorem dX2_cellsGranted_35 : decode cX2_cellsGranted 35 = .ok (.iload_n 3, 1) := by decide +kernel
theorem dX2_cellsGranted_36 : decode cX2_cellsGranted 36 = .ok (.ireturn, 1) := by decide +kernel
set_option maxRecDepth 20000 in
theorem ggX2_mayBeOffered_X2_isTold : GoodIn wsX2_mayBeOffered wsX2_isTold := goodIn_r _ [5, 6, 7, 8, 9, 4, 10, 11, 70, 71, 72, 73, 74, 75, 76] (by decide +kernel) (by decide +kernel)
set_option maxRecDepth 20000 in
theorem gX2_mayBeOffered_X2_isTold : GoodIn wsX2_mayBeOffered (wsV RX2 57 RX2 yX2_isTold wsX2_isTold) := goodIn_app (goodIn_of _ (by decide +kernel)) ggX2_mayBeOffered_X2_isTold
set_option maxRecDepth 20000 in
theorem ggX2_mayBeOffered_X2_isBarred : GoodIn wsX2_mayBeOffered wsX2_isBarred := goodIn_r _ [15, 16, 17, 18, 19, 20, 21, 22, 23, 24, 25, 26, 70, 71, 72, 73, 74, 75, 76, 77, 78, 79, 80] (by decide +kernel) (by decide +kernel)
set_option maxRecDepth 20000 in
theorem gX2_mayBeOffered_X2_isBarred : GoodIn wsX2_mayBeOffered (wsV RX2 60 RX2 yX2_isBarred wsX2_isBarred) := goodIn_app (goodIn_of _ (by decide +kernel)) ggX2_mayBeOffered_X2_isBarred
set_option maxRecDepth 20000 in
theorem ggX2_mayBeOffered_X2_wouldClash : GoodIn wsX2_mayBeOffered wsX2_wouldClash := goodIn_r _ [30, 31, 32, 33, 4, 34, 35, 36, 37, 38, 39, 40, 41, 42, 43, 44, 45, 46, 47, 48, 49, 50, 51, 52, 53, 54, 55, 56, 57, 58, 59, 60, 61, 62, 63, 64, 65, 66, 67, 68, 69, 70, 71, 72, 73, 74, 75, 76, 81, 82, 83, 84, 85, 86, 87, 88, 89, 90] (by decide +kernel) (by decide +kernel)
set_option maxRecDepth 20000 in
theorem gX2_mayBeOffered_X2_wouldClash : GoodIn wsX2_mayBeOffered (wsV RX2 64 RX2 yX2_wouldClash wsX2_wouldClash) := goodIn_app (goodIn_of _ (by decide +kernel)) ggX2_mayBeOffered_X2_wouldClash
theorem dX2_mayBeOffered_0 : decode cX2_mayBeOffered 0 = .ok (.aload_n 0, 1) := by decide +kernel
theorem dX2_mayBeOffered_1 : decode cX2_mayBeOffered 1 = .ok (.iload_n 1, 1) := by decide +kernel
theorem dX2_mayBeOffered_2 : decode cX2_mayBeOffered 2 = .ok (.iload_n 2, 1) := by decide +kernel
theorem dX2_mayBeOffered_3 : decode cX2_mayBeOffered 3 = .ok (.invokevirtual 57, 3) := by decide +kernel
theorem dX2_mayBeOffered_6 : decode cX2_mayBeOffered 6 = .ok (.ifCond .eq 27, 3) := by decide +kernel
theorem dX2_mayBeOffered_9 : decode cX2_mayBeOffered 9 = .ok (.aload_n 0, 1) := by decide +kernel
theorem dX2_mayBeOffered_10 : decode cX2_mayBeOffered 10 = .ok (.iload_n 1, 1) := by decide +kernel
theorem dX2_mayBeOffered_11 : decode cX2_mayBeOffered 11 = .ok (.iload_n 2, 1) := by decide +kernel
theorem dX2_mayBeOffered_12 : decode cX2_mayBeOffered 12 = .ok (.iload 4, 2) := by decide +kernel
theorem dX2_mayBeOffered_14 : decode cX2_mayBeOffered 14 = .ok (.invokevirtual 60, 3) := by decide +kernel
theorem dX2_mayBeOffered_17 : decode cX2_mayBeOffered 17 = .ok (.ifCond .ne 16, 3) := by decide +kernel
theorem dX2_mayBeOffered_20 : decode cX2_mayBeOffered 20 = .ok (.aload_n 0, 1) := by decide +kernel
theorem dX2_mayBeOffered_21 : decode cX2_mayBeOffered 21 = .ok (.iload_n 1, 1) := by decide +kernel
theorem dX2_mayBeOffered_22 : decode cX2_mayBeOffered 22 = .ok (.aload_n 3, 1) := by decide +kernel
theorem dX2_mayBeOffered_23 : decode cX2_mayBeOffered 23 = .ok (.invokevirtual 64, 3) := by decide +kernel
theorem dX2_mayBeOffered_26 : decode cX2_mayBeOffered 26 = .ok (.ifCond .ne 7, 3) := by decide +kernel
theorem dX2_mayBeOffered_29 : decode cX2_mayBeOffered 29 = .ok (.iconst 1, 1) := by decide +kernel
theorem dX2_mayBeOffered_30 : decode cX2_mayBeOffered 30 = .ok (.goto 4, 3) := by decide +kernel
theorem dX2_mayBeOffered_33 : decode cX2_mayBeOffered 33 = .ok (.iconst 0, 1) := by decide +kernel
theorem dX2_mayBeOffered_34 : decode cX2_mayBeOffered 34 = .ok (.ireturn, 1) := by decide +kernel
set_option maxRecDepth 20000 in
theorem ggX2_isBarred_X7_bars : GoodIn wsX2_isBarred wsX7_bars := goodIn_r _ [7, 8, 9, 10, 11, 19, 20, 21, 22] (by decide +kernel) (by decide +kernel)
set_option maxRecDepth 20000 in
theorem gX2_isBarred_X7_bars : GoodIn wsX2_isBarred (wsV RX2 68 RX7 yX7_bars wsX7_bars) := goodIn_app (goodIn_of _ (by decide +kernel)) ggX2_isBarred_X7_bars
theorem dX2_isBarred_0 : decode cX2_isBarred 0 = .ok (.iconst 0, 1) := by decide +kernel
theorem dX2_isBarred_1 : decode cX2_isBarred 1 = .ok (.istore 4, 2) := by decide +kernel
theorem dX2_isBarred_3 : decode cX2_isBarred 3 = .ok (.iload 4, 2) := by decide +kernel
theorem dX2_isBarred_5 : decode cX2_isBarred 5 = .ok (.aload_n 0, 1) := by decide +kernel
theorem dX2_isBarred_6 : decode cX2_isBarred 6 = .ok (.getfield 31, 3) := by decide +kernel
theorem dX2_isBarred_9 : decode cX2_isBarred 9 = .ok (.if_icmp .ge 27, 3) := by decide +kernel
theorem dX2_isBarred_12 : decode cX2_isBarred 12 = .ok (.aload_n 0, 1) := by decide +kernel
theorem dX2_isBarred_13 : decode cX2_isBarred 13 = .ok (.getfield 36, 3) := by decide +kernel
theorem dX2_isBarred_16 : decode cX2_isBarred 16 = .ok (.iload 4, 2) := by decide +kernel
theorem dX2_isBarred_18 : decode cX2_isBarred 18 = .ok (.aaload, 1) := by decide +kernel
theorem dX2_isBarred_19 : decode cX2_isBarred 19 = .ok (.iload_n 1, 1) := by decide +kernel
theorem dX2_isBarred_20 : decode cX2_isBarred 20 = .ok (.iload_n 2, 1) := by decide +kernel
theorem dX2_isBarred_21 : decode cX2_isBarred 21 = .ok (.iload_n 3, 1) := by decide +kernel
theorem dX2_isBarred_22 : decode cX2_isBarred 22 = .ok (.invokevirtual 68, 3) := by decide +kernel
theorem dX2_isBarred_25 : decode cX2_isBarred 25 = .ok (.ifCond .eq 5, 3) := by decide +kernel
theorem dX2_isBarred_28 : decode cX2_isBarred 28 = .ok (.iconst 1, 1) := by decide +kernel
theorem dX2_isBarred_29 : decode cX2_isBarred 29 = .ok (.ireturn, 1) := by decide +kernel
theorem dX2_isBarred_30 : decode cX2_isBarred 30 = .ok (.iinc 4 1, 3) := by decide +kernel
theorem dX2_isBarred_33 : decode cX2_isBarred 33 = .ok (.goto (-30), 3) := by decide +kernel
theorem dX2_isBarred_36 : decode cX2_isBarred 36 = .ok (.iconst 0, 1) := by decide +kernel
theorem dX2_isBarred_37 : decode cX2_isBarred 37 = .ok (.ireturn, 1) := by decide +kernel
theorem dX3_init_0 : decode cX3_init 0 = .ok (.aload_n 0, 1) := by decide +kernel
theorem dX3_init_1 : decode cX3_init 1 = .ok (.invokespecial 1, 3) := by decide +kernel
theorem dX3_init_4 : decode cX3_init 4 = .ok (.aload_n 0, 1) := by decide +kernel
theorem dX3_init_5 : decode cX3_init 5 = .ok (.iconst 0, 1) := by decide +kernel
theorem dX3_init_6 : decode cX3_init 6 = .ok (.putfield 7, 3) := by decide +kernel
theorem dX3_init_9 : decode cX3_init 9 = .ok (.aload_n 0, 1) := by decide +kernel
theorem dX3_init_10 : decode cX3_init 10 = .ok (.iload_n 1, 1) := by decide +kernel
theorem dX3_init_11 : decode cX3_init 11 = .ok (.putfield 13, 3) := by decide +kernel
theorem dX3_init_14 : decode cX3_init 14 = .ok (.aload_n 0, 1) := by decide +kernel
theorem dX3_init_15 : decode cX3_init 15 = .ok (.iload_n 2, 1) := by decide +kernel
theorem dX3_init_16 : decode cX3_init 16 = .ok (.putfield 17, 3) := by decide +kernel
theorem dX3_init_19 : decode cX3_init 19 = .ok (.aload_n 0, 1) := by decide +kernel
theorem dX3_init_20 : decode cX3_init 20 = .ok (.aload_n 3, 1) := by decide +kernel
theorem dX3_init_21 : decode cX3_init 21 = .ok (.putfield 20, 3) := by decide +kernel
theorem dX3_init_24 : decode cX3_init 24 = .ok (.aload_n 0, 1) := by decide +kernel
theorem dX3_init_25 : decode cX3_init 25 = .ok (.aload_n 3, 1) := by decide +kernel
theorem dX3_init_26 : decode cX3_init 26 = .ok (.getfield 24, 3) := by decide +kernel
theorem dX3_init_29 : decode cX3_init 29 = .ok (.putfield 29, 3) := by decide +kernel
theorem dX3_init_32 : decode cX3_init 32 = .ok (.return_, 1) := by decide +kernel
theorem dX3_endOn_0 : decode cX3_endOn 0 = .ok (.aload_n 0, 1) := by decide +kernel
theorem dX3_endOn_1 : decode cX3_endOn 1 = .ok (.iconst 1, 1) := by decide +kernel
theorem dX3_endOn_2 : decode cX3_endOn 2 = .ok (.putfield 7, 3) := by decide +kernel
theorem dX3_endOn_5 : decode cX3_endOn 5 = .ok (.aload_n 0, 1) := by decide +kernel
theorem dX3_endOn_6 : decode cX3_endOn 6 = .ok (.aload_n 0, 1) := by decide +kernel
theorem dX3_endOn_7 : decode cX3_endOn 7 = .ok (.getfield 29, 3) := by decide +kernel
theorem dX3_endOn_10 : decode cX3_endOn 10 = .ok (.iload_n 1, 1) := by decide +kernel
theorem dX3_endOn_11 : decode cX3_endOn 11 = .ok (.iconst 1, 1) := by decide +kernel
theorem dX3_endOn_12 : decode cX3_endOn 12 = .ok (.isub, 1) := by decide +kernel
theorem dX3_endOn_13 : decode cX3_endOn 13 = .ok (.invokestatic 32, 3) := by decide +kernel
theorem dX3_endOn_16 : decode cX3_endOn 16 = .ok (.putfield 29, 3) := by decide +kernel
theorem dX3_endOn_19 : decode cX3_endOn 19 = .ok (.return_, 1) := by decide +kernel
set_option maxRecDepth 20000 in
theorem ggX3_cellsWith_X8_cellsWith : GoodIn wsX3_cellsWith wsX8_cellsWith := goodIn_r _ [17, 18, 19, 20, 21, 22, 23, 24, 25, 26, 27, 33, 34, 35, 36, 37] (by decide +kernel) (by decide +kernel)
set_option maxRecDepth 20000 in
theorem gX3_cellsWith_X8_cellsWith : GoodIn wsX3_cellsWith (wsV RX3 44 RX8 yX8_cellsWith wsX8_cellsWith) := goodIn_app (goodIn_of _ (by decide +kernel)) ggX3_cellsWith_X8_cellsWith
theorem dX3_cellsWith_0 : decode cX3_cellsWith 0 = .ok (.aload_n 0, 1) := by decide +kernel
theorem dX3_cellsWith_1 : decode cX3_cellsWith 1 = .ok (.getfield 20, 3) := by decide +kernel
theorem dX3_cellsWith_4 : decode cX3_cellsWith 4 = .ok (.getfield 38, 3) := by decide +kernel
theorem dX3_cellsWith_7 : decode cX3_cellsWith 7 = .ok (.aload_n 2, 1) := by decide +kernel
theorem dX3_cellsWith_8 : decode cX3_cellsWith 8 = .ok (.getfield 38, 3) := by decide +kernel
theorem dX3_cellsWith_11 : decode cX3_cellsWith 11 = .ok (.invokestatic 41, 3) := by decide +kernel
theorem dX3_cellsWith_14 : decode cX3_cellsWith 14 = .ok (.istore_n 3, 1) := by decide +kernel
theorem dX3_cellsWith_15 : decode cX3_cellsWith 15 = .ok (.aload_n 0, 1) := by decide +kernel
theorem dX3_cellsWith_16 : decode cX3_cellsWith 16 = .ok (.getfield 29, 3) := by decide +kernel
theorem dX3_cellsWith_19 : decode cX3_cellsWith 19 = .ok (.aload_n 2, 1) := by decide +kernel
theorem dX3_cellsWith_20 : decode cX3_cellsWith 20 = .ok (.getfield 24, 3) := by decide +kernel
theorem dX3_cellsWith_23 : decode cX3_cellsWith 23 = .ok (.invokestatic 32, 3) := by decide +kernel
theorem dX3_cellsWith_26 : decode cX3_cellsWith 26 = .ok (.istore 4, 2) := by decide +kernel
theorem dX3_cellsWith_28 : decode cX3_cellsWith 28 = .ok (.aload_n 0, 1) := by decide +kernel
theorem dX3_cellsWith_29 : decode cX3_cellsWith 29 = .ok (.getfield 13, 3) := by decide +kernel
theorem dX3_cellsWith_32 : decode cX3_cellsWith 32 = .ok (.iload_n 1, 1) := by decide +kernel
theorem dX3_cellsWith_33 : decode cX3_cellsWith 33 = .ok (.if_icmp .ne 20, 3) := by decide +kernel
theorem dX3_cellsWith_36 : decode cX3_cellsWith 36 = .ok (.iload_n 3, 1) := by decide +kernel
theorem dX3_cellsWith_37 : decode cX3_cellsWith 37 = .ok (.iload 4, 2) := by decide +kernel
theorem dX3_cellsWith_39 : decode cX3_cellsWith 39 = .ok (.if_icmp .gt 14, 3) := by decide +kernel
theorem dX3_cellsWith_42 : decode cX3_cellsWith 42 = .ok (.aload_n 0, 1) := by decide +kernel
theorem dX3_cellsWith_43 : decode cX3_cellsWith 43 = .ok (.getfield 20, 3) := by decide +kernel
theorem dX3_cellsWith_46 : decode cX3_cellsWith 46 = .ok (.aload_n 2, 1) := by decide +kernel
theorem dX3_cellsWith_47 : decode cX3_cellsWith 47 = .ok (.invokevirtual 44, 3) := by decide +kernel
theorem dX3_cellsWith_50 : decode cX3_cellsWith 50 = .ok (.goto 4, 3) := by decide +kernel
theorem dX3_cellsWith_53 : decode cX3_cellsWith 53 = .ok (.iconst 0, 1) := by decide +kernel
theorem dX3_cellsWith_54 : decode cX3_cellsWith 54 = .ok (.ireturn, 1) := by decide +kernel
set_option maxRecDepth 20000 in
theorem ggX4_init_X1_init : GoodIn wsX4_init wsX1_init := goodIn_r _ [19, 20, 2, 3, 21, 22, 23, 7, 24, 25, 26, 27, 28, 29, 30, 53, 54, 55, 56, 57, 58, 59, 60] (by decide +kernel) (by decide +kernel)
set_option maxRecDepth 20000 in
theorem gX4_init_X1_init_n27 : GoodIn wsX4_init (wsX1_init) := ggX4_init_X1_init
set_option maxRecDepth 20000 in
theorem ggX4_init_X9_init : GoodIn wsX4_init wsX9_init := goodIn_r _ [33, 34, 2, 3, 35, 7, 36, 37, 38, 39, 40, 15, 41, 42, 43, 44, 45, 61, 62, 63] (by decide +kernel) (by decide +kernel)
set_option maxRecDepth 20000 in
theorem gX4_init_X9_init : GoodIn wsX4_init (wsX9_init) := ggX4_init_X9_init
theorem dX4_init_0 : decode cX4_init 0 = .ok (.aload_n 0, 1) := by decide +kernel
theorem dX4_init_1 : decode cX4_init 1 = .ok (.invokespecial 3, 3) := by decide +kernel
theorem dX4_init_4 : decode cX4_init 4 = .ok (.aload_n 0, 1) := by decide +kernel
theorem dX4_init_5 : decode cX4_init 5 = .ok (.iconst 0, 1) := by decide +kernel
theorem dX4_init_6 : decode cX4_init 6 = .ok (.putfield 9, 3) := by decide +kernel
theorem dX4_init_9 : decode cX4_init 9 = .ok (.aload_n 0, 1) := by decide +kernel
theorem dX4_init_10 : decode cX4_init 10 = .ok (.iconst 0, 1) := by decide +kernel
theorem dX4_init_11 : decode cX4_init 11 = .ok (.putfield 15, 3) := by decide +kernel
theorem dX4_init_14 : decode cX4_init 14 = .ok (.aload_n 0, 1) := by decide +kernel
theorem dX4_init_15 : decode cX4_init 15 = .ok (.iconst 4, 1) := by decide +kernel
theorem dX4_init_16 : decode cX4_init 16 = .ok (.putfield 18, 3) := by decide +kernel
theorem dX4_init_19 : decode cX4_init 19 = .ok (.aload_n 0, 1) := by decide +kernel
theorem dX4_init_20 : decode cX4_init 20 = .ok (.bipush 80, 2) := by decide +kernel
theorem dX4_init_22 : decode cX4_init 22 = .ok (.newarray .int, 2) := by decide +kernel
theorem dX4_init_24 : decode cX4_init 24 = .ok (.putfield 21, 3) := by decide +kernel
theorem dX4_init_27 : decode cX4_init 27 = .ok (.aload_n 0, 1) := by decide +kernel
theorem dX4_init_28 : decode cX4_init 28 = .ok (.new 25, 3) := by decide +kernel
theorem dX4_init_31 : decode cX4_init 31 = .ok (.dup, 1) := by decide +kernel
theorem dX4_init_32 : decode cX4_init 32 = .ok (.invokespecial 27, 3) := by decide +kernel
theorem dX4_init_35 : decode cX4_init 35 = .ok (.putfield 28, 3) := by decide +kernel
theorem dX4_init_38 : decode cX4_init 38 = .ok (.aload_n 0, 1) := by decide +kernel
theorem dX4_init_39 : decode cX4_init 39 = .ok (.new 32, 3) := by decide +kernel
theorem dX4_init_42 : decode cX4_init 42 = .ok (.dup, 1) := by decide +kernel
theorem dX4_init_43 : decode cX4_init 43 = .ok (.invokespecial 34, 3) := by decide +kernel
theorem dX4_init_46 : decode cX4_init 46 = .ok (.putfield 35, 3) := by decide +kernel
theorem dX4_init_49 : decode cX4_init 49 = .ok (.aload_n 0, 1) := by decide +kernel
theorem dX4_init_50 : decode cX4_init 50 = .ok (.iconst 1, 1) := by decide +kernel
theorem dX4_init_51 : decode cX4_init 51 = .ok (.putfield 39, 3) := by decide +kernel
theorem dX4_init_54 : decode cX4_init 54 = .ok (.return_, 1) := by decide +kernel
theorem dX4_changeHours_0 : decode cX4_changeHours 0 = .ok (.aload_n 0, 1) := by decide +kernel
theorem dX4_changeHours_1 : decode cX4_changeHours 1 = .ok (.iload_n 1, 1) := by decide +kernel
theorem dX4_changeHours_2 : decode cX4_changeHours 2 = .ok (.putfield 18, 3) := by decide +kernel
theorem dX4_changeHours_5 : decode cX4_changeHours 5 = .ok (.aload_n 0, 1) := by decide +kernel
theorem dX4_changeHours_6 : decode cX4_changeHours 6 = .ok (.iconst 0, 1) := by decide +kernel
theorem dX4_changeHours_7 : decode cX4_changeHours 7 = .ok (.putfield 39, 3) := by decide +kernel
theorem dX4_changeHours_10 : decode cX4_changeHours 10 = .ok (.return_, 1) := by decide +kernel
theorem dX4_changeWorth_0 : decode cX4_changeWorth 0 = .ok (.aload_n 0, 1) := by decide +kernel
theorem dX4_changeWorth_1 : decode cX4_changeWorth 1 = .ok (.getfield 21, 3) := by decide +kernel
theorem dX4_changeWorth_4 : decode cX4_changeWorth 4 = .ok (.iload_n 1, 1) := by decide +kernel
theorem dX4_changeWorth_5 : decode cX4_changeWorth 5 = .ok (.bipush 10, 2) := by decide +kernel
theorem dX4_changeWorth_7 : decode cX4_changeWorth 7 = .ok (.imul, 1) := by decide +kernel
theorem dX4_changeWorth_8 : decode cX4_changeWorth 8 = .ok (.iload_n 2, 1) := by decide +kernel
theorem dX4_changeWorth_9 : decode cX4_changeWorth 9 = .ok (.iadd, 1) := by decide +kernel
theorem dX4_changeWorth_10 : decode cX4_changeWorth 10 = .ok (.iload_n 3, 1) := by decide +kernel
theorem dX4_changeWorth_11 : decode cX4_changeWorth 11 = .ok (.iastore, 1) := by decide +kernel
theorem dX4_changeWorth_12 : decode cX4_changeWorth 12 = .ok (.aload_n 0, 1) := by decide +kernel
theorem dX4_changeWorth_13 : decode cX4_changeWorth 13 = .ok (.iconst 0, 1) := by decide +kernel
theorem dX4_changeWorth_14 : decode cX4_changeWorth 14 = .ok (.putfield 39, 3) := by decide +kernel
theorem dX4_changeWorth_17 : decode cX4_changeWorth 17 = .ok (.return_, 1) := by decide +kernel
set_option maxRecDepth 20000 in
theorem ggX4_bringUpToDate_X1_startAnew : GoodIn wsX4_bringUpToDate wsX1_startAnew := goodIn_r _ [10, 11, 12, 13, 14, 15, 16, 17, 18, 142, 143, 144, 145, 146, 147, 148, 149] (by decide +kernel) (by decide +kernel)
set_option maxRecDepth 20000 in
theorem gX4_bringUpToDate_X1_startAnew : GoodIn wsX4_bringUpToDate (wsV RX4 44 RX1 yX1_startAnew wsX1_startAnew) := goodIn_app (goodIn_of _ (by decide +kernel)) ggX4_bringUpToDate_X1_startAnew
set_option maxRecDepth 20000 in
theorem ggX4_bringUpToDate_X1_changeWorth : GoodIn wsX4_bringUpToDate wsX1_changeWorth := goodIn_r _ [22, 14, 12, 23, 24, 25, 26, 9, 27, 28, 29, 30, 31, 32, 33, 34, 13, 11, 35, 36, 37, 38, 39, 40, 41, 42, 43, 44, 15, 16, 17, 18, 45, 46, 47, 48, 49, 50, 51, 52, 53, 54, 55, 56, 57, 58, 59, 60, 61, 62, 63, 64, 65, 66, 67, 68, 69, 70, 71, 72, 73, 74, 75, 76, 77, 78, 79, 80, 81, 82, 83, 84, 85, 86, 142, 143, 144, 145, 146, 147, 148, 149] (by decide +kernel) (by decide +kernel)
set_option maxRecDepth 20000 in
theorem gX4_bringUpToDate_X1_changeWorth : GoodIn wsX4_bringUpToDate (wsV RX4 48 RX1 yX1_changeWorth wsX1_changeWorth) := goodIn_app (goodIn_of _ (by decide +kernel)) ggX4_bringUpToDate_X1_changeWorth
set_option maxRecDepth 20000 in
theorem ggX4_bringUpToDate_X4_layAll : GoodIn wsX4_bringUpToDate wsX4_layAll := goodIn_r _ [91, 92, 4, 2, 93, 94, 95, 96, 97, 98, 99, 100, 101, 102, 16, 17, 18, 103, 104, 105, 106, 107, 108, 109, 110, 111, 112, 113, 114, 115, 116, 117, 118, 119, 120, 121, 122, 123, 124, 125, 126, 127, 128, 129, 130, 131, 132, 133, 134, 135, 136, 137, 138, 139, 140, 141, 142, 143, 144, 145, 146, 147, 148, 149, 150, 151, 152] (by decide +kernel) (by decide +kernel)
set_option maxRecDepth 20000 in
theorem gX4_bringUpToDate_X4_layAll : GoodIn wsX4_bringUpToDate (wsV RX4 52 RX4 yX4_layAll wsX4_layAll) := goodIn_app (goodIn_of _ (by decide +kernel)) ggX4_bringUpToDate_X4_layAll
theorem dX4_bringUpToDate_0 : decode cX4_bringUpToDate 0 = .ok (.aload_n 0, 1) := by decide +kernel
theorem dX4_bringUpToDate_1 : decode cX4_bringUpToDate 1 = .ok (.getfield 39, 3) := by decide +kernel
theorem dX4_bringUpToDate_4 : decode cX4_bringUpToDate 4 = .ok (.ifCond .eq 4, 3) := by decide +kernel
theorem dX4_bringUpToDate_7 : decode cX4_bringUpToDate 7 = .ok (.return_, 1) := by decide +kernel
theorem dX4_bringUpToDate_8 : decode cX4_bringUpToDate 8 = .ok (.aload_n 0, 1) := by decide +kernel
theorem dX4_bringUpToDate_9 : decode cX4_bringUpToDate 9 = .ok (.getfield 28, 3) := by decide +kernel
theorem dX4_bringUpToDate_12 : decode cX4_bringUpToDate 12 = .ok (.getfield 43, 3) := by decide +kernel
theorem dX4_bringUpToDate_15 : decode cX4_bringUpToDate 15 = .ok (.aload_n 0, 1) := by decide +kernel
theorem dX4_bringUpToDate_16 : decode cX4_bringUpToDate 16 = .ok (.getfield 18, 3) := by decide +kernel
theorem dX4_bringUpToDate_19 : decode cX4_bringUpToDate 19 = .ok (.if_icmp .eq 14, 3) := by decide +kernel
theorem dX4_bringUpToDate_22 : decode cX4_bringUpToDate 22 = .ok (.aload_n 0, 1) := by decide +kernel
theorem dX4_bringUpToDate_23 : decode cX4_bringUpToDate 23 = .ok (.getfield 28, 3) := by decide +kernel
theorem dX4_bringUpToDate_26 : decode cX4_bringUpToDate 26 = .ok (.aload_n 0, 1) := by decide +kernel
theorem dX4_bringUpToDate_27 : decode cX4_bringUpToDate 27 = .ok (.getfield 18, 3) := by decide +kernel
theorem dX4_bringUpToDate_30 : decode cX4_bringUpToDate 30 = .ok (.invokevirtual 44, 3) := by decide +kernel
theorem dX4_bringUpToDate_33 : decode cX4_bringUpToDate 33 = .ok (.iconst 0, 1) := by decide +kernel
theorem dX4_bringUpToDate_34 : decode cX4_bringUpToDate 34 = .ok (.istore_n 1, 1) := by decide +kernel
theorem dX4_bringUpToDate_35 : decode cX4_bringUpToDate 35 = .ok (.iload_n 1, 1) := by decide +kernel
theorem dX4_bringUpToDate_36 : decode cX4_bringUpToDate 36 = .ok (.bipush 80, 2) := by decide +kernel
theorem dX4_bringUpToDate_38 : decode cX4_bringUpToDate 38 = .ok (.if_icmp .ge 23, 3) := by decide +kernel
theorem dX4_bringUpToDate_41 : decode cX4_bringUpToDate 41 = .ok (.aload_n 0, 1) := by decide +kernel
theorem dX4_bringUpToDate_42 : decode cX4_bringUpToDate 42 = .ok (.getfield 28, 3) := by decide +kernel
theorem dX4_bringUpToDate_45 : decode cX4_bringUpToDate 45 = .ok (.iload_n 1, 1) := by decide +kernel
theorem dX4_bringUpToDate_46 : decode cX4_bringUpToDate 46 = .ok (.aload_n 0, 1) := by decide +kernel
theorem dX4_bringUpToDate_47 : decode cX4_bringUpToDate 47 = .ok (.getfield 21, 3) := by decide +kernel
theorem dX4_bringUpToDate_50 : decode cX4_bringUpToDate 50 = .ok (.iload_n 1, 1) := by decide +kernel
theorem dX4_bringUpToDate_51 : decode cX4_bringUpToDate 51 = .ok (.iaload, 1) := by decide +kernel
theorem dX4_bringUpToDate_52 : decode cX4_bringUpToDate 52 = .ok (.invokevirtual 48, 3) := by decide +kernel
theorem dX4_bringUpToDate_55 : decode cX4_bringUpToDate 55 = .ok (.iinc 1 1, 3) := by decide +kernel
theorem dX4_bringUpToDate_58 : decode cX4_bringUpToDate 58 = .ok (.goto (-23), 3) := by decide +kernel
theorem dX4_bringUpToDate_61 : decode cX4_bringUpToDate 61 = .ok (.aload_n 0, 1) := by decide +kernel
theorem dX4_bringUpToDate_62 : decode cX4_bringUpToDate 62 = .ok (.invokevirtual 52, 3) := by decide +kernel
theorem dX4_bringUpToDate_65 : decode cX4_bringUpToDate 65 = .ok (.aload_n 0, 1) := by decide +kernel
theorem dX4_bringUpToDate_66 : decode cX4_bringUpToDate 66 = .ok (.iconst 1, 1) := by decide +kernel
theorem dX4_bringUpToDate_67 : decode cX4_bringUpToDate 67 = .ok (.putfield 39, 3) := by decide +kernel
theorem dX4_bringUpToDate_70 : decode cX4_bringUpToDate 70 = .ok (.return_, 1) := by decide +kernel
set_option maxRecDepth 20000 in
theorem ggX4_layAll_X9_clearFor : GoodIn wsX4_layAll wsX9_clearFor := goodIn_r _ [9, 10, 11, 12, 13, 14, 15, 16, 64, 65, 66] (by decide +kernel) (by decide +kernel)
set_option maxRecDepth 20000 in
theorem gX4_layAll_X9_clearFor : GoodIn wsX4_layAll (wsV RX4 55 RX9 yX9_clearFor wsX9_clearFor) := goodIn_app (goodIn_of _ (by decide +kernel)) ggX4_layAll_X9_clearFor
set_option maxRecDepth 20000 in
theorem ggX4_layAll_X9_lay : GoodIn wsX4_layAll wsX9_lay := goodIn_r _ [20, 21, 22, 23, 8, 24, 10, 25, 26, 27, 28, 11, 29, 30, 31, 32, 12, 33, 34, 35, 36, 37, 38, 39, 40, 41, 42, 43, 44, 45, 46, 47, 48, 64, 65, 66] (by decide +kernel) (by decide +kernel)
set_option maxRecDepth 20000 in
theorem gX4_layAll_X9_lay : GoodIn wsX4_layAll (wsV RX4 62 RX9 yX9_lay wsX9_lay) := goodIn_app (goodIn_of _ (by decide +kernel)) ggX4_layAll_X9_lay
theorem dX4_layAll_0 : decode cX4_layAll 0 = .ok (.aload_n 0, 1) := by decide +kernel
theorem dX4_layAll_1 : decode cX4_layAll 1 = .ok (.getfield 35, 3) := by decide +kernel
theorem dX4_layAll_4 : decode cX4_layAll 4 = .ok (.aload_n 0, 1) := by decide +kernel
theorem dX4_layAll_5 : decode cX4_layAll 5 = .ok (.getfield 18, 3) := by decide +kernel
theorem dX4_layAll_8 : decode cX4_layAll 8 = .ok (.invokevirtual 55, 3) := by decide +kernel
theorem dX4_layAll_11 : decode cX4_layAll 11 = .ok (.iconst 0, 1) := by decide +kernel
theorem dX4_layAll_12 : decode cX4_layAll 12 = .ok (.istore_n 1, 1) := by decide +kernel
theorem dX4_layAll_13 : decode cX4_layAll 13 = .ok (.iload_n 1, 1) := by decide +kernel
theorem dX4_layAll_14 : decode cX4_layAll 14 = .ok (.bipush 80, 2) := by decide +kernel
theorem dX4_layAll_16 : decode cX4_layAll 16 = .ok (.if_icmp .ge 36, 3) := by decide +kernel
theorem dX4_layAll_19 : decode cX4_layAll 19 = .ok (.aload_n 0, 1) := by decide +kernel
theorem dX4_layAll_20 : decode cX4_layAll 20 = .ok (.getfield 28, 3) := by decide +kernel
theorem dX4_layAll_23 : decode cX4_layAll 23 = .ok (.getfield 58, 3) := by decide +kernel
theorem dX4_layAll_26 : decode cX4_layAll 26 = .ok (.iload_n 1, 1) := by decide +kernel
theorem dX4_layAll_27 : decode cX4_layAll 27 = .ok (.baload, 1) := by decide +kernel
theorem dX4_layAll_28 : decode cX4_layAll 28 = .ok (.ifCond .eq 18, 3) := by decide +kernel
theorem dX4_layAll_31 : decode cX4_layAll 31 = .ok (.aload_n 0, 1) := by decide +kernel
theorem dX4_layAll_32 : decode cX4_layAll 32 = .ok (.getfield 35, 3) := by decide +kernel
theorem dX4_layAll_35 : decode cX4_layAll 35 = .ok (.iload_n 1, 1) := by decide +kernel
theorem dX4_layAll_36 : decode cX4_layAll 36 = .ok (.bipush 10, 2) := by decide +kernel
theorem dX4_layAll_38 : decode cX4_layAll 38 = .ok (.idiv, 1) := by decide +kernel
theorem dX4_layAll_39 : decode cX4_layAll 39 = .ok (.iload_n 1, 1) := by decide +kernel
theorem dX4_layAll_40 : decode cX4_layAll 40 = .ok (.bipush 10, 2) := by decide +kernel
theorem dX4_layAll_42 : decode cX4_layAll 42 = .ok (.irem, 1) := by decide +kernel
theorem dX4_layAll_43 : decode cX4_layAll 43 = .ok (.invokevirtual 62, 3) := by decide +kernel
theorem dX4_layAll_46 : decode cX4_layAll 46 = .ok (.iinc 1 1, 3) := by decide +kernel
theorem dX4_layAll_49 : decode cX4_layAll 49 = .ok (.goto (-36), 3) := by decide +kernel
theorem dX4_layAll_52 : decode cX4_layAll 52 = .ok (.return_, 1) := by decide +kernel
theorem dX5_init_0 : decode cX5_init 0 = .ok (.aload_n 0, 1) := by decide +kernel
theorem dX5_init_1 : decode cX5_init 1 = .ok (.invokespecial 1, 3) := by decide +kernel
theorem dX5_init_4 : decode cX5_init 4 = .ok (.aload_n 0, 1) := by decide +kernel
theorem dX5_init_5 : decode cX5_init 5 = .ok (.iconst 0, 1) := by decide +kernel
theorem dX5_init_6 : decode cX5_init 6 = .ok (.putfield 9, 3) := by decide +kernel
theorem dX5_init_9 : decode cX5_init 9 = .ok (.aload_n 0, 1) := by decide +kernel
theorem dX5_init_10 : decode cX5_init 10 = .ok (.iload_n 1, 1) := by decide +kernel
theorem dX5_init_11 : decode cX5_init 11 = .ok (.putfield 13, 3) := by decide +kernel
theorem dX5_init_14 : decode cX5_init 14 = .ok (.aload_n 0, 1) := by decide +kernel
theorem dX5_init_15 : decode cX5_init 15 = .ok (.iload_n 2, 1) := by decide +kernel
theorem dX5_init_16 : decode cX5_init 16 = .ok (.putfield 16, 3) := by decide +kernel
theorem dX5_init_19 : decode cX5_init 19 = .ok (.aload_n 0, 1) := by decide +kernel
theorem dX5_init_20 : decode cX5_init 20 = .ok (.aload_n 3, 1) := by decide +kernel
theorem dX5_init_21 : decode cX5_init 21 = .ok (.putfield 19, 3) := by decide +kernel
theorem dX5_init_24 : decode cX5_init 24 = .ok (.aload_n 0, 1) := by decide +kernel
theorem dX5_init_25 : decode cX5_init 25 = .ok (.iload 4, 2) := by decide +kernel
theorem dX5_init_27 : decode cX5_init 27 = .ok (.putfield 23, 3) := by decide +kernel
theorem dX5_init_30 : decode cX5_init 30 = .ok (.return_, 1) := by decide +kernel
theorem dX5_markAt_0 : decode cX5_markAt 0 = .ok (.aload_n 0, 1) := by decide +kernel
theorem dX5_markAt_1 : decode cX5_markAt 1 = .ok (.getfield 9, 3) := by decide +kernel
theorem dX5_markAt_4 : decode cX5_markAt 4 = .ok (.ifCond .ne 15, 3) := by decide +kernel
theorem dX5_markAt_7 : decode cX5_markAt 7 = .ok (.iload_n 1, 1) := by decide +kernel
theorem dX5_markAt_8 : decode cX5_markAt 8 = .ok (.aload_n 0, 1) := by decide +kernel
theorem dX5_markAt_9 : decode cX5_markAt 9 = .ok (.getfield 23, 3) := by decide +kernel
theorem dX5_markAt_12 : decode cX5_markAt 12 = .ok (.if_icmp .le 7, 3) := by decide +kernel
theorem dX5_markAt_15 : decode cX5_markAt 15 = .ok (.iconst 3, 1) := by decide +kernel
theorem dX5_markAt_16 : decode cX5_markAt 16 = .ok (.goto 7, 3) := by decide +kernel
theorem dX5_markAt_19 : decode cX5_markAt 19 = .ok (.aload_n 0, 1) := by decide +kernel
theorem dX5_markAt_20 : decode cX5_markAt 20 = .ok (.getfield 9, 3) := by decide +kernel
theorem dX5_markAt_23 : decode cX5_markAt 23 = .ok (.ireturn, 1) := by decide +kernel
theorem dX6_init_0 : decode cX6_init 0 = .ok (.aload_n 0, 1) := by decide +kernel
theorem dX6_init_1 : decode cX6_init 1 = .ok (.invokespecial 3, 3) := by decide +kernel
theorem dX6_init_4 : decode cX6_init 4 = .ok (.aload_n 0, 1) := by decide +kernel
theorem dX6_init_5 : decode cX6_init 5 = .ok (.iconst 0, 1) := by decide +kernel
theorem dX6_init_6 : decode cX6_init 6 = .ok (.putfield 9, 3) := by decide +kernel
theorem dX6_init_9 : decode cX6_init 9 = .ok (.aload_n 0, 1) := by decide +kernel
theorem dX6_init_10 : decode cX6_init 10 = .ok (.iconst 0, 1) := by decide +kernel
theorem dX6_init_11 : decode cX6_init 11 = .ok (.putfield 15, 3) := by decide +kernel
theorem dX6_init_14 : decode cX6_init 14 = .ok (.aload_n 0, 1) := by decide +kernel
theorem dX6_init_15 : decode cX6_init 15 = .ok (.bipush 60, 2) := by decide +kernel
theorem dX6_init_17 : decode cX6_init 17 = .ok (.anewarray 18, 3) := by decide +kernel
theorem dX6_init_20 : decode cX6_init 20 = .ok (.putfield 20, 3) := by decide +kernel
theorem dX6_init_23 : decode cX6_init 23 = .ok (.return_, 1) := by decide +kernel
theorem dX6_addOffer_0 : decode cX6_addOffer 0 = .ok (.aload_n 0, 1) := by decide +kernel
theorem dX6_addOffer_1 : decode cX6_addOffer 1 = .ok (.getfield 20, 3) := by decide +kernel
theorem dX6_addOffer_4 : decode cX6_addOffer 4 = .ok (.aload_n 0, 1) := by decide +kernel
theorem dX6_addOffer_5 : decode cX6_addOffer 5 = .ok (.getfield 15, 3) := by decide +kernel
theorem dX6_addOffer_8 : decode cX6_addOffer 8 = .ok (.aload_n 1, 1) := by decide +kernel
theorem dX6_addOffer_9 : decode cX6_addOffer 9 = .ok (.aastore, 1) := by decide +kernel
theorem dX6_addOffer_10 : decode cX6_addOffer 10 = .ok (.aload_n 0, 1) := by decide +kernel
theorem dX6_addOffer_11 : decode cX6_addOffer 11 = .ok (.dup, 1) := by decide +kernel
theorem dX6_addOffer_12 : decode cX6_addOffer 12 = .ok (.getfield 15, 3) := by decide +kernel
theorem dX6_addOffer_15 : decode cX6_addOffer 15 = .ok (.iconst 1, 1) := by decide +kernel
theorem dX6_addOffer_16 : decode cX6_addOffer 16 = .ok (.iadd, 1) := by decide +kernel
theorem dX6_addOffer_17 : decode cX6_addOffer 17 = .ok (.putfield 15, 3) := by decide +kernel
theorem dX6_addOffer_20 : decode cX6_addOffer 20 = .ok (.aload_n 0, 1) := by decide +kernel
theorem dX6_addOffer_21 : decode cX6_addOffer 21 = .ok (.getfield 15, 3) := by decide +kernel
theorem dX6_addOffer_24 : decode cX6_addOffer 24 = .ok (.iconst 1, 1) := by decide +kernel
theorem dX6_addOffer_25 : decode cX6_addOffer 25 = .ok (.isub, 1) := by decide +kernel
theorem dX6_addOffer_26 : decode cX6_addOffer 26 = .ok (.ireturn, 1) := by decide +kernel
set_option maxRecDepth 20000 in
theorem ggX6_voidClashing_X5_markAt : GoodIn wsX6_voidClashing wsX5_markAt := goodIn_r _ [11, 12, 13, 61, 62, 63, 64, 65] (by decide +kernel) (by decide +kernel)
set_option maxRecDepth 20000 in
theorem gX6_voidClashing_X5_markAt : GoodIn wsX6_voidClashing (wsV RX6 27 RX5 yX5_markAt wsX5_markAt) := goodIn_app (goodIn_of _ (by decide +kernel)) ggX6_voidClashing_X5_markAt
set_option maxRecDepth 20000 in
theorem ggX6_voidClashing_X2_wouldClash : GoodIn wsX6_voidClashing wsX2_wouldClash := goodIn_r _ [18, 19, 20, 21, 17, 22, 23, 24, 25, 26, 27, 28, 29, 30, 31, 32, 33, 34, 35, 36, 37, 38, 39, 40, 41, 42, 43, 44, 45, 46, 47, 48, 49, 50, 51, 52, 53, 54, 55, 56, 57, 66, 67, 68, 69, 70, 71, 72, 73, 74, 75, 76, 77, 78, 79, 80, 81, 82] (by decide +kernel) (by decide +kernel)
set_option maxRecDepth 20000 in
theorem gX6_voidClashing_X2_wouldClash : GoodIn wsX6_voidClashing (wsV RX6 35 RX2 yX2_wouldClash wsX2_wouldClash) := goodIn_app (goodIn_of _ (by decide +kernel)) ggX6_voidClashing_X2_wouldClash
theorem dX6_voidClashing_0 : decode cX6_voidClashing 0 = .ok (.iconst 0, 1) := by decide +kernel
theorem dX6_voidClashing_1 : decode cX6_voidClashing 1 = .ok (.istore_n 3, 1) := by decide +kernel
theorem dX6_voidClashing_2 : decode cX6_voidClashing 2 = .ok (.iload_n 3, 1) := by decide +kernel
theorem dX6_voidClashing_3 : decode cX6_voidClashing 3 = .ok (.aload_n 0, 1) := by decide +kernel
theorem dX6_voidClashing_4 : decode cX6_voidClashing 4 = .ok (.getfield 15, 3) := by decide +kernel
theorem dX6_voidClashing_7 : decode cX6_voidClashing 7 = .ok (.if_icmp .ge 57, 3) := by decide +kernel
theorem dX6_voidClashing_10 : decode cX6_voidClashing 10 = .ok (.aload_n 0, 1) := by decide +kernel
theorem dX6_voidClashing_11 : decode cX6_voidClashing 11 = .ok (.getfield 20, 3) := by decide +kernel
theorem dX6_voidClashing_14 : decode cX6_voidClashing 14 = .ok (.iload_n 3, 1) := by decide +kernel
theorem dX6_voidClashing_15 : decode cX6_voidClashing 15 = .ok (.aaload, 1) := by decide +kernel
theorem dX6_voidClashing_16 : decode cX6_voidClashing 16 = .ok (.astore 4, 2) := by decide +kernel
theorem dX6_voidClashing_18 : decode cX6_voidClashing 18 = .ok (.aload 4, 2) := by decide +kernel
theorem dX6_voidClashing_20 : decode cX6_voidClashing 20 = .ok (.getfield 24, 3) := by decide +kernel
theorem dX6_voidClashing_23 : decode cX6_voidClashing 23 = .ok (.iload_n 2, 1) := by decide +kernel
theorem dX6_voidClashing_24 : decode cX6_voidClashing 24 = .ok (.if_icmp .ne 34, 3) := by decide +kernel
theorem dX6_voidClashing_27 : decode cX6_voidClashing 27 = .ok (.aload 4, 2) := by decide +kernel
theorem dX6_voidClashing_29 : decode cX6_voidClashing 29 = .ok (.aload_n 0, 1) := by decide +kernel
theorem dX6_voidClashing_30 : decode cX6_voidClashing 30 = .ok (.getfield 9, 3) := by decide +kernel
theorem dX6_voidClashing_33 : decode cX6_voidClashing 33 = .ok (.invokevirtual 27, 3) := by decide +kernel
theorem dX6_voidClashing_36 : decode cX6_voidClashing 36 = .ok (.ifCond .ne 22, 3) := by decide +kernel
theorem dX6_voidClashing_39 : decode cX6_voidClashing 39 = .ok (.aload_n 1, 1) := by decide +kernel
theorem dX6_voidClashing_40 : decode cX6_voidClashing 40 = .ok (.iload_n 2, 1) := by decide +kernel
theorem dX6_voidClashing_41 : decode cX6_voidClashing 41 = .ok (.aload 4, 2) := by decide +kernel
theorem dX6_voidClashing_43 : decode cX6_voidClashing 43 = .ok (.getfield 31, 3) := by decide +kernel
theorem dX6_voidClashing_46 : decode cX6_voidClashing 46 = .ok (.invokevirtual 35, 3) := by decide +kernel
theorem dX6_voidClashing_49 : decode cX6_voidClashing 49 = .ok (.ifCond .eq 9, 3) := by decide +kernel
theorem dX6_voidClashing_52 : decode cX6_voidClashing 52 = .ok (.aload 4, 2) := by decide +kernel
theorem dX6_voidClashing_54 : decode cX6_voidClashing 54 = .ok (.iconst 2, 1) := by decide +kernel
theorem dX6_voidClashing_55 : decode cX6_voidClashing 55 = .ok (.putfield 41, 3) := by decide +kernel
theorem dX6_voidClashing_58 : decode cX6_voidClashing 58 = .ok (.iinc 3 1, 3) := by decide +kernel
theorem dX6_voidClashing_61 : decode cX6_voidClashing 61 = .ok (.goto (-59), 3) := by decide +kernel
theorem dX6_voidClashing_64 : decode cX6_voidClashing 64 = .ok (.return_, 1) := by decide +kernel
theorem dX7_init_0 : decode cX7_init 0 = .ok (.aload_n 0, 1) := by decide +kernel
theorem dX7_init_1 : decode cX7_init 1 = .ok (.invokespecial 1, 3) := by decide +kernel
theorem dX7_init_4 : decode cX7_init 4 = .ok (.aload_n 0, 1) := by decide +kernel
theorem dX7_init_5 : decode cX7_init 5 = .ok (.iload_n 1, 1) := by decide +kernel
theorem dX7_init_6 : decode cX7_init 6 = .ok (.putfield 7, 3) := by decide +kernel
theorem dX7_init_9 : decode cX7_init 9 = .ok (.aload_n 0, 1) := by decide +kernel
theorem dX7_init_10 : decode cX7_init 10 = .ok (.iload_n 2, 1) := by decide +kernel
theorem dX7_init_11 : decode cX7_init 11 = .ok (.putfield 13, 3) := by decide +kernel
theorem dX7_init_14 : decode cX7_init 14 = .ok (.aload_n 0, 1) := by decide +kernel
theorem dX7_init_15 : decode cX7_init 15 = .ok (.iload_n 3, 1) := by decide +kernel
theorem dX7_init_16 : decode cX7_init 16 = .ok (.putfield 16, 3) := by decide +kernel
theorem dX7_init_19 : decode cX7_init 19 = .ok (.aload_n 0, 1) := by decide +kernel
theorem dX7_init_20 : decode cX7_init 20 = .ok (.iload 4, 2) := by decide +kernel
theorem dX7_init_22 : decode cX7_init 22 = .ok (.putfield 19, 3) := by decide +kernel
theorem dX7_init_25 : decode cX7_init 25 = .ok (.return_, 1) := by decide +kernel
theorem dX7_bars_0 : decode cX7_bars 0 = .ok (.aload_n 0, 1) := by decide +kernel
theorem dX7_bars_1 : decode cX7_bars 1 = .ok (.getfield 7, 3) := by decide +kernel
theorem dX7_bars_4 : decode cX7_bars 4 = .ok (.iload_n 1, 1) := by decide +kernel
theorem dX7_bars_5 : decode cX7_bars 5 = .ok (.if_icmp .ne 31, 3) := by decide +kernel
theorem dX7_bars_8 : decode cX7_bars 8 = .ok (.aload_n 0, 1) := by decide +kernel
theorem dX7_bars_9 : decode cX7_bars 9 = .ok (.getfield 13, 3) := by decide +kernel
theorem dX7_bars_12 : decode cX7_bars 12 = .ok (.iload_n 2, 1) := by decide +kernel
theorem dX7_bars_13 : decode cX7_bars 13 = .ok (.if_icmp .eq 23, 3) := by decide +kernel
theorem dX7_bars_16 : decode cX7_bars 16 = .ok (.aload_n 0, 1) := by decide +kernel
theorem dX7_bars_17 : decode cX7_bars 17 = .ok (.getfield 16, 3) := by decide +kernel
theorem dX7_bars_20 : decode cX7_bars 20 = .ok (.iload_n 3, 1) := by decide +kernel
theorem dX7_bars_21 : decode cX7_bars 21 = .ok (.if_icmp .gt 15, 3) := by decide +kernel
theorem dX7_bars_24 : decode cX7_bars 24 = .ok (.iload_n 3, 1) := by decide +kernel
theorem dX7_bars_25 : decode cX7_bars 25 = .ok (.aload_n 0, 1) := by decide +kernel
theorem dX7_bars_26 : decode cX7_bars 26 = .ok (.getfield 19, 3) := by decide +kernel
theorem dX7_bars_29 : decode cX7_bars 29 = .ok (.if_icmp .gt 7, 3) := by decide +kernel
theorem dX7_bars_32 : decode cX7_bars 32 = .ok (.iconst 1, 1) := by decide +kernel
theorem dX7_bars_33 : decode cX7_bars 33 = .ok (.goto 4, 3) := by decide +kernel
theorem dX7_bars_36 : decode cX7_bars 36 = .ok (.iconst 0, 1) := by decide +kernel
theorem dX7_bars_37 : decode cX7_bars 37 = .ok (.ireturn, 1) := by decide +kernel
theorem dX8_init_0 : decode cX8_init 0 = .ok (.aload_n 0, 1) := by decide +kernel
theorem dX8_init_1 : decode cX8_init 1 = .ok (.invokespecial 3, 3) := by decide +kernel
theorem dX8_init_4 : decode cX8_init 4 = .ok (.aload_n 0, 1) := by decide +kernel
theorem dX8_init_5 : decode cX8_init 5 = .ok (.iload_n 1, 1) := by decide +kernel
theorem dX8_init_6 : decode cX8_init 6 = .ok (.putfield 9, 3) := by decide +kernel
theorem dX8_init_9 : decode cX8_init 9 = .ok (.aload_n 0, 1) := by decide +kernel
theorem dX8_init_10 : decode cX8_init 10 = .ok (.iload_n 2, 1) := by decide +kernel
theorem dX8_init_11 : decode cX8_init 11 = .ok (.putfield 15, 3) := by decide +kernel
theorem dX8_init_14 : decode cX8_init 14 = .ok (.aload_n 0, 1) := by decide +kernel
theorem dX8_init_15 : decode cX8_init 15 = .ok (.iload_n 3, 1) := by decide +kernel
theorem dX8_init_16 : decode cX8_init 16 = .ok (.putfield 18, 3) := by decide +kernel
theorem dX8_init_19 : decode cX8_init 19 = .ok (.aload_n 0, 1) := by decide +kernel
theorem dX8_init_20 : decode cX8_init 20 = .ok (.iload 4, 2) := by decide +kernel
theorem dX8_init_22 : decode cX8_init 22 = .ok (.putfield 21, 3) := by decide +kernel
theorem dX8_init_25 : decode cX8_init 25 = .ok (.aload_n 0, 1) := by decide +kernel
theorem dX8_init_26 : decode cX8_init 26 = .ok (.iload 5, 2) := by decide +kernel
theorem dX8_init_28 : decode cX8_init 28 = .ok (.putfield 24, 3) := by decide +kernel
theorem dX8_init_31 : decode cX8_init 31 = .ok (.return_, 1) := by decide +kernel
set_option maxRecDepth 20000 in
theorem ggX8_canBe_X11_isDay : GoodIn wsX8_canBe wsX11_isDay := goodIn_r _ [8] (by decide +kernel) (by decide +kernel)
set_option maxRecDepth 20000 in
theorem gX8_canBe_X11_isDay_n27 : GoodIn wsX8_canBe (wsX11_isDay) := ggX8_canBe_X11_isDay
theorem dX8_canBe_0 : decode cX8_canBe 0 = .ok (.aload_n 0, 1) := by decide +kernel
theorem dX8_canBe_1 : decode cX8_canBe 1 = .ok (.getfield 9, 3) := by decide +kernel
theorem dX8_canBe_4 : decode cX8_canBe 4 = .ok (.iconst 1, 1) := by decide +kernel
theorem dX8_canBe_5 : decode cX8_canBe 5 = .ok (.if_icmp .lt 82, 3) := by decide +kernel
theorem dX8_canBe_8 : decode cX8_canBe 8 = .ok (.aload_n 0, 1) := by decide +kernel
theorem dX8_canBe_9 : decode cX8_canBe 9 = .ok (.getfield 9, 3) := by decide +kernel
theorem dX8_canBe_12 : decode cX8_canBe 12 = .ok (.sipush 255, 3) := by decide +kernel
theorem dX8_canBe_15 : decode cX8_canBe 15 = .ok (.if_icmp .gt 72, 3) := by decide +kernel
theorem dX8_canBe_18 : decode cX8_canBe 18 = .ok (.aload_n 0, 1) := by decide +kernel
theorem dX8_canBe_19 : decode cX8_canBe 19 = .ok (.getfield 15, 3) := by decide +kernel
theorem dX8_canBe_22 : decode cX8_canBe 22 = .ok (.iconst 1, 1) := by decide +kernel
theorem dX8_canBe_23 : decode cX8_canBe 23 = .ok (.if_icmp .lt 64, 3) := by decide +kernel
theorem dX8_canBe_26 : decode cX8_canBe 26 = .ok (.aload_n 0, 1) := by decide +kernel
theorem dX8_canBe_27 : decode cX8_canBe 27 = .ok (.getfield 15, 3) := by decide +kernel
theorem dX8_canBe_30 : decode cX8_canBe 30 = .ok (.bipush 15, 2) := by decide +kernel
theorem dX8_canBe_32 : decode cX8_canBe 32 = .ok (.if_icmp .gt 55, 3) := by decide +kernel
theorem dX8_canBe_35 : decode cX8_canBe 35 = .ok (.aload_n 0, 1) := by decide +kernel
theorem dX8_canBe_36 : decode cX8_canBe 36 = .ok (.getfield 18, 3) := by decide +kernel
theorem dX8_canBe_39 : decode cX8_canBe 39 = .ok (.iconst 1, 1) := by decide +kernel
theorem dX8_canBe_40 : decode cX8_canBe 40 = .ok (.if_icmp .lt 47, 3) := by decide +kernel
theorem dX8_canBe_43 : decode cX8_canBe 43 = .ok (.aload_n 0, 1) := by decide +kernel
theorem dX8_canBe_44 : decode cX8_canBe 44 = .ok (.getfield 18, 3) := by decide +kernel
theorem dX8_canBe_47 : decode cX8_canBe 47 = .ok (.bipush 15, 2) := by decide +kernel
theorem dX8_canBe_49 : decode cX8_canBe 49 = .ok (.if_icmp .gt 38, 3) := by decide +kernel
theorem dX8_canBe_52 : decode cX8_canBe 52 = .ok (.aload_n 0, 1) := by decide +kernel
theorem dX8_canBe_53 : decode cX8_canBe 53 = .ok (.getfield 21, 3) := by decide +kernel
theorem dX8_canBe_56 : decode cX8_canBe 56 = .ok (.invokestatic 27, 3) := by decide +kernel
theorem dX8_canBe_59 : decode cX8_canBe 59 = .ok (.ifCond .eq 28, 3) := by decide +kernel
theorem dX8_canBe_62 : decode cX8_canBe 62 = .ok (.aload_n 0, 1) := by decide +kernel
theorem dX8_canBe_63 : decode cX8_canBe 63 = .ok (.getfield 24, 3) := by decide +kernel
theorem dX8_canBe_66 : decode cX8_canBe 66 = .ok (.invokestatic 27, 3) := by decide +kernel
theorem dX8_canBe_69 : decode cX8_canBe 69 = .ok (.ifCond .eq 18, 3) := by decide +kernel
theorem dX8_canBe_72 : decode cX8_canBe 72 = .ok (.aload_n 0, 1) := by decide +kernel
theorem dX8_canBe_73 : decode cX8_canBe 73 = .ok (.getfield 21, 3) := by decide +kernel
theorem dX8_canBe_76 : decode cX8_canBe 76 = .ok (.aload_n 0, 1) := by decide +kernel
theorem dX8_canBe_77 : decode cX8_canBe 77 = .ok (.getfield 24, 3) := by decide +kernel
theorem dX8_canBe_80 : decode cX8_canBe 80 = .ok (.if_icmp .gt 7, 3) := by decide +kernel
theorem dX8_canBe_83 : decode cX8_canBe 83 = .ok (.iconst 1, 1) := by decide +kernel
theorem dX8_canBe_84 : decode cX8_canBe 84 = .ok (.goto 4, 3) := by decide +kernel
theorem dX8_canBe_87 : decode cX8_canBe 87 = .ok (.iconst 0, 1) := by decide +kernel
theorem dX8_canBe_88 : decode cX8_canBe 88 = .ok (.ireturn, 1) := by decide +kernel
set_option maxRecDepth 20000 in
theorem ggX8_cells_J6_bitCount_0f7a4 : GoodIn wsX8_cells wsJ6_bitCount_0f7a4 := goodIn_r _ [7, 8, 9, 10] (by decide +kernel) (by decide +kernel)
set_option maxRecDepth 20000 in
theorem gX8_cells_J6_bitCount_0f7a4 : GoodIn wsX8_cells (va_wsS RX8 31 yJ6_bitCount_0f7a4 wsJ6_bitCount_0f7a4) := goodIn_app (goodIn_of _ (by decide +kernel)) ggX8_cells_J6_bitCount_0f7a4
theorem dX8_cells_0 : decode cX8_cells 0 = .ok (.aload_n 0, 1) := by decide +kernel
theorem dX8_cells_1 : decode cX8_cells 1 = .ok (.getfield 9, 3) := by decide +kernel
theorem dX8_cells_4 : decode cX8_cells 4 = .ok (.invokestatic 31, 3) := by decide +kernel
theorem dX8_cells_7 : decode cX8_cells 7 = .ok (.aload_n 0, 1) := by decide +kernel
theorem dX8_cells_8 : decode cX8_cells 8 = .ok (.getfield 15, 3) := by decide +kernel
theorem dX8_cells_11 : decode cX8_cells 11 = .ok (.invokestatic 31, 3) := by decide +kernel
theorem dX8_cells_14 : decode cX8_cells 14 = .ok (.imul, 1) := by decide +kernel
theorem dX8_cells_15 : decode cX8_cells 15 = .ok (.aload_n 0, 1) := by decide +kernel
theorem dX8_cells_16 : decode cX8_cells 16 = .ok (.getfield 18, 3) := by decide +kernel
theorem dX8_cells_19 : decode cX8_cells 19 = .ok (.invokestatic 31, 3) := by decide +kernel
theorem dX8_cells_22 : decode cX8_cells 22 = .ok (.imul, 1) := by decide +kernel
theorem dX8_cells_23 : decode cX8_cells 23 = .ok (.ireturn, 1) := by decide +kernel
set_option maxRecDepth 20000 in
theorem ggX8_cellsWith_J6_bitCount_0f7a4 : GoodIn wsX8_cellsWith wsJ6_bitCount_0f7a4 := goodIn_r _ [7, 8, 9, 10] (by decide +kernel) (by decide +kernel)
set_option maxRecDepth 20000 in
theorem gX8_cellsWith_J6_bitCount_0f7a4 : GoodIn wsX8_cellsWith (va_wsS RX8 31 yJ6_bitCount_0f7a4 wsJ6_bitCount_0f7a4) := goodIn_app (goodIn_of _ (by decide +kernel)) ggX8_cellsWith_J6_bitCount_0f7a4
theorem dX8_cellsWith_0 : decode cX8_cellsWith 0 = .ok (.aload_n 0, 1) := by decide +kernel
theorem dX8_cellsWith_1 : decode cX8_cellsWith 1 = .ok (.getfield 9, 3) := by decide +kernel
theorem dX8_cellsWith_4 : decode cX8_cellsWith 4 = .ok (.aload_n 1, 1) := by decide +kernel
theorem dX8_cellsWith_5 : decode cX8_cellsWith 5 = .ok (.getfield 9, 3) := by decide +kernel
theorem dX8_cellsWith_8 : decode cX8_cellsWith 8 = .ok (.iand, 1) := by decide +kernel
theorem dX8_cellsWith_9 : decode cX8_cellsWith 9 = .ok (.invokestatic 31, 3) := by decide +kernel
theorem dX8_cellsWith_12 : decode cX8_cellsWith 12 = .ok (.aload_n 0, 1) := by decide +kernel
theorem dX8_cellsWith_13 : decode cX8_cellsWith 13 = .ok (.getfield 15, 3) := by decide +kernel
theorem dX8_cellsWith_16 : decode cX8_cellsWith 16 = .ok (.aload_n 1, 1) := by decide +kernel
theorem dX8_cellsWith_17 : decode cX8_cellsWith 17 = .ok (.getfield 15, 3) := by decide +kernel
theorem dX8_cellsWith_20 : decode cX8_cellsWith 20 = .ok (.iand, 1) := by decide +kernel
theorem dX8_cellsWith_21 : decode cX8_cellsWith 21 = .ok (.invokestatic 31, 3) := by decide +kernel
theorem dX8_cellsWith_24 : decode cX8_cellsWith 24 = .ok (.imul, 1) := by decide +kernel
theorem dX8_cellsWith_25 : decode cX8_cellsWith 25 = .ok (.aload_n 0, 1) := by decide +kernel
theorem dX8_cellsWith_26 : decode cX8_cellsWith 26 = .ok (.getfield 18, 3) := by decide +kernel
theorem dX8_cellsWith_29 : decode cX8_cellsWith 29 = .ok (.aload_n 1, 1) := by decide +kernel
theorem dX8_cellsWith_30 : decode cX8_cellsWith 30 = .ok (.getfield 18, 3) := by decide +kernel
theorem dX8_cellsWith_33 : decode cX8_cellsWith 33 = .ok (.iand, 1) := by decide +kernel
theorem dX8_cellsWith_34 : decode cX8_cellsWith 34 = .ok (.invokestatic 31, 3) := by decide +kernel
theorem dX8_cellsWith_37 : decode cX8_cellsWith 37 = .ok (.imul, 1) := by decide +kernel
theorem dX8_cellsWith_38 : decode cX8_cellsWith 38 = .ok (.ireturn, 1) := by decide +kernel
set_option maxRecDepth 20000 in
theorem ggX9_init_X9_clearFor : GoodIn wsX9_init wsX9_clearFor := goodIn_r _ [12, 4, 6, 7, 13, 14, 15, 16, 17, 18, 19] (by decide +kernel) (by decide +kernel)
set_option maxRecDepth 20000 in
theorem gX9_init_X9_clearFor : GoodIn wsX9_init (wsV RX9 22 RX9 yX9_clearFor wsX9_clearFor) := goodIn_app (goodIn_of _ (by decide +kernel)) ggX9_init_X9_clearFor
theorem dX9_init_0 : decode cX9_init 0 = .ok (.aload_n 0, 1) := by decide +kernel
theorem dX9_init_1 : decode cX9_init 1 = .ok (.invokespecial 3, 3) := by decide +kernel
theorem dX9_init_4 : decode cX9_init 4 = .ok (.aload_n 0, 1) := by decide +kernel
theorem dX9_init_5 : decode cX9_init 5 = .ok (.iconst 4, 1) := by decide +kernel
theorem dX9_init_6 : decode cX9_init 6 = .ok (.putfield 9, 3) := by decide +kernel
theorem dX9_init_9 : decode cX9_init 9 = .ok (.aload_n 0, 1) := by decide +kernel
theorem dX9_init_10 : decode cX9_init 10 = .ok (.bipush 64, 2) := by decide +kernel
theorem dX9_init_12 : decode cX9_init 12 = .ok (.newarray .int, 2) := by decide +kernel
theorem dX9_init_14 : decode cX9_init 14 = .ok (.putfield 15, 3) := by decide +kernel
theorem dX9_init_17 : decode cX9_init 17 = .ok (.aload_n 0, 1) := by decide +kernel
theorem dX9_init_18 : decode cX9_init 18 = .ok (.bipush 80, 2) := by decide +kernel
theorem dX9_init_20 : decode cX9_init 20 = .ok (.newarray .int, 2) := by decide +kernel
theorem dX9_init_22 : decode cX9_init 22 = .ok (.putfield 19, 3) := by decide +kernel
theorem dX9_init_25 : decode cX9_init 25 = .ok (.aload_n 0, 1) := by decide +kernel
theorem dX9_init_26 : decode cX9_init 26 = .ok (.iconst 4, 1) := by decide +kernel
theorem dX9_init_27 : decode cX9_init 27 = .ok (.invokevirtual 22, 3) := by decide +kernel
theorem dX9_init_30 : decode cX9_init 30 = .ok (.return_, 1) := by decide +kernel
set_option maxRecDepth 20000 in
theorem ggX9_clearFor_J7_fill_53178 : GoodIn wsX9_clearFor wsJ7_fill_53178 := goodIn_r _ [7] (by decide +kernel) (by decide +kernel)
set_option maxRecDepth 20000 in
theorem gX9_clearFor_J7_fill_53178 : GoodIn wsX9_clearFor (va_wsS RX9 26 yJ7_fill_53178 wsJ7_fill_53178) := goodIn_app (goodIn_of _ (by decide +kernel)) ggX9_clearFor_J7_fill_53178
theorem dX9_clearFor_0 : decode cX9_clearFor 0 = .ok (.aload_n 0, 1) := by decide +kernel
theorem dX9_clearFor_1 : decode cX9_clearFor 1 = .ok (.iload_n 1, 1) := by decide +kernel
theorem dX9_clearFor_2 : decode cX9_clearFor 2 = .ok (.putfield 9, 3) := by decide +kernel
theorem dX9_clearFor_5 : decode cX9_clearFor 5 = .ok (.aload_n 0, 1) := by decide +kernel
theorem dX9_clearFor_6 : decode cX9_clearFor 6 = .ok (.getfield 15, 3) := by decide +kernel
theorem dX9_clearFor_9 : decode cX9_clearFor 9 = .ok (.iconst (-1), 1) := by decide +kernel
theorem dX9_clearFor_10 : decode cX9_clearFor 10 = .ok (.invokestatic 26, 3) := by decide +kernel
theorem dX9_clearFor_13 : decode cX9_clearFor 13 = .ok (.aload_n 0, 1) := by decide +kernel
theorem dX9_clearFor_14 : decode cX9_clearFor 14 = .ok (.getfield 19, 3) := by decide +kernel
theorem dX9_clearFor_17 : decode cX9_clearFor 17 = .ok (.iconst (-1), 1) := by decide +kernel
theorem dX9_clearFor_18 : decode cX9_clearFor 18 = .ok (.invokestatic 26, 3) := by decide +kernel
theorem dX9_clearFor_21 : decode cX9_clearFor 21 = .ok (.return_, 1) := by decide +kernel
theorem dX9_editorAt_0 : decode cX9_editorAt 0 = .ok (.aload_n 0, 1) := by decide +kernel
theorem dX9_editorAt_1 : decode cX9_editorAt 1 = .ok (.getfield 15, 3) := by decide +kernel
theorem dX9_editorAt_4 : decode cX9_editorAt 4 = .ok (.iload_n 1, 1) := by decide +kernel
theorem dX9_editorAt_5 : decode cX9_editorAt 5 = .ok (.bipush 8, 2) := by decide +kernel
theorem dX9_editorAt_7 : decode cX9_editorAt 7 = .ok (.imul, 1) := by decide +kernel
theorem dX9_editorAt_8 : decode cX9_editorAt 8 = .ok (.iload_n 2, 1) := by decide +kernel
theorem dX9_editorAt_9 : decode cX9_editorAt 9 = .ok (.iadd, 1) := by decide +kernel
theorem dX9_editorAt_10 : decode cX9_editorAt 10 = .ok (.iaload, 1) := by decide +kernel
theorem dX9_editorAt_11 : decode cX9_editorAt 11 = .ok (.ireturn, 1) := by decide +kernel
theorem dX9_agentAt_0 : decode cX9_agentAt 0 = .ok (.aload_n 0, 1) := by decide +kernel
theorem dX9_agentAt_1 : decode cX9_agentAt 1 = .ok (.getfield 19, 3) := by decide +kernel
theorem dX9_agentAt_4 : decode cX9_agentAt 4 = .ok (.iload_n 1, 1) := by decide +kernel
theorem dX9_agentAt_5 : decode cX9_agentAt 5 = .ok (.bipush 8, 2) := by decide +kernel
theorem dX9_agentAt_7 : decode cX9_agentAt 7 = .ok (.imul, 1) := by decide +kernel
theorem dX9_agentAt_8 : decode cX9_agentAt 8 = .ok (.iload_n 2, 1) := by decide +kernel
theorem dX9_agentAt_9 : decode cX9_agentAt 9 = .ok (.iadd, 1) := by decide +kernel
theorem dX9_agentAt_10 : decode cX9_agentAt 10 = .ok (.iaload, 1) := by decide +kernel
theorem dX9_agentAt_11 : decode cX9_agentAt 11 = .ok (.ireturn, 1) := by decide +kernel
set_option maxRecDepth 20000 in
theorem ggX9_hourOf_X9_editorAt : GoodIn wsX9_hourOf wsX9_editorAt := goodIn_r _ [6, 7, 8, 9, 10] (by decide +kernel) (by decide +kernel)
set_option maxRecDepth 20000 in
theorem gX9_hourOf_X9_editorAt : GoodIn wsX9_hourOf (wsV RX9 32 RX9 yX9_editorAt wsX9_editorAt) := goodIn_app (goodIn_of _ (by decide +kernel)) ggX9_hourOf_X9_editorAt
theorem dX9_hourOf_0 : decode cX9_hourOf 0 = .ok (.iconst 0, 1) := by decide +kernel
theorem dX9_hourOf_1 : decode cX9_hourOf 1 = .ok (.istore_n 3, 1) := by decide +kernel
theorem dX9_hourOf_2 : decode cX9_hourOf 2 = .ok (.iload_n 3, 1) := by decide +kernel
theorem dX9_hourOf_3 : decode cX9_hourOf 3 = .ok (.aload_n 0, 1) := by decide +kernel
theorem dX9_hourOf_4 : decode cX9_hourOf 4 = .ok (.getfield 9, 3) := by decide +kernel
theorem dX9_hourOf_7 : decode cX9_hourOf 7 = .ok (.if_icmp .ge 21, 3) := by decide +kernel
theorem dX9_hourOf_10 : decode cX9_hourOf 10 = .ok (.aload_n 0, 1) := by decide +kernel
theorem dX9_hourOf_11 : decode cX9_hourOf 11 = .ok (.iload_n 1, 1) := by decide +kernel
theorem dX9_hourOf_12 : decode cX9_hourOf 12 = .ok (.iload_n 3, 1) := by decide +kernel
theorem dX9_hourOf_13 : decode cX9_hourOf 13 = .ok (.invokevirtual 32, 3) := by decide +kernel
theorem dX9_hourOf_16 : decode cX9_hourOf 16 = .ok (.iload_n 2, 1) := by decide +kernel
theorem dX9_hourOf_17 : decode cX9_hourOf 17 = .ok (.if_icmp .ne 5, 3) := by decide +kernel
theorem dX9_hourOf_20 : decode cX9_hourOf 20 = .ok (.iload_n 3, 1) := by decide +kernel
theorem dX9_hourOf_21 : decode cX9_hourOf 21 = .ok (.ireturn, 1) := by decide +kernel
theorem dX9_hourOf_22 : decode cX9_hourOf 22 = .ok (.iinc 3 1, 3) := by decide +kernel
theorem dX9_hourOf_25 : decode cX9_hourOf 25 = .ok (.goto (-23), 3) := by decide +kernel
theorem dX9_hourOf_28 : decode cX9_hourOf 28 = .ok (.iconst (-1), 1) := by decide +kernel
theorem dX9_hourOf_29 : decode cX9_hourOf 29 = .ok (.ireturn, 1) := by decide +kernel
set_option maxRecDepth 20000 in
theorem ggX9_lay_X9_hourFreeForBoth : GoodIn wsX9_lay wsX9_hourFreeForBoth := goodIn_r _ [5, 6, 7, 8, 9, 4, 10, 11, 12, 13, 14, 15, 16, 33, 34, 35] (by decide +kernel) (by decide +kernel)
set_option maxRecDepth 20000 in
theorem gX9_lay_X9_hourFreeForBoth : GoodIn wsX9_lay (wsV RX9 36 RX9 yX9_hourFreeForBoth wsX9_hourFreeForBoth) := goodIn_app (goodIn_of _ (by decide +kernel)) ggX9_lay_X9_hourFreeForBoth
set_option maxRecDepth 20000 in
theorem ggX9_lay_X9_hourOf : GoodIn wsX9_lay wsX9_hourOf := goodIn_r _ [20, 6, 7, 8, 9, 4, 10, 11, 33, 34, 35] (by decide +kernel) (by decide +kernel)
set_option maxRecDepth 20000 in
theorem gX9_lay_X9_hourOf : GoodIn wsX9_lay (wsV RX9 39 RX9 yX9_hourOf wsX9_hourOf) := goodIn_app (goodIn_of _ (by decide +kernel)) ggX9_lay_X9_hourOf
set_option maxRecDepth 20000 in
theorem ggX9_lay_X9_hourFreeFor : GoodIn wsX9_lay wsX9_hourFreeFor := goodIn_r _ [24, 6, 12, 13, 14, 4, 15, 16, 33, 34, 35] (by decide +kernel) (by decide +kernel)
set_option maxRecDepth 20000 in
theorem gX9_lay_X9_hourFreeFor : GoodIn wsX9_lay (wsV RX9 42 RX9 yX9_hourFreeFor wsX9_hourFreeFor) := goodIn_app (goodIn_of _ (by decide +kernel)) ggX9_lay_X9_hourFreeFor
set_option maxRecDepth 20000 in
theorem ggX9_lay_X9_makeFree : GoodIn wsX9_lay wsX9_makeFree := goodIn_r _ [28, 16, 11, 12, 13, 14, 4, 15, 7, 8, 9, 10, 29, 30, 31, 32, 33, 34, 35] (by decide +kernel) (by decide +kernel)
set_option maxRecDepth 20000 in
theorem gX9_lay_X9_makeFree : GoodIn wsX9_lay (wsV RX9 46 RX9 yX9_makeFree wsX9_makeFree) := goodIn_app (goodIn_of _ (by decide +kernel)) ggX9_lay_X9_makeFree
set_option maxRecDepth 20000 in
theorem ggX9_lay_X9_seat : GoodIn wsX9_lay wsX9_seat := goodIn_r _ [32, 11, 16, 33, 34, 35] (by decide +kernel) (by decide +kernel)
set_option maxRecDepth 20000 in
theorem gX9_lay_X9_seat : GoodIn wsX9_lay (wsV RX9 50 RX9 yX9_seat wsX9_seat) := goodIn_app (goodIn_of _ (by decide +kernel)) ggX9_lay_X9_seat
theorem dX9_lay_0 : decode cX9_lay 0 = .ok (.aload_n 0, 1) := by decide +kernel
theorem dX9_lay_1 : decode cX9_lay 1 = .ok (.iload_n 1, 1) := by decide +kernel
theorem dX9_lay_2 : decode cX9_lay 2 = .ok (.iload_n 2, 1) := by decide +kernel
theorem dX9_lay_3 : decode cX9_lay 3 = .ok (.invokevirtual 36, 3) := by decide +kernel
theorem dX9_lay_6 : decode cX9_lay 6 = .ok (.istore_n 3, 1) := by decide +kernel
theorem dX9_lay_7 : decode cX9_lay 7 = .ok (.iload_n 3, 1) := by decide +kernel
theorem dX9_lay_8 : decode cX9_lay 8 = .ok (.iconst (-1), 1) := by decide +kernel
theorem dX9_lay_9 : decode cX9_lay 9 = .ok (.if_icmp .ne 21, 3) := by decide +kernel
theorem dX9_lay_12 : decode cX9_lay 12 = .ok (.aload_n 0, 1) := by decide +kernel
theorem dX9_lay_13 : decode cX9_lay 13 = .ok (.iload_n 1, 1) := by decide +kernel
theorem dX9_lay_14 : decode cX9_lay 14 = .ok (.iconst (-1), 1) := by decide +kernel
theorem dX9_lay_15 : decode cX9_lay 15 = .ok (.invokevirtual 39, 3) := by decide +kernel
theorem dX9_lay_18 : decode cX9_lay 18 = .ok (.istore_n 3, 1) := by decide +kernel
theorem dX9_lay_19 : decode cX9_lay 19 = .ok (.aload_n 0, 1) := by decide +kernel
theorem dX9_lay_20 : decode cX9_lay 20 = .ok (.iload_n 2, 1) := by decide +kernel
theorem dX9_lay_21 : decode cX9_lay 21 = .ok (.iload_n 3, 1) := by decide +kernel
theorem dX9_lay_22 : decode cX9_lay 22 = .ok (.aload_n 0, 1) := by decide +kernel
theorem dX9_lay_23 : decode cX9_lay 23 = .ok (.iload_n 2, 1) := by decide +kernel
theorem dX9_lay_24 : decode cX9_lay 24 = .ok (.invokevirtual 42, 3) := by decide +kernel
theorem dX9_lay_27 : decode cX9_lay 27 = .ok (.invokevirtual 46, 3) := by decide +kernel
theorem dX9_lay_30 : decode cX9_lay 30 = .ok (.iload_n 3, 1) := by decide +kernel
theorem dX9_lay_31 : decode cX9_lay 31 = .ok (.iconst (-1), 1) := by decide +kernel
theorem dX9_lay_32 : decode cX9_lay 32 = .ok (.if_icmp .eq 10, 3) := by decide +kernel
theorem dX9_lay_35 : decode cX9_lay 35 = .ok (.aload_n 0, 1) := by decide +kernel
theorem dX9_lay_36 : decode cX9_lay 36 = .ok (.iload_n 1, 1) := by decide +kernel
theorem dX9_lay_37 : decode cX9_lay 37 = .ok (.iload_n 2, 1) := by decide +kernel
theorem dX9_lay_38 : decode cX9_lay 38 = .ok (.iload_n 3, 1) := by decide +kernel
theorem dX9_lay_39 : decode cX9_lay 39 = .ok (.invokevirtual 50, 3) := by decide +kernel
theorem dX9_lay_42 : decode cX9_lay 42 = .ok (.return_, 1) := by decide +kernel
set_option maxRecDepth 20000 in
theorem ggX9_hourFreeForBoth_X9_editorAt : GoodIn wsX9_hourFreeForBoth wsX9_editorAt := goodIn_r _ [6, 7, 13, 14, 15] (by decide +kernel) (by decide +kernel)
set_option maxRecDepth 20000 in
theorem gX9_hourFreeForBoth_X9_editorAt : GoodIn wsX9_hourFreeForBoth (wsV RX9 32 RX9 yX9_editorAt wsX9_editorAt) := goodIn_app (goodIn_of _ (by decide +kernel)) ggX9_hourFreeForBoth_X9_editorAt
set_option maxRecDepth 20000 in
theorem ggX9_hourFreeForBoth_X9_agentAt : GoodIn wsX9_hourFreeForBoth wsX9_agentAt := goodIn_r _ [11, 12, 13, 14, 15] (by decide +kernel) (by decide +kernel)
set_option maxRecDepth 20000 in
theorem gX9_hourFreeForBoth_X9_agentAt : GoodIn wsX9_hourFreeForBoth (wsV RX9 53 RX9 yX9_agentAt wsX9_agentAt) := goodIn_app (goodIn_of _ (by decide +kernel)) ggX9_hourFreeForBoth_X9_agentAt
theorem dX9_hourFreeForBoth_0 : decode cX9_hourFreeForBoth 0 = .ok (.iconst 0, 1) := by decide +kernel
theorem dX9_hourFreeForBoth_1 : decode cX9_hourFreeForBoth 1 = .ok (.istore_n 3, 1) := by decide +kernel
theorem dX9_hourFreeForBoth_2 : decode cX9_hourFreeForBoth 2 = .ok (.iload_n 3, 1) := by decide +kernel
theorem dX9_hourFreeForBoth_3 : decode cX9_hourFreeForBoth 3 = .ok (.aload_n 0, 1) := by decide +kernel
theorem dX9_hourFreeForBoth_4 : decode cX9_hourFreeForBoth 4 = .ok (.getfield 9, 3) := by decide +kernel
theorem dX9_hourFreeForBoth_7 : decode cX9_hourFreeForBoth 7 = .ok (.if_icmp .ge 31, 3) := by decide +kernel
theorem dX9_hourFreeForBoth_10 : decode cX9_hourFreeForBoth 10 = .ok (.aload_n 0, 1) := by decide +kernel
theorem dX9_hourFreeForBoth_11 : decode cX9_hourFreeForBoth 11 = .ok (.iload_n 1, 1) := by decide +kernel
theorem dX9_hourFreeForBoth_12 : decode cX9_hourFreeForBoth 12 = .ok (.iload_n 3, 1) := by decide +kernel
theorem dX9_hourFreeForBoth_13 : decode cX9_hourFreeForBoth 13 = .ok (.invokevirtual 32, 3) := by decide +kernel
theorem dX9_hourFreeForBoth_16 : decode cX9_hourFreeForBoth 16 = .ok (.iconst (-1), 1) := by decide +kernel
theorem dX9_hourFreeForBoth_17 : decode cX9_hourFreeForBoth 17 = .ok (.if_icmp .ne 15, 3) := by decide +kernel
theorem dX9_hourFreeForBoth_20 : decode cX9_hourFreeForBoth 20 = .ok (.aload_n 0, 1) := by decide +kernel
theorem dX9_hourFreeForBoth_21 : decode cX9_hourFreeForBoth 21 = .ok (.iload_n 2, 1) := by decide +kernel
theorem dX9_hourFreeForBoth_22 : decode cX9_hourFreeForBoth 22 = .ok (.iload_n 3, 1) := by decide +kernel
theorem dX9_hourFreeForBoth_23 : decode cX9_hourFreeForBoth 23 = .ok (.invokevirtual 53, 3) := by decide +kernel
theorem dX9_hourFreeForBoth_26 : decode cX9_hourFreeForBoth 26 = .ok (.iconst (-1), 1) := by decide +kernel
theorem dX9_hourFreeForBoth_27 : decode cX9_hourFreeForBoth 27 = .ok (.if_icmp .ne 5, 3) := by decide +kernel
theorem dX9_hourFreeForBoth_30 : decode cX9_hourFreeForBoth 30 = .ok (.iload_n 3, 1) := by decide +kernel
theorem dX9_hourFreeForBoth_31 : decode cX9_hourFreeForBoth 31 = .ok (.ireturn, 1) := by decide +kernel
theorem dX9_hourFreeForBoth_32 : decode cX9_hourFreeForBoth 32 = .ok (.iinc 3 1, 3) := by decide +kernel
theorem dX9_hourFreeForBoth_35 : decode cX9_hourFreeForBoth 35 = .ok (.goto (-33), 3) := by decide +kernel
theorem dX9_hourFreeForBoth_38 : decode cX9_hourFreeForBoth 38 = .ok (.iconst (-1), 1) := by decide +kernel
theorem dX9_hourFreeForBoth_39 : decode cX9_hourFreeForBoth 39 = .ok (.ireturn, 1) := by decide +kernel
set_option maxRecDepth 20000 in
theorem ggX9_hourFreeFor_X9_agentAt : GoodIn wsX9_hourFreeFor wsX9_agentAt := goodIn_r _ [6, 7, 8, 9, 10] (by decide +kernel) (by decide +kernel)
set_option maxRecDepth 20000 in
theorem gX9_hourFreeFor_X9_agentAt : GoodIn wsX9_hourFreeFor (wsV RX9 53 RX9 yX9_agentAt wsX9_agentAt) := goodIn_app (goodIn_of _ (by decide +kernel)) ggX9_hourFreeFor_X9_agentAt
theorem dX9_hourFreeFor_0 : decode cX9_hourFreeFor 0 = .ok (.iconst 0, 1) := by decide +kernel
theorem dX9_hourFreeFor_1 : decode cX9_hourFreeFor 1 = .ok (.istore_n 2, 1) := by decide +kernel
theorem dX9_hourFreeFor_2 : decode cX9_hourFreeFor 2 = .ok (.iload_n 2, 1) := by decide +kernel
theorem dX9_hourFreeFor_3 : decode cX9_hourFreeFor 3 = .ok (.aload_n 0, 1) := by decide +kernel
theorem dX9_hourFreeFor_4 : decode cX9_hourFreeFor 4 = .ok (.getfield 9, 3) := by decide +kernel
theorem dX9_hourFreeFor_7 : decode cX9_hourFreeFor 7 = .ok (.if_icmp .ge 21, 3) := by decide +kernel
theorem dX9_hourFreeFor_10 : decode cX9_hourFreeFor 10 = .ok (.aload_n 0, 1) := by decide +kernel
theorem dX9_hourFreeFor_11 : decode cX9_hourFreeFor 11 = .ok (.iload_n 1, 1) := by decide +kernel
theorem dX9_hourFreeFor_12 : decode cX9_hourFreeFor 12 = .ok (.iload_n 2, 1) := by decide +kernel
theorem dX9_hourFreeFor_13 : decode cX9_hourFreeFor 13 = .ok (.invokevirtual 53, 3) := by decide +kernel
theorem dX9_hourFreeFor_16 : decode cX9_hourFreeFor 16 = .ok (.iconst (-1), 1) := by decide +kernel
theorem dX9_hourFreeFor_17 : decode cX9_hourFreeFor 17 = .ok (.if_icmp .ne 5, 3) := by decide +kernel
theorem dX9_hourFreeFor_20 : decode cX9_hourFreeFor 20 = .ok (.iload_n 2, 1) := by decide +kernel
theorem dX9_hourFreeFor_21 : decode cX9_hourFreeFor 21 = .ok (.ireturn, 1) := by decide +kernel
theorem dX9_hourFreeFor_22 : decode cX9_hourFreeFor 22 = .ok (.iinc 2 1, 3) := by decide +kernel
theorem dX9_hourFreeFor_25 : decode cX9_hourFreeFor 25 = .ok (.goto (-23), 3) := by decide +kernel
theorem dX9_hourFreeFor_28 : decode cX9_hourFreeFor 28 = .ok (.iconst (-1), 1) := by decide +kernel
theorem dX9_hourFreeFor_29 : decode cX9_hourFreeFor 29 = .ok (.ireturn, 1) := by decide +kernel
theorem dX9_seat_0 : decode cX9_seat 0 = .ok (.aload_n 0, 1) := by decide +kernel
theorem dX9_seat_1 : decode cX9_seat 1 = .ok (.getfield 15, 3) := by decide +kernel
theorem dX9_seat_4 : decode cX9_seat 4 = .ok (.iload_n 1, 1) := by decide +kernel
theorem dX9_seat_5 : decode cX9_seat 5 = .ok (.bipush 8, 2) := by decide +kernel
theorem dX9_seat_7 : decode cX9_seat 7 = .ok (.imul, 1) := by decide +kernel
theorem dX9_seat_8 : decode cX9_seat 8 = .ok (.iload_n 3, 1) := by decide +kernel
theorem dX9_seat_9 : decode cX9_seat 9 = .ok (.iadd, 1) := by decide +kernel
theorem dX9_seat_10 : decode cX9_seat 10 = .ok (.iload_n 2, 1) := by decide +kernel
theorem dX9_seat_11 : decode cX9_seat 11 = .ok (.iastore, 1) := by decide +kernel
theorem dX9_seat_12 : decode cX9_seat 12 = .ok (.aload_n 0, 1) := by decide +kernel
theorem dX9_seat_13 : decode cX9_seat 13 = .ok (.getfield 19, 3) := by decide +kernel
theorem dX9_seat_16 : decode cX9_seat 16 = .ok (.iload_n 2, 1) := by decide +kernel
theorem dX9_seat_17 : decode cX9_seat 17 = .ok (.bipush 8, 2) := by decide +kernel
theorem dX9_seat_19 : decode cX9_seat 19 = .ok (.imul, 1) := by decide +kernel
theorem dX9_seat_20 : decode cX9_seat 20 = .ok (.iload_n 3, 1) := by decide +kernel
theorem dX9_seat_21 : decode cX9_seat 21 = .ok (.iadd, 1) := by decide +kernel
theorem dX9_seat_22 : decode cX9_seat 22 = .ok (.iload_n 1, 1) := by decide +kernel
theorem dX9_seat_23 : decode cX9_seat 23 = .ok (.iastore, 1) := by decide +kernel
theorem dX9_seat_24 : decode cX9_seat 24 = .ok (.return_, 1) := by decide +kernel
set_option maxRecDepth 20000 in
theorem ggX9_makeFree_X9_agentAt : GoodIn wsX9_makeFree wsX9_agentAt := goodIn_r _ [7, 1, 16, 17, 18] (by decide +kernel) (by decide +kernel)
set_option maxRecDepth 20000 in
theorem gX9_makeFree_X9_agentAt : GoodIn wsX9_makeFree (wsV RX9 53 RX9 yX9_agentAt wsX9_agentAt) := goodIn_app (goodIn_of _ (by decide +kernel)) ggX9_makeFree_X9_agentAt
set_option maxRecDepth 20000 in
theorem ggX9_makeFree_X9_editorAt : GoodIn wsX9_makeFree wsX9_editorAt := goodIn_r _ [11, 2, 16, 17, 18] (by decide +kernel) (by decide +kernel)
set_option maxRecDepth 20000 in
theorem gX9_makeFree_X9_editorAt : GoodIn wsX9_makeFree (wsV RX9 32 RX9 yX9_editorAt wsX9_editorAt) := goodIn_app (goodIn_of _ (by decide +kernel)) ggX9_makeFree_X9_editorAt
set_option maxRecDepth 20000 in
theorem ggX9_makeFree_X9_seat : GoodIn wsX9_makeFree wsX9_seat := goodIn_r _ [15, 2, 1, 16, 17, 18] (by decide +kernel) (by decide +kernel)
set_option maxRecDepth 20000 in
theorem gX9_makeFree_X9_seat : GoodIn wsX9_makeFree (wsV RX9 50 RX9 yX9_seat wsX9_seat) := goodIn_app (goodIn_of _ (by decide +kernel)) ggX9_makeFree_X9_seat
theorem dX9_makeFree_0 : decode cX9_makeFree 0 = .ok (.iload_n 2, 1) := by decide +kernel
theorem dX9_makeFree_1 : decode cX9_makeFree 1 = .ok (.iconst (-1), 1) := by decide +kernel
theorem dX9_makeFree_2 : decode cX9_makeFree 2 = .ok (.if_icmp .eq 8, 3) := by decide +kernel
theorem dX9_makeFree_5 : decode cX9_makeFree 5 = .ok (.iload_n 3, 1) := by decide +kernel
theorem dX9_makeFree_6 : decode cX9_makeFree 6 = .ok (.iconst (-1), 1) := by decide +kernel
theorem dX9_makeFree_7 : decode cX9_makeFree 7 = .ok (.if_icmp .ne 4, 3) := by decide +kernel
theorem dX9_makeFree_10 : decode cX9_makeFree 10 = .ok (.return_, 1) := by decide +kernel
theorem dX9_makeFree_11 : decode cX9_makeFree 11 = .ok (.iload_n 1, 1) := by decide +kernel
theorem dX9_makeFree_12 : decode cX9_makeFree 12 = .ok (.istore 4, 2) := by decide +kernel
theorem dX9_makeFree_14 : decode cX9_makeFree 14 = .ok (.aload_n 0, 1) := by decide +kernel
theorem dX9_makeFree_15 : decode cX9_makeFree 15 = .ok (.iload 4, 2) := by decide +kernel
theorem dX9_makeFree_17 : decode cX9_makeFree 17 = .ok (.iload_n 2, 1) := by decide +kernel
theorem dX9_makeFree_18 : decode cX9_makeFree 18 = .ok (.invokevirtual 53, 3) := by decide +kernel
theorem dX9_makeFree_21 : decode cX9_makeFree 21 = .ok (.istore 5, 2) := by decide +kernel
theorem dX9_makeFree_23 : decode cX9_makeFree 23 = .ok (.aload_n 0, 1) := by decide +kernel
theorem dX9_makeFree_24 : decode cX9_makeFree 24 = .ok (.getfield 19, 3) := by decide +kernel
theorem dX9_makeFree_27 : decode cX9_makeFree 27 = .ok (.iload 4, 2) := by decide +kernel
theorem dX9_makeFree_29 : decode cX9_makeFree 29 = .ok (.bipush 8, 2) := by decide +kernel
theorem dX9_makeFree_31 : decode cX9_makeFree 31 = .ok (.imul, 1) := by decide +kernel
theorem dX9_makeFree_32 : decode cX9_makeFree 32 = .ok (.iload_n 2, 1) := by decide +kernel
theorem dX9_makeFree_33 : decode cX9_makeFree 33 = .ok (.iadd, 1) := by decide +kernel
theorem dX9_makeFree_34 : decode cX9_makeFree 34 = .ok (.iconst (-1), 1) := by decide +kernel
theorem dX9_makeFree_35 : decode cX9_makeFree 35 = .ok (.iastore, 1) := by decide +kernel
theorem dX9_makeFree_36 : decode cX9_makeFree 36 = .ok (.iconst 0, 1) := by decide +kernel
theorem dX9_makeFree_37 : decode cX9_makeFree 37 = .ok (.istore 6, 2) := by decide +kernel
theorem dX9_makeFree_39 : decode cX9_makeFree 39 = .ok (.iload 6, 2) := by decide +kernel
theorem dX9_makeFree_41 : decode cX9_makeFree 41 = .ok (.bipush 8, 2) := by decide +kernel
theorem dX9_makeFree_43 : decode cX9_makeFree 43 = .ok (.if_icmp .ge 92, 3) := by decide +kernel
theorem dX9_makeFree_46 : decode cX9_makeFree 46 = .ok (.iload 5, 2) := by decide +kernel
theorem dX9_makeFree_48 : decode cX9_makeFree 48 = .ok (.iconst (-1), 1) := by decide +kernel
theorem dX9_makeFree_49 : decode cX9_makeFree 49 = .ok (.if_icmp .eq 86, 3) := by decide +kernel
theorem dX9_makeFree_52 : decode cX9_makeFree 52 = .ok (.aload_n 0, 1) := by decide +kernel
theorem dX9_makeFree_53 : decode cX9_makeFree 53 = .ok (.iload 5, 2) := by decide +kernel
theorem dX9_makeFree_55 : decode cX9_makeFree 55 = .ok (.iload_n 3, 1) := by decide +kernel
theorem dX9_makeFree_56 : decode cX9_makeFree 56 = .ok (.invokevirtual 32, 3) := by decide +kernel
theorem dX9_makeFree_59 : decode cX9_makeFree 59 = .ok (.istore 7, 2) := by decide +kernel
theorem dX9_makeFree_61 : decode cX9_makeFree 61 = .ok (.aload_n 0, 1) := by decide +kernel
theorem dX9_makeFree_62 : decode cX9_makeFree 62 = .ok (.iload 5, 2) := by decide +kernel
theorem dX9_makeFree_64 : decode cX9_makeFree 64 = .ok (.iload 4, 2) := by decide +kernel
theorem dX9_makeFree_66 : decode cX9_makeFree 66 = .ok (.iload_n 3, 1) := by decide +kernel
theorem dX9_makeFree_67 : decode cX9_makeFree 67 = .ok (.invokevirtual 50, 3) := by decide +kernel
theorem dX9_makeFree_70 : decode cX9_makeFree 70 = .ok (.aload_n 0, 1) := by decide +kernel
theorem dX9_makeFree_71 : decode cX9_makeFree 71 = .ok (.getfield 15, 3) := by decide +kernel
theorem dX9_makeFree_74 : decode cX9_makeFree 74 = .ok (.iload 5, 2) := by decide +kernel
theorem dX9_makeFree_76 : decode cX9_makeFree 76 = .ok (.bipush 8, 2) := by decide +kernel
theorem dX9_makeFree_78 : decode cX9_makeFree 78 = .ok (.imul, 1) := by decide +kernel
theorem dX9_makeFree_79 : decode cX9_makeFree 79 = .ok (.iload_n 2, 1) := by decide +kernel
theorem dX9_makeFree_80 : decode cX9_makeFree 80 = .ok (.iadd, 1) := by decide +kernel
theorem dX9_makeFree_81 : decode cX9_makeFree 81 = .ok (.iconst (-1), 1) := by decide +kernel
theorem dX9_makeFree_82 : decode cX9_makeFree 82 = .ok (.iastore, 1) := by decide +kernel
theorem dX9_makeFree_83 : decode cX9_makeFree 83 = .ok (.iload 7, 2) := by decide +kernel
theorem dX9_makeFree_85 : decode cX9_makeFree 85 = .ok (.iconst (-1), 1) := by decide +kernel
theorem dX9_makeFree_86 : decode cX9_makeFree 86 = .ok (.if_icmp .ne 4, 3) := by decide +kernel
theorem dX9_makeFree_89 : decode cX9_makeFree 89 = .ok (.return_, 1) := by decide +kernel
theorem dX9_makeFree_90 : decode cX9_makeFree 90 = .ok (.aload_n 0, 1) := by decide +kernel
theorem dX9_makeFree_91 : decode cX9_makeFree 91 = .ok (.iload 7, 2) := by decide +kernel
theorem dX9_makeFree_93 : decode cX9_makeFree 93 = .ok (.iload_n 2, 1) := by decide +kernel
theorem dX9_makeFree_94 : decode cX9_makeFree 94 = .ok (.invokevirtual 53, 3) := by decide +kernel
theorem dX9_makeFree_97 : decode cX9_makeFree 97 = .ok (.istore 8, 2) := by decide +kernel
theorem dX9_makeFree_99 : decode cX9_makeFree 99 = .ok (.aload_n 0, 1) := by decide +kernel
theorem dX9_makeFree_100 : decode cX9_makeFree 100 = .ok (.iload 5, 2) := by decide +kernel
theorem dX9_makeFree_102 : decode cX9_makeFree 102 = .ok (.iload 7, 2) := by decide +kernel
theorem dX9_makeFree_104 : decode cX9_makeFree 104 = .ok (.iload_n 2, 1) := by decide +kernel
theorem dX9_makeFree_105 : decode cX9_makeFree 105 = .ok (.invokevirtual 50, 3) := by decide +kernel
theorem dX9_makeFree_108 : decode cX9_makeFree 108 = .ok (.aload_n 0, 1) := by decide +kernel
theorem dX9_makeFree_109 : decode cX9_makeFree 109 = .ok (.getfield 19, 3) := by decide +kernel
theorem dX9_makeFree_112 : decode cX9_makeFree 112 = .ok (.iload 7, 2) := by decide +kernel
theorem dX9_makeFree_114 : decode cX9_makeFree 114 = .ok (.bipush 8, 2) := by decide +kernel
theorem dX9_makeFree_116 : decode cX9_makeFree 116 = .ok (.imul, 1) := by decide +kernel
theorem dX9_makeFree_117 : decode cX9_makeFree 117 = .ok (.iload_n 3, 1) := by decide +kernel
theorem dX9_makeFree_118 : decode cX9_makeFree 118 = .ok (.iadd, 1) := by decide +kernel
theorem dX9_makeFree_119 : decode cX9_makeFree 119 = .ok (.iconst (-1), 1) := by decide +kernel
theorem dX9_makeFree_120 : decode cX9_makeFree 120 = .ok (.iastore, 1) := by decide +kernel
theorem dX9_makeFree_121 : decode cX9_makeFree 121 = .ok (.iload 7, 2) := by decide +kernel
theorem dX9_makeFree_123 : decode cX9_makeFree 123 = .ok (.istore 4, 2) := by decide +kernel
theorem dX9_makeFree_125 : decode cX9_makeFree 125 = .ok (.iload 8, 2) := by decide +kernel
theorem dX9_makeFree_127 : decode cX9_makeFree 127 = .ok (.istore 5, 2) := by decide +kernel
theorem dX9_makeFree_129 : decode cX9_makeFree 129 = .ok (.iinc 6 1, 3) := by decide +kernel
theorem dX9_makeFree_132 : decode cX9_makeFree 132 = .ok (.goto (-93), 3) := by decide +kernel
theorem dX9_makeFree_135 : decode cX9_makeFree 135 = .ok (.return_, 1) := by decide +kernel
theorem dX10_init_0 : decode cX10_init 0 = .ok (.aload_n 0, 1) := by decide +kernel
theorem dX10_init_1 : decode cX10_init 1 = .ok (.invokespecial 3, 3) := by decide +kernel
theorem dX10_init_4 : decode cX10_init 4 = .ok (.aload_n 0, 1) := by decide +kernel
theorem dX10_init_5 : decode cX10_init 5 = .ok (.iconst 1, 1) := by decide +kernel
theorem dX10_init_6 : decode cX10_init 6 = .ok (.putfield 9, 3) := by decide +kernel
theorem dX10_init_9 : decode cX10_init 9 = .ok (.aload_n 0, 1) := by decide +kernel
theorem dX10_init_10 : decode cX10_init 10 = .ok (.iconst 0, 1) := by decide +kernel
theorem dX10_init_11 : decode cX10_init 11 = .ok (.putfield 15, 3) := by decide +kernel
theorem dX10_init_14 : decode cX10_init 14 = .ok (.aload_n 0, 1) := by decide +kernel
theorem dX10_init_15 : decode cX10_init 15 = .ok (.iconst 0, 1) := by decide +kernel
theorem dX10_init_16 : decode cX10_init 16 = .ok (.putfield 19, 3) := by decide +kernel
theorem dX10_init_19 : decode cX10_init 19 = .ok (.aload_n 0, 1) := by decide +kernel
theorem dX10_init_20 : decode cX10_init 20 = .ok (.bipush 40, 2) := by decide +kernel
theorem dX10_init_22 : decode cX10_init 22 = .ok (.newarray .long, 2) := by decide +kernel
theorem dX10_init_24 : decode cX10_init 24 = .ok (.putfield 22, 3) := by decide +kernel
theorem dX10_init_27 : decode cX10_init 27 = .ok (.return_, 1) := by decide +kernel
set_option maxRecDepth 20000 in
theorem ggX10_layOut_J7_fill_d0a16 : GoodIn wsX10_layOut wsJ7_fill_d0a16 := goodIn_r _ [8] (by decide +kernel) (by decide +kernel)
set_option maxRecDepth 20000 in
theorem gX10_layOut_J7_fill_d0a16 : GoodIn wsX10_layOut (va_wsS RX10 26 yJ7_fill_d0a16 wsJ7_fill_d0a16) := goodIn_app (goodIn_of _ (by decide +kernel)) ggX10_layOut_J7_fill_d0a16
theorem dX10_layOut_0 : decode cX10_layOut 0 = .ok (.aload_n 0, 1) := by decide +kernel
theorem dX10_layOut_1 : decode cX10_layOut 1 = .ok (.iconst 0, 1) := by decide +kernel
theorem dX10_layOut_2 : decode cX10_layOut 2 = .ok (.putfield 9, 3) := by decide +kernel
theorem dX10_layOut_5 : decode cX10_layOut 5 = .ok (.aload_n 0, 1) := by decide +kernel
theorem dX10_layOut_6 : decode cX10_layOut 6 = .ok (.iload_n 1, 1) := by decide +kernel
theorem dX10_layOut_7 : decode cX10_layOut 7 = .ok (.putfield 15, 3) := by decide +kernel
theorem dX10_layOut_10 : decode cX10_layOut 10 = .ok (.aload_n 0, 1) := by decide +kernel
theorem dX10_layOut_11 : decode cX10_layOut 11 = .ok (.iload_n 2, 1) := by decide +kernel
theorem dX10_layOut_12 : decode cX10_layOut 12 = .ok (.putfield 19, 3) := by decide +kernel
theorem dX10_layOut_15 : decode cX10_layOut 15 = .ok (.aload_n 0, 1) := by decide +kernel
theorem dX10_layOut_16 : decode cX10_layOut 16 = .ok (.getfield 22, 3) := by decide +kernel
theorem dX10_layOut_19 : decode cX10_layOut 19 = .ok (.lconst 0, 1) := by decide +kernel
theorem dX10_layOut_20 : decode cX10_layOut 20 = .ok (.invokestatic 26, 3) := by decide +kernel
theorem dX10_layOut_23 : decode cX10_layOut 23 = .ok (.return_, 1) := by decide +kernel
theorem dX10_hasPlace_0 : decode cX10_hasPlace 0 = .ok (.iload_n 1, 1) := by decide +kernel
theorem dX10_hasPlace_1 : decode cX10_hasPlace 1 = .ok (.ifCond .lt 15, 3) := by decide +kernel
theorem dX10_hasPlace_4 : decode cX10_hasPlace 4 = .ok (.iload_n 1, 1) := by decide +kernel
theorem dX10_hasPlace_5 : decode cX10_hasPlace 5 = .ok (.aload_n 0, 1) := by decide +kernel
theorem dX10_hasPlace_6 : decode cX10_hasPlace 6 = .ok (.getfield 19, 3) := by decide +kernel
theorem dX10_hasPlace_9 : decode cX10_hasPlace 9 = .ok (.if_icmp .ge 7, 3) := by decide +kernel
theorem dX10_hasPlace_12 : decode cX10_hasPlace 12 = .ok (.iconst 1, 1) := by decide +kernel
theorem dX10_hasPlace_13 : decode cX10_hasPlace 13 = .ok (.goto 4, 3) := by decide +kernel
theorem dX10_hasPlace_16 : decode cX10_hasPlace 16 = .ok (.iconst 0, 1) := by decide +kernel
theorem dX10_hasPlace_17 : decode cX10_hasPlace 17 = .ok (.ireturn, 1) := by decide +kernel
theorem dX10_hasPlaces_0 : decode cX10_hasPlaces 0 = .ok (.iload_n 1, 1) := by decide +kernel
theorem dX10_hasPlaces_1 : decode cX10_hasPlaces 1 = .ok (.ifCond .lt 25, 3) := by decide +kernel
theorem dX10_hasPlaces_4 : decode cX10_hasPlaces 4 = .ok (.iload_n 1, 1) := by decide +kernel
theorem dX10_hasPlaces_5 : decode cX10_hasPlaces 5 = .ok (.aload_n 0, 1) := by decide +kernel
theorem dX10_hasPlaces_6 : decode cX10_hasPlaces 6 = .ok (.getfield 19, 3) := by decide +kernel
theorem dX10_hasPlaces_9 : decode cX10_hasPlaces 9 = .ok (.if_icmp .gt 17, 3) := by decide +kernel
theorem dX10_hasPlaces_12 : decode cX10_hasPlaces 12 = .ok (.iload_n 2, 1) := by decide +kernel
theorem dX10_hasPlaces_13 : decode cX10_hasPlaces 13 = .ok (.aload_n 0, 1) := by decide +kernel
theorem dX10_hasPlaces_14 : decode cX10_hasPlaces 14 = .ok (.getfield 19, 3) := by decide +kernel
theorem dX10_hasPlaces_17 : decode cX10_hasPlaces 17 = .ok (.iload_n 1, 1) := by decide +kernel
theorem dX10_hasPlaces_18 : decode cX10_hasPlaces 18 = .ok (.isub, 1) := by decide +kernel
theorem dX10_hasPlaces_19 : decode cX10_hasPlaces 19 = .ok (.if_icmp .gt 7, 3) := by decide +kernel
theorem dX10_hasPlaces_22 : decode cX10_hasPlaces 22 = .ok (.iconst 1, 1) := by decide +kernel
theorem dX10_hasPlaces_23 : decode cX10_hasPlaces 23 = .ok (.goto 4, 3) := by decide +kernel
theorem dX10_hasPlaces_26 : decode cX10_hasPlaces 26 = .ok (.iconst 0, 1) := by decide +kernel
theorem dX10_hasPlaces_27 : decode cX10_hasPlaces 27 = .ok (.ireturn, 1) := by decide +kernel
theorem dX10_put_0 : decode cX10_put 0 = .ok (.aload_n 0, 1) := by decide +kernel
theorem dX10_put_1 : decode cX10_put 1 = .ok (.getfield 15, 3) := by decide +kernel
theorem dX10_put_4 : decode cX10_put 4 = .ok (.tableswitch 66 0 2 #[28, 41, 54], 28) := by decide +kernel
theorem dX10_put_32 : decode cX10_put 32 = .ok (.aload_n 0, 1) := by decide +kernel
theorem dX10_put_33 : decode cX10_put 33 = .ok (.getfield 22, 3) := by decide +kernel
theorem dX10_put_36 : decode cX10_put 36 = .ok (.iload_n 1, 1) := by decide +kernel
theorem dX10_put_37 : decode cX10_put 37 = .ok (.lload_n 2, 1) := by decide +kernel
theorem dX10_put_38 : decode cX10_put 38 = .ok (.l2i, 1) := by decide +kernel
theorem dX10_put_39 : decode cX10_put 39 = .ok (.i2b, 1) := by decide +kernel
theorem dX10_put_40 : decode cX10_put 40 = .ok (.i2l, 1) := by decide +kernel
theorem dX10_put_41 : decode cX10_put 41 = .ok (.lastore, 1) := by decide +kernel
theorem dX10_put_42 : decode cX10_put 42 = .ok (.goto 35, 3) := by decide +kernel
theorem dX10_put_45 : decode cX10_put 45 = .ok (.aload_n 0, 1) := by decide +kernel
theorem dX10_put_46 : decode cX10_put 46 = .ok (.getfield 22, 3) := by decide +kernel
theorem dX10_put_49 : decode cX10_put 49 = .ok (.iload_n 1, 1) := by decide +kernel
theorem dX10_put_50 : decode cX10_put 50 = .ok (.lload_n 2, 1) := by decide +kernel
theorem dX10_put_51 : decode cX10_put 51 = .ok (.l2i, 1) := by decide +kernel
theorem dX10_put_52 : decode cX10_put 52 = .ok (.i2s, 1) := by decide +kernel
theorem dX10_put_53 : decode cX10_put 53 = .ok (.i2l, 1) := by decide +kernel
theorem dX10_put_54 : decode cX10_put 54 = .ok (.lastore, 1) := by decide +kernel
theorem dX10_put_55 : decode cX10_put 55 = .ok (.goto 22, 3) := by decide +kernel
theorem dX10_put_58 : decode cX10_put 58 = .ok (.aload_n 0, 1) := by decide +kernel
theorem dX10_put_59 : decode cX10_put 59 = .ok (.getfield 22, 3) := by decide +kernel
theorem dX10_put_62 : decode cX10_put 62 = .ok (.iload_n 1, 1) := by decide +kernel
theorem dX10_put_63 : decode cX10_put 63 = .ok (.lload_n 2, 1) := by decide +kernel
theorem dX10_put_64 : decode cX10_put 64 = .ok (.l2i, 1) := by decide +kernel
theorem dX10_put_65 : decode cX10_put 65 = .ok (.i2l, 1) := by decide +kernel
theorem dX10_put_66 : decode cX10_put 66 = .ok (.lastore, 1) := by decide +kernel
theorem dX10_put_67 : decode cX10_put 67 = .ok (.goto 10, 3) := by decide +kernel
theorem dX10_put_70 : decode cX10_put 70 = .ok (.aload_n 0, 1) := by decide +kernel
theorem dX10_put_71 : decode cX10_put 71 = .ok (.getfield 22, 3) := by decide +kernel
theorem dX10_put_74 : decode cX10_put 74 = .ok (.iload_n 1, 1) := by decide +kernel
theorem dX10_put_75 : decode cX10_put 75 = .ok (.lload_n 2, 1) := by decide +kernel
theorem dX10_put_76 : decode cX10_put 76 = .ok (.lastore, 1) := by decide +kernel
theorem dX10_put_77 : decode cX10_put 77 = .ok (.return_, 1) := by decide +kernel
set_option maxRecDepth 20000 in
theorem ggX11_init_X10_init : GoodIn wsX11_init wsX10_init := goodIn_r _ [25, 26, 2, 3, 27, 28, 29, 30, 31, 103, 104, 105, 106] (by decide +kernel) (by decide +kernel)
set_option maxRecDepth 20000 in
theorem gX11_init_X10_init_n15 : GoodIn wsX11_init (wsX10_init) := ggX11_init_X10_init
set_option maxRecDepth 20000 in
theorem ggX11_init_X4_init : GoodIn wsX11_init wsX4_init := goodIn_r _ [33, 34, 2, 3, 35, 36, 37, 38, 39, 40, 41, 42, 43, 44, 45, 46, 47, 48, 49, 50, 51, 52, 53, 54, 55, 56, 30, 57, 58, 59, 60, 61, 62, 63, 64, 65, 66, 67, 68, 69, 70, 71, 72, 73, 74, 75, 107, 108, 109, 110, 111, 112, 113, 124, 125, 126, 127, 128, 129, 130, 131, 132, 133, 134] (by decide +kernel) (by decide +kernel)
set_option maxRecDepth 20000 in
theorem gX11_init_X4_init_n18 : GoodIn wsX11_init (wsX4_init) := ggX11_init_X4_init
set_option maxRecDepth 20000 in
theorem ggX11_init_X2_init : GoodIn wsX11_init wsX2_init := goodIn_r _ [77, 78, 2, 3, 79, 53, 80, 81, 82, 83, 84, 85, 86, 87, 114, 115, 116, 117, 118, 119, 120] (by decide +kernel) (by decide +kernel)
set_option maxRecDepth 20000 in
theorem gX11_init_X2_init_n25 : GoodIn wsX11_init (wsX2_init) := ggX11_init_X2_init
set_option maxRecDepth 20000 in
theorem ggX11_init_X6_init : GoodIn wsX11_init wsX6_init := goodIn_r _ [89, 90, 2, 3, 91, 92, 93, 94, 121, 122, 123] (by decide +kernel) (by decide +kernel)
set_option maxRecDepth 20000 in
theorem gX11_init_X6_init_n32 : GoodIn wsX11_init (wsX6_init) := ggX11_init_X6_init
theorem dX11_init_0 : decode cX11_init 0 = .ok (.aload_n 0, 1) := by decide +kernel
theorem dX11_init_1 : decode cX11_init 1 = .ok (.invokespecial 3, 3) := by decide +kernel
theorem dX11_init_4 : decode cX11_init 4 = .ok (.aload_n 0, 1) := by decide +kernel
