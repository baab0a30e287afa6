theorem dX5_named_21 : decode cX5_named 21 = .ok (.iload_n 3, 1) := by decide +kernel
theorem dX5_named_22 : decode cX5_named 22 = .ok (.laload, 1) := by decide +kernel
theorem dX5_named_23 : decode cX5_named 23 = .ok (.lload_n 1, 1) := by decide +kernel
theorem dX5_named_24 : decode cX5_named 24 = .ok (.lcmp, 1) := by decide +kernel
theorem dX5_named_25 : decode cX5_named 25 = .ok (.ifCond .ne 5, 3) := by decide +kernel
theorem dX5_named_28 : decode cX5_named 28 = .ok (.iload_n 3, 1) := by decide +kernel
theorem dX5_named_29 : decode cX5_named 29 = .ok (.ireturn, 1) := by decide +kernel
theorem dX5_named_30 : decode cX5_named 30 = .ok (.iinc 3 1, 3) := by decide +kernel
theorem dX5_named_33 : decode cX5_named 33 = .ok (.goto (-31), 3) := by decide +kernel
theorem dX5_named_36 : decode cX5_named 36 = .ok (.iconst (-1), 1) := by decide +kernel
theorem dX5_named_37 : decode cX5_named 37 = .ok (.ireturn, 1) := by decide +kernel
set_option maxRecDepth 20000 in
theorem ggX5_create_X5_named : GoodIn wsX5_create wsX5_named := goodIn_r _ [9, 2, 3, 10, 11, 12, 13, 14, 15, 16, 17, 18, 19, 20, 21, 22, 23, 24, 25, 26, 27, 28, 29] (by decide +kernel) (by decide +kernel)
set_option maxRecDepth 20000 in
theorem gX5_create_X5_named : GoodIn wsX5_create (wsV RX5 144 RX5 yX5_named wsX5_named) := goodIn_app (goodIn_of _ (by decide +kernel)) ggX5_create_X5_named
theorem dX5_create_0 : decode cX5_create 0 = .ok (.aload_n 0, 1) := by decide +kernel
theorem dX5_create_1 : decode cX5_create 1 = .ok (.iconst 0, 1) := by decide +kernel
theorem dX5_create_2 : decode cX5_create 2 = .ok (.putfield 58, 3) := by decide +kernel
theorem dX5_create_5 : decode cX5_create 5 = .ok (.aload_n 0, 1) := by decide +kernel
theorem dX5_create_6 : decode cX5_create 6 = .ok (.lload_n 1, 1) := by decide +kernel
theorem dX5_create_7 : decode cX5_create 7 = .ok (.invokevirtual 144, 3) := by decide +kernel
theorem dX5_create_10 : decode cX5_create 10 = .ok (.iconst (-1), 1) := by decide +kernel
theorem dX5_create_11 : decode cX5_create 11 = .ok (.if_icmp .eq 5, 3) := by decide +kernel
theorem dX5_create_14 : decode cX5_create 14 = .ok (.iconst (-1), 1) := by decide +kernel
theorem dX5_create_15 : decode cX5_create 15 = .ok (.ireturn, 1) := by decide +kernel
theorem dX5_create_16 : decode cX5_create 16 = .ok (.iconst 0, 1) := by decide +kernel
theorem dX5_create_17 : decode cX5_create 17 = .ok (.istore_n 3, 1) := by decide +kernel
theorem dX5_create_18 : decode cX5_create 18 = .ok (.iload_n 3, 1) := by decide +kernel
theorem dX5_create_19 : decode cX5_create 19 = .ok (.bipush 8, 2) := by decide +kernel
theorem dX5_create_21 : decode cX5_create 21 = .ok (.if_icmp .ge 18, 3) := by decide +kernel
theorem dX5_create_24 : decode cX5_create 24 = .ok (.aload_n 0, 1) := by decide +kernel
theorem dX5_create_25 : decode cX5_create 25 = .ok (.getfield 38, 3) := by decide +kernel
theorem dX5_create_28 : decode cX5_create 28 = .ok (.iload_n 3, 1) := by decide +kernel
theorem dX5_create_29 : decode cX5_create 29 = .ok (.baload, 1) := by decide +kernel
theorem dX5_create_30 : decode cX5_create 30 = .ok (.ifCond .eq 9, 3) := by decide +kernel
theorem dX5_create_33 : decode cX5_create 33 = .ok (.iinc 3 1, 3) := by decide +kernel
theorem dX5_create_36 : decode cX5_create 36 = .ok (.goto (-18), 3) := by decide +kernel
theorem dX5_create_39 : decode cX5_create 39 = .ok (.iload_n 3, 1) := by decide +kernel
theorem dX5_create_40 : decode cX5_create 40 = .ok (.bipush 8, 2) := by decide +kernel
theorem dX5_create_42 : decode cX5_create 42 = .ok (.if_icmp .ne 5, 3) := by decide +kernel
theorem dX5_create_45 : decode cX5_create 45 = .ok (.iconst (-1), 1) := by decide +kernel
theorem dX5_create_46 : decode cX5_create 46 = .ok (.ireturn, 1) := by decide +kernel
theorem dX5_create_47 : decode cX5_create 47 = .ok (.aload_n 0, 1) := by decide +kernel
theorem dX5_create_48 : decode cX5_create 48 = .ok (.getfield 38, 3) := by decide +kernel
theorem dX5_create_51 : decode cX5_create 51 = .ok (.iload_n 3, 1) := by decide +kernel
theorem dX5_create_52 : decode cX5_create 52 = .ok (.iconst 1, 1) := by decide +kernel
theorem dX5_create_53 : decode cX5_create 53 = .ok (.bastore, 1) := by decide +kernel
theorem dX5_create_54 : decode cX5_create 54 = .ok (.aload_n 0, 1) := by decide +kernel
theorem dX5_create_55 : decode cX5_create 55 = .ok (.getfield 41, 3) := by decide +kernel
theorem dX5_create_58 : decode cX5_create 58 = .ok (.iload_n 3, 1) := by decide +kernel
theorem dX5_create_59 : decode cX5_create 59 = .ok (.lload_n 1, 1) := by decide +kernel
theorem dX5_create_60 : decode cX5_create 60 = .ok (.lastore, 1) := by decide +kernel
theorem dX5_create_61 : decode cX5_create 61 = .ok (.aload_n 0, 1) := by decide +kernel
theorem dX5_create_62 : decode cX5_create 62 = .ok (.getfield 45, 3) := by decide +kernel
theorem dX5_create_65 : decode cX5_create 65 = .ok (.iload_n 3, 1) := by decide +kernel
theorem dX5_create_66 : decode cX5_create 66 = .ok (.iconst 0, 1) := by decide +kernel
theorem dX5_create_67 : decode cX5_create 67 = .ok (.iastore, 1) := by decide +kernel
theorem dX5_create_68 : decode cX5_create 68 = .ok (.iload_n 3, 1) := by decide +kernel
theorem dX5_create_69 : decode cX5_create 69 = .ok (.ireturn, 1) := by decide +kernel
set_option maxRecDepth 20000 in
theorem ggX5_find_X5_named : GoodIn wsX5_find wsX5_named := goodIn_r _ [6, 7, 8, 9, 10, 11, 12, 13, 14, 15, 16, 17, 18, 19, 20, 21, 22, 23, 24, 25, 26, 27, 28] (by decide +kernel) (by decide +kernel)
set_option maxRecDepth 20000 in
theorem gX5_find_X5_named : GoodIn wsX5_find (wsV RX5 144 RX5 yX5_named wsX5_named) := goodIn_app (goodIn_of _ (by decide +kernel)) ggX5_find_X5_named
theorem dX5_find_0 : decode cX5_find 0 = .ok (.aload_n 0, 1) := by decide +kernel
theorem dX5_find_1 : decode cX5_find 1 = .ok (.iconst 0, 1) := by decide +kernel
theorem dX5_find_2 : decode cX5_find 2 = .ok (.putfield 58, 3) := by decide +kernel
theorem dX5_find_5 : decode cX5_find 5 = .ok (.aload_n 0, 1) := by decide +kernel
theorem dX5_find_6 : decode cX5_find 6 = .ok (.lload_n 1, 1) := by decide +kernel
theorem dX5_find_7 : decode cX5_find 7 = .ok (.invokevirtual 144, 3) := by decide +kernel
theorem dX5_find_10 : decode cX5_find 10 = .ok (.ireturn, 1) := by decide +kernel
set_option maxRecDepth 20000 in
theorem ggX5_remove_X5_isFile : GoodIn wsX5_remove wsX5_isFile := goodIn_r _ [10, 5, 11, 12, 13, 14, 15, 16, 17, 18, 19, 20, 21, 22, 23, 24, 25, 26, 27, 28, 29, 30] (by decide +kernel) (by decide +kernel)
set_option maxRecDepth 20000 in
theorem gX5_remove_X5_isFile : GoodIn wsX5_remove (wsV RX5 148 RX5 yX5_isFile wsX5_isFile) := goodIn_app (goodIn_of _ (by decide +kernel)) ggX5_remove_X5_isFile
theorem dX5_remove_0 : decode cX5_remove 0 = .ok (.aload_n 0, 1) := by decide +kernel
theorem dX5_remove_1 : decode cX5_remove 1 = .ok (.iconst 0, 1) := by decide +kernel
theorem dX5_remove_2 : decode cX5_remove 2 = .ok (.putfield 58, 3) := by decide +kernel
theorem dX5_remove_5 : decode cX5_remove 5 = .ok (.aload_n 0, 1) := by decide +kernel
theorem dX5_remove_6 : decode cX5_remove 6 = .ok (.iload_n 1, 1) := by decide +kernel
theorem dX5_remove_7 : decode cX5_remove 7 = .ok (.invokevirtual 148, 3) := by decide +kernel
theorem dX5_remove_10 : decode cX5_remove 10 = .ok (.ifCond .ne 5, 3) := by decide +kernel
theorem dX5_remove_13 : decode cX5_remove 13 = .ok (.iconst 0, 1) := by decide +kernel
theorem dX5_remove_14 : decode cX5_remove 14 = .ok (.ireturn, 1) := by decide +kernel
theorem dX5_remove_15 : decode cX5_remove 15 = .ok (.iconst 0, 1) := by decide +kernel
theorem dX5_remove_16 : decode cX5_remove 16 = .ok (.istore_n 2, 1) := by decide +kernel
theorem dX5_remove_17 : decode cX5_remove 17 = .ok (.iconst 4, 1) := by decide +kernel
theorem dX5_remove_18 : decode cX5_remove 18 = .ok (.iload_n 2, 1) := by decide +kernel
theorem dX5_remove_19 : decode cX5_remove 19 = .ok (.imul, 1) := by decide +kernel
theorem dX5_remove_20 : decode cX5_remove 20 = .ok (.aload_n 0, 1) := by decide +kernel
theorem dX5_remove_21 : decode cX5_remove 21 = .ok (.getfield 45, 3) := by decide +kernel
theorem dX5_remove_24 : decode cX5_remove 24 = .ok (.iload_n 1, 1) := by decide +kernel
theorem dX5_remove_25 : decode cX5_remove 25 = .ok (.iaload, 1) := by decide +kernel
theorem dX5_remove_26 : decode cX5_remove 26 = .ok (.if_icmp .ge 26, 3) := by decide +kernel
theorem dX5_remove_29 : decode cX5_remove 29 = .ok (.aload_n 0, 1) := by decide +kernel
theorem dX5_remove_30 : decode cX5_remove 30 = .ok (.getfield 51, 3) := by decide +kernel
theorem dX5_remove_33 : decode cX5_remove 33 = .ok (.aload_n 0, 1) := by decide +kernel
theorem dX5_remove_34 : decode cX5_remove 34 = .ok (.getfield 48, 3) := by decide +kernel
theorem dX5_remove_37 : decode cX5_remove 37 = .ok (.bipush 6, 2) := by decide +kernel
theorem dX5_remove_39 : decode cX5_remove 39 = .ok (.iload_n 1, 1) := by decide +kernel
theorem dX5_remove_40 : decode cX5_remove 40 = .ok (.imul, 1) := by decide +kernel
theorem dX5_remove_41 : decode cX5_remove 41 = .ok (.iload_n 2, 1) := by decide +kernel
theorem dX5_remove_42 : decode cX5_remove 42 = .ok (.iadd, 1) := by decide +kernel
theorem dX5_remove_43 : decode cX5_remove 43 = .ok (.iaload, 1) := by decide +kernel
theorem dX5_remove_44 : decode cX5_remove 44 = .ok (.iconst 0, 1) := by decide +kernel
theorem dX5_remove_45 : decode cX5_remove 45 = .ok (.bastore, 1) := by decide +kernel
theorem dX5_remove_46 : decode cX5_remove 46 = .ok (.iinc 2 1, 3) := by decide +kernel
theorem dX5_remove_49 : decode cX5_remove 49 = .ok (.goto (-32), 3) := by decide +kernel
theorem dX5_remove_52 : decode cX5_remove 52 = .ok (.aload_n 0, 1) := by decide +kernel
theorem dX5_remove_53 : decode cX5_remove 53 = .ok (.getfield 38, 3) := by decide +kernel
theorem dX5_remove_56 : decode cX5_remove 56 = .ok (.iload_n 1, 1) := by decide +kernel
theorem dX5_remove_57 : decode cX5_remove 57 = .ok (.iconst 0, 1) := by decide +kernel
theorem dX5_remove_58 : decode cX5_remove 58 = .ok (.bastore, 1) := by decide +kernel
theorem dX5_remove_59 : decode cX5_remove 59 = .ok (.iconst 1, 1) := by decide +kernel
theorem dX5_remove_60 : decode cX5_remove 60 = .ok (.ireturn, 1) := by decide +kernel
set_option maxRecDepth 20000 in
theorem ggX5_size_X5_isFile : GoodIn wsX5_size wsX5_isFile := goodIn_r _ [7, 8, 9, 10, 11, 12, 13, 14, 15, 16, 17, 18, 19, 20, 21, 22, 23, 24, 25, 26, 27, 28] (by decide +kernel) (by decide +kernel)
set_option maxRecDepth 20000 in
theorem gX5_size_X5_isFile : GoodIn wsX5_size (wsV RX5 148 RX5 yX5_isFile wsX5_isFile) := goodIn_app (goodIn_of _ (by decide +kernel)) ggX5_size_X5_isFile
theorem dX5_size_0 : decode cX5_size 0 = .ok (.aload_n 0, 1) := by decide +kernel
theorem dX5_size_1 : decode cX5_size 1 = .ok (.iconst 0, 1) := by decide +kernel
theorem dX5_size_2 : decode cX5_size 2 = .ok (.putfield 58, 3) := by decide +kernel
theorem dX5_size_5 : decode cX5_size 5 = .ok (.aload_n 0, 1) := by decide +kernel
theorem dX5_size_6 : decode cX5_size 6 = .ok (.iload_n 1, 1) := by decide +kernel
theorem dX5_size_7 : decode cX5_size 7 = .ok (.invokevirtual 148, 3) := by decide +kernel
theorem dX5_size_10 : decode cX5_size 10 = .ok (.ifCond .eq 12, 3) := by decide +kernel
theorem dX5_size_13 : decode cX5_size 13 = .ok (.aload_n 0, 1) := by decide +kernel
theorem dX5_size_14 : decode cX5_size 14 = .ok (.getfield 45, 3) := by decide +kernel
theorem dX5_size_17 : decode cX5_size 17 = .ok (.iload_n 1, 1) := by decide +kernel
theorem dX5_size_18 : decode cX5_size 18 = .ok (.iaload, 1) := by decide +kernel
theorem dX5_size_19 : decode cX5_size 19 = .ok (.goto 4, 3) := by decide +kernel
theorem dX5_size_22 : decode cX5_size 22 = .ok (.iconst (-1), 1) := by decide +kernel
theorem dX5_size_23 : decode cX5_size 23 = .ok (.ireturn, 1) := by decide +kernel
set_option maxRecDepth 20000 in
theorem ggX5_write_X5_isFile : GoodIn wsX5_write wsX5_isFile := goodIn_r _ [10, 11, 96, 97, 98, 99, 100, 101, 102, 103, 104, 105, 106, 107, 108, 109, 110, 111, 112, 113, 114, 115] (by decide +kernel) (by decide +kernel)
set_option maxRecDepth 20000 in
theorem gX5_write_X5_isFile : GoodIn wsX5_write (wsV RX5 148 RX5 yX5_isFile wsX5_isFile) := goodIn_app (goodIn_of _ (by decide +kernel)) ggX5_write_X5_isFile
set_option maxRecDepth 20000 in
theorem ggX5_write_X5_access : GoodIn wsX5_write wsX5_access := goodIn_r _ [15, 16, 17, 18, 19, 2, 20, 21, 22, 23, 24, 25, 9, 26, 27, 28, 29, 30, 31, 32, 33, 34, 35, 36, 37, 38, 39, 40, 41, 42, 43, 44, 45, 46, 47, 48, 49, 50, 51, 52, 53, 54, 55, 56, 57, 58, 59, 60, 61, 62, 63, 64, 65, 66, 67, 68, 69, 70, 71, 72, 73, 74, 75, 76, 77, 78, 79, 80, 81, 82, 83, 84, 85, 86, 87, 88, 89, 90, 91, 92, 93, 94, 95, 96, 97, 98, 99, 100, 101, 102, 103, 104, 105, 106, 107, 108, 109, 110, 111, 112, 113, 114, 115] (by decide +kernel) (by decide +kernel)
set_option maxRecDepth 20000 in
theorem gX5_write_X5_access : GoodIn wsX5_write (wsV RX5 152 RX5 yX5_access wsX5_access) := goodIn_app (goodIn_of _ (by decide +kernel)) ggX5_write_X5_access
theorem dX5_write_0 : decode cX5_write 0 = .ok (.aload_n 0, 1) := by decide +kernel
theorem dX5_write_1 : decode cX5_write 1 = .ok (.iload_n 1, 1) := by decide +kernel
theorem dX5_write_2 : decode cX5_write 2 = .ok (.invokevirtual 148, 3) := by decide +kernel
theorem dX5_write_5 : decode cX5_write 5 = .ok (.ifCond .eq 27, 3) := by decide +kernel
theorem dX5_write_8 : decode cX5_write 8 = .ok (.iload_n 2, 1) := by decide +kernel
theorem dX5_write_9 : decode cX5_write 9 = .ok (.ifCond .lt 23, 3) := by decide +kernel
theorem dX5_write_12 : decode cX5_write 12 = .ok (.iload_n 2, 1) := by decide +kernel
theorem dX5_write_13 : decode cX5_write 13 = .ok (.aload_n 0, 1) := by decide +kernel
theorem dX5_write_14 : decode cX5_write 14 = .ok (.getfield 45, 3) := by decide +kernel
theorem dX5_write_17 : decode cX5_write 17 = .ok (.iload_n 1, 1) := by decide +kernel
theorem dX5_write_18 : decode cX5_write 18 = .ok (.iaload, 1) := by decide +kernel
theorem dX5_write_19 : decode cX5_write 19 = .ok (.if_icmp .gt 13, 3) := by decide +kernel
theorem dX5_write_22 : decode cX5_write 22 = .ok (.iload_n 2, 1) := by decide +kernel
theorem dX5_write_23 : decode cX5_write 23 = .ok (.bipush 24, 2) := by decide +kernel
theorem dX5_write_25 : decode cX5_write 25 = .ok (.if_icmp .ge 7, 3) := by decide +kernel
theorem dX5_write_28 : decode cX5_write 28 = .ok (.iconst 1, 1) := by decide +kernel
theorem dX5_write_29 : decode cX5_write 29 = .ok (.goto 4, 3) := by decide +kernel
theorem dX5_write_32 : decode cX5_write 32 = .ok (.iconst 0, 1) := by decide +kernel
theorem dX5_write_33 : decode cX5_write 33 = .ok (.istore 4, 2) := by decide +kernel
theorem dX5_write_35 : decode cX5_write 35 = .ok (.aload_n 0, 1) := by decide +kernel
theorem dX5_write_36 : decode cX5_write 36 = .ok (.iload 4, 2) := by decide +kernel
theorem dX5_write_38 : decode cX5_write 38 = .ok (.ifCond .ne 7, 3) := by decide +kernel
theorem dX5_write_41 : decode cX5_write 41 = .ok (.iconst 1, 1) := by decide +kernel
theorem dX5_write_42 : decode cX5_write 42 = .ok (.goto 15, 3) := by decide +kernel
theorem dX5_write_45 : decode cX5_write 45 = .ok (.aload_n 0, 1) := by decide +kernel
theorem dX5_write_46 : decode cX5_write 46 = .ok (.getfield 131, 3) := by decide +kernel
theorem dX5_write_49 : decode cX5_write 49 = .ok (.ifCond .eq 7, 3) := by decide +kernel
theorem dX5_write_52 : decode cX5_write 52 = .ok (.iconst 2, 1) := by decide +kernel
theorem dX5_write_53 : decode cX5_write 53 = .ok (.goto 4, 3) := by decide +kernel
theorem dX5_write_56 : decode cX5_write 56 = .ok (.iconst 0, 1) := by decide +kernel
theorem dX5_write_57 : decode cX5_write 57 = .ok (.putfield 58, 3) := by decide +kernel
theorem dX5_write_60 : decode cX5_write 60 = .ok (.aload_n 0, 1) := by decide +kernel
theorem dX5_write_61 : decode cX5_write 61 = .ok (.getfield 58, 3) := by decide +kernel
theorem dX5_write_64 : decode cX5_write 64 = .ok (.ifCond .eq 4, 3) := by decide +kernel
theorem dX5_write_67 : decode cX5_write 67 = .ok (.return_, 1) := by decide +kernel
theorem dX5_write_68 : decode cX5_write 68 = .ok (.iload_n 2, 1) := by decide +kernel
theorem dX5_write_69 : decode cX5_write 69 = .ok (.aload_n 0, 1) := by decide +kernel
theorem dX5_write_70 : decode cX5_write 70 = .ok (.getfield 45, 3) := by decide +kernel
theorem dX5_write_73 : decode cX5_write 73 = .ok (.iload_n 1, 1) := by decide +kernel
theorem dX5_write_74 : decode cX5_write 74 = .ok (.iaload, 1) := by decide +kernel
theorem dX5_write_75 : decode cX5_write 75 = .ok (.if_icmp .ne 13, 3) := by decide +kernel
theorem dX5_write_78 : decode cX5_write 78 = .ok (.iload_n 2, 1) := by decide +kernel
theorem dX5_write_79 : decode cX5_write 79 = .ok (.iconst 4, 1) := by decide +kernel
theorem dX5_write_80 : decode cX5_write 80 = .ok (.irem, 1) := by decide +kernel
theorem dX5_write_81 : decode cX5_write 81 = .ok (.ifCond .ne 7, 3) := by decide +kernel
theorem dX5_write_84 : decode cX5_write 84 = .ok (.iconst 1, 1) := by decide +kernel
theorem dX5_write_85 : decode cX5_write 85 = .ok (.goto 4, 3) := by decide +kernel
theorem dX5_write_88 : decode cX5_write 88 = .ok (.iconst 0, 1) := by decide +kernel
theorem dX5_write_89 : decode cX5_write 89 = .ok (.istore 5, 2) := by decide +kernel
theorem dX5_write_91 : decode cX5_write 91 = .ok (.iconst 0, 1) := by decide +kernel
theorem dX5_write_92 : decode cX5_write 92 = .ok (.istore 6, 2) := by decide +kernel
theorem dX5_write_94 : decode cX5_write 94 = .ok (.iload 5, 2) := by decide +kernel
theorem dX5_write_96 : decode cX5_write 96 = .ok (.ifCond .eq 19, 3) := by decide +kernel
theorem dX5_write_99 : decode cX5_write 99 = .ok (.aload_n 0, 1) := by decide +kernel
theorem dX5_write_100 : decode cX5_write 100 = .ok (.getfield 51, 3) := by decide +kernel
theorem dX5_write_103 : decode cX5_write 103 = .ok (.iload 6, 2) := by decide +kernel
theorem dX5_write_105 : decode cX5_write 105 = .ok (.baload, 1) := by decide +kernel
theorem dX5_write_106 : decode cX5_write 106 = .ok (.ifCond .eq 24, 3) := by decide +kernel
theorem dX5_write_109 : decode cX5_write 109 = .ok (.iinc 6 1, 3) := by decide +kernel
theorem dX5_write_112 : decode cX5_write 112 = .ok (.goto (-13), 3) := by decide +kernel
theorem dX5_write_115 : decode cX5_write 115 = .ok (.aload_n 0, 1) := by decide +kernel
theorem dX5_write_116 : decode cX5_write 116 = .ok (.getfield 48, 3) := by decide +kernel
theorem dX5_write_119 : decode cX5_write 119 = .ok (.bipush 6, 2) := by decide +kernel
theorem dX5_write_121 : decode cX5_write 121 = .ok (.iload_n 1, 1) := by decide +kernel
theorem dX5_write_122 : decode cX5_write 122 = .ok (.imul, 1) := by decide +kernel
theorem dX5_write_123 : decode cX5_write 123 = .ok (.iload_n 2, 1) := by decide +kernel
theorem dX5_write_124 : decode cX5_write 124 = .ok (.iconst 4, 1) := by decide +kernel
theorem dX5_write_125 : decode cX5_write 125 = .ok (.idiv, 1) := by decide +kernel
theorem dX5_write_126 : decode cX5_write 126 = .ok (.iadd, 1) := by decide +kernel
theorem dX5_write_127 : decode cX5_write 127 = .ok (.iaload, 1) := by decide +kernel
theorem dX5_write_128 : decode cX5_write 128 = .ok (.istore 6, 2) := by decide +kernel
theorem dX5_write_130 : decode cX5_write 130 = .ok (.aload_n 0, 1) := by decide +kernel
theorem dX5_write_131 : decode cX5_write 131 = .ok (.iload 6, 2) := by decide +kernel
theorem dX5_write_133 : decode cX5_write 133 = .ok (.iload_n 2, 1) := by decide +kernel
theorem dX5_write_134 : decode cX5_write 134 = .ok (.iconst 4, 1) := by decide +kernel
theorem dX5_write_135 : decode cX5_write 135 = .ok (.irem, 1) := by decide +kernel
theorem dX5_write_136 : decode cX5_write 136 = .ok (.iconst 1, 1) := by decide +kernel
theorem dX5_write_137 : decode cX5_write 137 = .ok (.iload 5, 2) := by decide +kernel
theorem dX5_write_139 : decode cX5_write 139 = .ok (.iload_n 3, 1) := by decide +kernel
theorem dX5_write_140 : decode cX5_write 140 = .ok (.invokevirtual 152, 3) := by decide +kernel
theorem dX5_write_143 : decode cX5_write 143 = .ok (.ifCond .ne 9, 3) := by decide +kernel
theorem dX5_write_146 : decode cX5_write 146 = .ok (.aload_n 0, 1) := by decide +kernel
theorem dX5_write_147 : decode cX5_write 147 = .ok (.iconst 2, 1) := by decide +kernel
theorem dX5_write_148 : decode cX5_write 148 = .ok (.putfield 58, 3) := by decide +kernel
theorem dX5_write_151 : decode cX5_write 151 = .ok (.return_, 1) := by decide +kernel
theorem dX5_write_152 : decode cX5_write 152 = .ok (.aload_n 0, 1) := by decide +kernel
theorem dX5_write_153 : decode cX5_write 153 = .ok (.getfield 51, 3) := by decide +kernel
theorem dX5_write_156 : decode cX5_write 156 = .ok (.iload 6, 2) := by decide +kernel
theorem dX5_write_158 : decode cX5_write 158 = .ok (.iconst 1, 1) := by decide +kernel
theorem dX5_write_159 : decode cX5_write 159 = .ok (.bastore, 1) := by decide +kernel
theorem dX5_write_160 : decode cX5_write 160 = .ok (.aload_n 0, 1) := by decide +kernel
theorem dX5_write_161 : decode cX5_write 161 = .ok (.getfield 48, 3) := by decide +kernel
theorem dX5_write_164 : decode cX5_write 164 = .ok (.bipush 6, 2) := by decide +kernel
theorem dX5_write_166 : decode cX5_write 166 = .ok (.iload_n 1, 1) := by decide +kernel
theorem dX5_write_167 : decode cX5_write 167 = .ok (.imul, 1) := by decide +kernel
theorem dX5_write_168 : decode cX5_write 168 = .ok (.iload_n 2, 1) := by decide +kernel
theorem dX5_write_169 : decode cX5_write 169 = .ok (.iconst 4, 1) := by decide +kernel
theorem dX5_write_170 : decode cX5_write 170 = .ok (.idiv, 1) := by decide +kernel
theorem dX5_write_171 : decode cX5_write 171 = .ok (.iadd, 1) := by decide +kernel
theorem dX5_write_172 : decode cX5_write 172 = .ok (.iload 6, 2) := by decide +kernel
theorem dX5_write_174 : decode cX5_write 174 = .ok (.iastore, 1) := by decide +kernel
theorem dX5_write_175 : decode cX5_write 175 = .ok (.iload_n 2, 1) := by decide +kernel
theorem dX5_write_176 : decode cX5_write 176 = .ok (.aload_n 0, 1) := by decide +kernel
theorem dX5_write_177 : decode cX5_write 177 = .ok (.getfield 45, 3) := by decide +kernel
theorem dX5_write_180 : decode cX5_write 180 = .ok (.iload_n 1, 1) := by decide +kernel
theorem dX5_write_181 : decode cX5_write 181 = .ok (.iaload, 1) := by decide +kernel
theorem dX5_write_182 : decode cX5_write 182 = .ok (.if_icmp .ne 13, 3) := by decide +kernel
theorem dX5_write_185 : decode cX5_write 185 = .ok (.aload_n 0, 1) := by decide +kernel
theorem dX5_write_186 : decode cX5_write 186 = .ok (.getfield 45, 3) := by decide +kernel
theorem dX5_write_189 : decode cX5_write 189 = .ok (.iload_n 1, 1) := by decide +kernel
theorem dX5_write_190 : decode cX5_write 190 = .ok (.dup2, 1) := by decide +kernel
theorem dX5_write_191 : decode cX5_write 191 = .ok (.iaload, 1) := by decide +kernel
theorem dX5_write_192 : decode cX5_write 192 = .ok (.iconst 1, 1) := by decide +kernel
theorem dX5_write_193 : decode cX5_write 193 = .ok (.iadd, 1) := by decide +kernel
theorem dX5_write_194 : decode cX5_write 194 = .ok (.iastore, 1) := by decide +kernel
theorem dX5_write_195 : decode cX5_write 195 = .ok (.return_, 1) := by decide +kernel
set_option maxRecDepth 20000 in
theorem ggX5_read_X5_isFile : GoodIn wsX5_read wsX5_isFile := goodIn_r _ [10, 11, 99, 100, 101, 102, 103, 104, 105, 106, 107, 108, 109, 110, 111, 112, 113, 114, 115, 116, 117, 118] (by decide +kernel) (by decide +kernel)
set_option maxRecDepth 20000 in
theorem gX5_read_X5_isFile : GoodIn wsX5_read (wsV RX5 148 RX5 yX5_isFile wsX5_isFile) := goodIn_app (goodIn_of _ (by decide +kernel)) ggX5_read_X5_isFile
set_option maxRecDepth 20000 in
theorem ggX5_read_X5_raise : GoodIn wsX5_read wsX5_raise := goodIn_r _ [15, 4, 99, 100, 101, 102, 103, 104, 105, 106, 107, 108, 109, 110, 111, 112, 113, 114, 115, 116, 117, 118] (by decide +kernel) (by decide +kernel)
set_option maxRecDepth 20000 in
theorem gX5_read_X5_raise : GoodIn wsX5_read (wsV RX5 156 RX5 yX5_raise wsX5_raise) := goodIn_app (goodIn_of _ (by decide +kernel)) ggX5_read_X5_raise
set_option maxRecDepth 20000 in
theorem ggX5_read_X5_access : GoodIn wsX5_read wsX5_access := goodIn_r _ [19, 20, 21, 22, 23, 2, 24, 25, 5, 26, 27, 28, 9, 29, 30, 31, 32, 33, 34, 35, 36, 37, 38, 39, 40, 41, 42, 43, 44, 45, 46, 47, 48, 49, 50, 51, 52, 53, 54, 55, 56, 57, 58, 59, 60, 61, 62, 63, 64, 65, 66, 67, 68, 69, 70, 71, 72, 73, 74, 75, 76, 77, 78, 79, 80, 81, 82, 83, 84, 85, 86, 87, 88, 89, 90, 91, 92, 93, 94, 95, 96, 97, 98, 99, 100, 101, 102, 103, 104, 105, 106, 107, 108, 109, 110, 111, 112, 113, 114, 115, 116, 117, 118] (by decide +kernel) (by decide +kernel)
set_option maxRecDepth 20000 in
theorem gX5_read_X5_access : GoodIn wsX5_read (wsV RX5 152 RX5 yX5_access wsX5_access) := goodIn_app (goodIn_of _ (by decide +kernel)) ggX5_read_X5_access
theorem dX5_read_0 : decode cX5_read 0 = .ok (.aload_n 0, 1) := by decide +kernel
theorem dX5_read_1 : decode cX5_read 1 = .ok (.iload_n 1, 1) := by decide +kernel
theorem dX5_read_2 : decode cX5_read 2 = .ok (.invokevirtual 148, 3) := by decide +kernel
theorem dX5_read_5 : decode cX5_read 5 = .ok (.ifCond .eq 21, 3) := by decide +kernel
theorem dX5_read_8 : decode cX5_read 8 = .ok (.iload_n 2, 1) := by decide +kernel
theorem dX5_read_9 : decode cX5_read 9 = .ok (.ifCond .lt 17, 3) := by decide +kernel
theorem dX5_read_12 : decode cX5_read 12 = .ok (.iload_n 2, 1) := by decide +kernel
theorem dX5_read_13 : decode cX5_read 13 = .ok (.aload_n 0, 1) := by decide +kernel
theorem dX5_read_14 : decode cX5_read 14 = .ok (.getfield 45, 3) := by decide +kernel
theorem dX5_read_17 : decode cX5_read 17 = .ok (.iload_n 1, 1) := by decide +kernel
theorem dX5_read_18 : decode cX5_read 18 = .ok (.iaload, 1) := by decide +kernel
theorem dX5_read_19 : decode cX5_read 19 = .ok (.if_icmp .ge 7, 3) := by decide +kernel
theorem dX5_read_22 : decode cX5_read 22 = .ok (.iconst 1, 1) := by decide +kernel
theorem dX5_read_23 : decode cX5_read 23 = .ok (.goto 4, 3) := by decide +kernel
theorem dX5_read_26 : decode cX5_read 26 = .ok (.iconst 0, 1) := by decide +kernel
theorem dX5_read_27 : decode cX5_read 27 = .ok (.istore_n 3, 1) := by decide +kernel
theorem dX5_read_28 : decode cX5_read 28 = .ok (.iload_n 3, 1) := by decide +kernel
theorem dX5_read_29 : decode cX5_read 29 = .ok (.ifCond .ne 9, 3) := by decide +kernel
theorem dX5_read_32 : decode cX5_read 32 = .ok (.aload_n 0, 1) := by decide +kernel
theorem dX5_read_33 : decode cX5_read 33 = .ok (.iconst 1, 1) := by decide +kernel
theorem dX5_read_34 : decode cX5_read 34 = .ok (.invokevirtual 156, 3) := by decide +kernel
theorem dX5_read_37 : decode cX5_read 37 = .ok (.ireturn, 1) := by decide +kernel
theorem dX5_read_38 : decode cX5_read 38 = .ok (.aload_n 0, 1) := by decide +kernel
theorem dX5_read_39 : decode cX5_read 39 = .ok (.getfield 131, 3) := by decide +kernel
theorem dX5_read_42 : decode cX5_read 42 = .ok (.ifCond .ne 29, 3) := by decide +kernel
theorem dX5_read_45 : decode cX5_read 45 = .ok (.aload_n 0, 1) := by decide +kernel
theorem dX5_read_46 : decode cX5_read 46 = .ok (.aload_n 0, 1) := by decide +kernel
theorem dX5_read_47 : decode cX5_read 47 = .ok (.getfield 48, 3) := by decide +kernel
theorem dX5_read_50 : decode cX5_read 50 = .ok (.bipush 6, 2) := by decide +kernel
theorem dX5_read_52 : decode cX5_read 52 = .ok (.iload_n 1, 1) := by decide +kernel
theorem dX5_read_53 : decode cX5_read 53 = .ok (.imul, 1) := by decide +kernel
theorem dX5_read_54 : decode cX5_read 54 = .ok (.iload_n 2, 1) := by decide +kernel
theorem dX5_read_55 : decode cX5_read 55 = .ok (.iconst 4, 1) := by decide +kernel
theorem dX5_read_56 : decode cX5_read 56 = .ok (.idiv, 1) := by decide +kernel
theorem dX5_read_57 : decode cX5_read 57 = .ok (.iadd, 1) := by decide +kernel
theorem dX5_read_58 : decode cX5_read 58 = .ok (.iaload, 1) := by decide +kernel
theorem dX5_read_59 : decode cX5_read 59 = .ok (.iload_n 2, 1) := by decide +kernel
theorem dX5_read_60 : decode cX5_read 60 = .ok (.iconst 4, 1) := by decide +kernel
theorem dX5_read_61 : decode cX5_read 61 = .ok (.irem, 1) := by decide +kernel
theorem dX5_read_62 : decode cX5_read 62 = .ok (.iconst 0, 1) := by decide +kernel
theorem dX5_read_63 : decode cX5_read 63 = .ok (.iconst 0, 1) := by decide +kernel
theorem dX5_read_64 : decode cX5_read 64 = .ok (.iconst 0, 1) := by decide +kernel
theorem dX5_read_65 : decode cX5_read 65 = .ok (.invokevirtual 152, 3) := by decide +kernel
theorem dX5_read_68 : decode cX5_read 68 = .ok (.ifCond .ne 9, 3) := by decide +kernel
theorem dX5_read_71 : decode cX5_read 71 = .ok (.aload_n 0, 1) := by decide +kernel
theorem dX5_read_72 : decode cX5_read 72 = .ok (.iconst 2, 1) := by decide +kernel
theorem dX5_read_73 : decode cX5_read 73 = .ok (.invokevirtual 156, 3) := by decide +kernel
theorem dX5_read_76 : decode cX5_read 76 = .ok (.ireturn, 1) := by decide +kernel
theorem dX5_read_77 : decode cX5_read 77 = .ok (.aload_n 0, 1) := by decide +kernel
theorem dX5_read_78 : decode cX5_read 78 = .ok (.iconst 0, 1) := by decide +kernel
theorem dX5_read_79 : decode cX5_read 79 = .ok (.putfield 58, 3) := by decide +kernel
theorem dX5_read_82 : decode cX5_read 82 = .ok (.aload_n 0, 1) := by decide +kernel
theorem dX5_read_83 : decode cX5_read 83 = .ok (.getfield 138, 3) := by decide +kernel
theorem dX5_read_86 : decode cX5_read 86 = .ok (.ireturn, 1) := by decide +kernel
set_option maxRecDepth 20000 in
theorem ggX5_idle_X5_draw : GoodIn wsX5_idle wsX5_draw := goodIn_r _ [7, 8, 88, 89, 90, 91, 92, 93, 94, 95, 96, 97, 98, 99, 100, 101, 102, 103, 104, 105, 106, 107] (by decide +kernel) (by decide +kernel)
set_option maxRecDepth 20000 in
theorem gX5_idle_X5_draw : GoodIn wsX5_idle (wsV RX5 121 RX5 yX5_draw wsX5_draw) := goodIn_app (goodIn_of _ (by decide +kernel)) ggX5_idle_X5_draw
set_option maxRecDepth 20000 in
theorem ggX5_idle_X5_access : GoodIn wsX5_idle wsX5_access := goodIn_r _ [12, 13, 14, 15, 16, 1, 17, 18, 19, 3, 4, 5, 6, 7, 8, 20, 21, 22, 23, 24, 25, 26, 27, 28, 29, 30, 31, 32, 33, 34, 35, 36, 37, 38, 39, 40, 41, 42, 43, 44, 45, 46, 47, 48, 49, 50, 51, 52, 53, 54, 55, 56, 57, 58, 59, 60, 61, 62, 63, 64, 65, 66, 67, 68, 69, 70, 71, 72, 73, 74, 75, 76, 77, 78, 79, 80, 81, 82, 83, 84, 85, 86, 87, 88, 89, 90, 91, 92, 93, 94, 95, 96, 97, 98, 99, 100, 101, 102, 103, 104, 105, 106, 107] (by decide +kernel) (by decide +kernel)
set_option maxRecDepth 20000 in
theorem gX5_idle_X5_access : GoodIn wsX5_idle (wsV RX5 152 RX5 yX5_access wsX5_access) := goodIn_app (goodIn_of _ (by decide +kernel)) ggX5_idle_X5_access
theorem dX5_idle_0 : decode cX5_idle 0 = .ok (.aload_n 0, 1) := by decide +kernel
theorem dX5_idle_1 : decode cX5_idle 1 = .ok (.aload_n 0, 1) := by decide +kernel
theorem dX5_idle_2 : decode cX5_idle 2 = .ok (.getfield 131, 3) := by decide +kernel
theorem dX5_idle_5 : decode cX5_idle 5 = .ok (.ifCond .eq 7, 3) := by decide +kernel
theorem dX5_idle_8 : decode cX5_idle 8 = .ok (.iconst 1, 1) := by decide +kernel
theorem dX5_idle_9 : decode cX5_idle 9 = .ok (.goto 4, 3) := by decide +kernel
theorem dX5_idle_12 : decode cX5_idle 12 = .ok (.iconst 0, 1) := by decide +kernel
theorem dX5_idle_13 : decode cX5_idle 13 = .ok (.putfield 58, 3) := by decide +kernel
theorem dX5_idle_16 : decode cX5_idle 16 = .ok (.aload_n 0, 1) := by decide +kernel
theorem dX5_idle_17 : decode cX5_idle 17 = .ok (.getfield 131, 3) := by decide +kernel
theorem dX5_idle_20 : decode cX5_idle 20 = .ok (.ifCond .eq 4, 3) := by decide +kernel
theorem dX5_idle_23 : decode cX5_idle 23 = .ok (.return_, 1) := by decide +kernel
theorem dX5_idle_24 : decode cX5_idle 24 = .ok (.aload_n 0, 1) := by decide +kernel
theorem dX5_idle_25 : decode cX5_idle 25 = .ok (.bipush 6, 2) := by decide +kernel
theorem dX5_idle_27 : decode cX5_idle 27 = .ok (.invokevirtual 121, 3) := by decide +kernel
theorem dX5_idle_30 : decode cX5_idle 30 = .ok (.istore_n 1, 1) := by decide +kernel
theorem dX5_idle_31 : decode cX5_idle 31 = .ok (.aload_n 0, 1) := by decide +kernel
theorem dX5_idle_32 : decode cX5_idle 32 = .ok (.aload_n 0, 1) := by decide +kernel
theorem dX5_idle_33 : decode cX5_idle 33 = .ok (.iload_n 1, 1) := by decide +kernel
theorem dX5_idle_34 : decode cX5_idle 34 = .ok (.iconst 0, 1) := by decide +kernel
theorem dX5_idle_35 : decode cX5_idle 35 = .ok (.iconst 0, 1) := by decide +kernel
theorem dX5_idle_36 : decode cX5_idle 36 = .ok (.iconst 0, 1) := by decide +kernel
theorem dX5_idle_37 : decode cX5_idle 37 = .ok (.iconst 0, 1) := by decide +kernel
theorem dX5_idle_38 : decode cX5_idle 38 = .ok (.invokevirtual 152, 3) := by decide +kernel
theorem dX5_idle_41 : decode cX5_idle 41 = .ok (.ifCond .eq 7, 3) := by decide +kernel
theorem dX5_idle_44 : decode cX5_idle 44 = .ok (.iconst 0, 1) := by decide +kernel
theorem dX5_idle_45 : decode cX5_idle 45 = .ok (.goto 4, 3) := by decide +kernel
theorem dX5_idle_48 : decode cX5_idle 48 = .ok (.iconst 1, 1) := by decide +kernel
theorem dX5_idle_49 : decode cX5_idle 49 = .ok (.putfield 58, 3) := by decide +kernel
theorem dX5_idle_52 : decode cX5_idle 52 = .ok (.return_, 1) := by decide +kernel
set_option maxRecDepth 20000 in
theorem ggX5_isBucket_X5_buckets : GoodIn wsX5_isBucket wsX5_buckets := goodIn_r _ [4] (by decide +kernel) (by decide +kernel)
set_option maxRecDepth 20000 in
theorem gX5_isBucket_X5_buckets : GoodIn wsX5_isBucket (va_wsS RX5 65 yX5_buckets wsX5_buckets) := goodIn_app (goodIn_of _ (by decide +kernel)) ggX5_isBucket_X5_buckets
theorem dX5_isBucket_0 : decode cX5_isBucket 0 = .ok (.iload_n 0, 1) := by decide +kernel
theorem dX5_isBucket_1 : decode cX5_isBucket 1 = .ok (.ifCond .eq 8, 3) := by decide +kernel
theorem dX5_isBucket_4 : decode cX5_isBucket 4 = .ok (.iload_n 0, 1) := by decide +kernel
theorem dX5_isBucket_5 : decode cX5_isBucket 5 = .ok (.iconst 1, 1) := by decide +kernel
theorem dX5_isBucket_6 : decode cX5_isBucket 6 = .ok (.if_icmp .ne 19, 3) := by decide +kernel
theorem dX5_isBucket_9 : decode cX5_isBucket 9 = .ok (.iload_n 1, 1) := by decide +kernel
theorem dX5_isBucket_10 : decode cX5_isBucket 10 = .ok (.ifCond .lt 15, 3) := by decide +kernel
theorem dX5_isBucket_13 : decode cX5_isBucket 13 = .ok (.iload_n 1, 1) := by decide +kernel
theorem dX5_isBucket_14 : decode cX5_isBucket 14 = .ok (.iload_n 0, 1) := by decide +kernel
theorem dX5_isBucket_15 : decode cX5_isBucket 15 = .ok (.invokestatic 65, 3) := by decide +kernel
theorem dX5_isBucket_18 : decode cX5_isBucket 18 = .ok (.if_icmp .ge 7, 3) := by decide +kernel
theorem dX5_isBucket_21 : decode cX5_isBucket 21 = .ok (.iconst 1, 1) := by decide +kernel
theorem dX5_isBucket_22 : decode cX5_isBucket 22 = .ok (.goto 4, 3) := by decide +kernel
theorem dX5_isBucket_25 : decode cX5_isBucket 25 = .ok (.iconst 0, 1) := by decide +kernel
theorem dX5_isBucket_26 : decode cX5_isBucket 26 = .ok (.ireturn, 1) := by decide +kernel
set_option maxRecDepth 20000 in
theorem ggX5_sealed_X5_isBucket : GoodIn wsX5_sealed wsX5_isBucket := goodIn_r _ [6, 7, 8, 5, 9] (by decide +kernel) (by decide +kernel)
set_option maxRecDepth 20000 in
theorem gX5_sealed_X5_isBucket : GoodIn wsX5_sealed (va_wsS RX5 159 yX5_isBucket wsX5_isBucket) := goodIn_app (goodIn_of _ (by decide +kernel)) ggX5_sealed_X5_isBucket
set_option maxRecDepth 20000 in
theorem ggX5_sealed_X5_raise : GoodIn wsX5_sealed wsX5_raise := goodIn_r _ [13, 1, 17, 18, 19, 20, 21, 22, 23, 24, 25, 26, 27, 28, 29, 30, 31, 32, 33, 34, 35, 36] (by decide +kernel) (by decide +kernel)
set_option maxRecDepth 20000 in
theorem gX5_sealed_X5_raise : GoodIn wsX5_sealed (wsV RX5 156 RX5 yX5_raise wsX5_raise) := goodIn_app (goodIn_of _ (by decide +kernel)) ggX5_sealed_X5_raise
set_option maxRecDepth 20000 in
theorem ggX5_sealed_X5_place : GoodIn wsX5_sealed wsX5_place := goodIn_r _ [16] (by decide +kernel) (by decide +kernel)
set_option maxRecDepth 20000 in
theorem gX5_sealed_X5_place : GoodIn wsX5_sealed (va_wsS RX5 80 yX5_place wsX5_place) := goodIn_app (goodIn_of _ (by decide +kernel)) ggX5_sealed_X5_place
theorem dX5_sealed_0 : decode cX5_sealed 0 = .ok (.iload_n 1, 1) := by decide +kernel
theorem dX5_sealed_1 : decode cX5_sealed 1 = .ok (.iload_n 2, 1) := by decide +kernel
theorem dX5_sealed_2 : decode cX5_sealed 2 = .ok (.invokestatic 159, 3) := by decide +kernel
theorem dX5_sealed_5 : decode cX5_sealed 5 = .ok (.ifCond .eq 13, 3) := by decide +kernel
theorem dX5_sealed_8 : decode cX5_sealed 8 = .ok (.iload_n 3, 1) := by decide +kernel
theorem dX5_sealed_9 : decode cX5_sealed 9 = .ok (.ifCond .lt 9, 3) := by decide +kernel
theorem dX5_sealed_12 : decode cX5_sealed 12 = .ok (.iload_n 3, 1) := by decide +kernel
theorem dX5_sealed_13 : decode cX5_sealed 13 = .ok (.bipush 25, 2) := by decide +kernel
theorem dX5_sealed_15 : decode cX5_sealed 15 = .ok (.if_icmp .lt 9, 3) := by decide +kernel
theorem dX5_sealed_18 : decode cX5_sealed 18 = .ok (.aload_n 0, 1) := by decide +kernel
theorem dX5_sealed_19 : decode cX5_sealed 19 = .ok (.iconst 1, 1) := by decide +kernel
theorem dX5_sealed_20 : decode cX5_sealed 20 = .ok (.invokevirtual 156, 3) := by decide +kernel
theorem dX5_sealed_23 : decode cX5_sealed 23 = .ok (.ireturn, 1) := by decide +kernel
theorem dX5_sealed_24 : decode cX5_sealed 24 = .ok (.aload_n 0, 1) := by decide +kernel
theorem dX5_sealed_25 : decode cX5_sealed 25 = .ok (.iconst 0, 1) := by decide +kernel
theorem dX5_sealed_26 : decode cX5_sealed 26 = .ok (.putfield 58, 3) := by decide +kernel
theorem dX5_sealed_29 : decode cX5_sealed 29 = .ok (.aload_n 0, 1) := by decide +kernel
theorem dX5_sealed_30 : decode cX5_sealed 30 = .ok (.getfield 7, 3) := by decide +kernel
theorem dX5_sealed_33 : decode cX5_sealed 33 = .ok (.bipush 25, 2) := by decide +kernel
theorem dX5_sealed_35 : decode cX5_sealed 35 = .ok (.iload_n 1, 1) := by decide +kernel
theorem dX5_sealed_36 : decode cX5_sealed 36 = .ok (.iload_n 2, 1) := by decide +kernel
theorem dX5_sealed_37 : decode cX5_sealed 37 = .ok (.invokestatic 80, 3) := by decide +kernel
theorem dX5_sealed_40 : decode cX5_sealed 40 = .ok (.imul, 1) := by decide +kernel
theorem dX5_sealed_41 : decode cX5_sealed 41 = .ok (.iload_n 3, 1) := by decide +kernel
theorem dX5_sealed_42 : decode cX5_sealed 42 = .ok (.iadd, 1) := by decide +kernel
theorem dX5_sealed_43 : decode cX5_sealed 43 = .ok (.iaload, 1) := by decide +kernel
theorem dX5_sealed_44 : decode cX5_sealed 44 = .ok (.ireturn, 1) := by decide +kernel
set_option maxRecDepth 20000 in
theorem ggX5_alter_X5_isBucket : GoodIn wsX5_alter wsX5_isBucket := goodIn_r _ [6, 7, 8, 5, 9] (by decide +kernel) (by decide +kernel)
set_option maxRecDepth 20000 in
theorem gX5_alter_X5_isBucket : GoodIn wsX5_alter (va_wsS RX5 159 yX5_isBucket wsX5_isBucket) := goodIn_app (goodIn_of _ (by decide +kernel)) ggX5_alter_X5_isBucket
set_option maxRecDepth 20000 in
theorem ggX5_alter_X5_place : GoodIn wsX5_alter wsX5_place := goodIn_r _ [12] (by decide +kernel) (by decide +kernel)
set_option maxRecDepth 20000 in
theorem gX5_alter_X5_place : GoodIn wsX5_alter (va_wsS RX5 80 yX5_place wsX5_place) := goodIn_app (goodIn_of _ (by decide +kernel)) ggX5_alter_X5_place
set_option maxRecDepth 20000 in
theorem ggX5_alter_X5_tag : GoodIn wsX5_alter wsX5_tag := goodIn_r _ [16, 2, 17, 18, 19, 20, 5, 21, 22, 23, 24, 25, 26, 27, 28, 10, 11, 12, 29, 30, 31, 32, 33, 34, 35, 36, 37, 38, 39, 40, 41, 42, 43, 44, 45, 46, 47, 48] (by decide +kernel) (by decide +kernel)
set_option maxRecDepth 20000 in
theorem gX5_alter_X5_tag : GoodIn wsX5_alter (wsV RX5 92 RX5 yX5_tag wsX5_tag) := goodIn_app (goodIn_of _ (by decide +kernel)) ggX5_alter_X5_tag
theorem dX5_alter_0 : decode cX5_alter 0 = .ok (.aload_n 0, 1) := by decide +kernel
theorem dX5_alter_1 : decode cX5_alter 1 = .ok (.iconst 0, 1) := by decide +kernel
theorem dX5_alter_2 : decode cX5_alter 2 = .ok (.putfield 58, 3) := by decide +kernel
theorem dX5_alter_5 : decode cX5_alter 5 = .ok (.iload_n 1, 1) := by decide +kernel
theorem dX5_alter_6 : decode cX5_alter 6 = .ok (.iload_n 2, 1) := by decide +kernel
theorem dX5_alter_7 : decode cX5_alter 7 = .ok (.invokestatic 159, 3) := by decide +kernel
theorem dX5_alter_10 : decode cX5_alter 10 = .ok (.ifCond .eq 13, 3) := by decide +kernel
theorem dX5_alter_13 : decode cX5_alter 13 = .ok (.iload_n 3, 1) := by decide +kernel
theorem dX5_alter_14 : decode cX5_alter 14 = .ok (.ifCond .lt 9, 3) := by decide +kernel
theorem dX5_alter_17 : decode cX5_alter 17 = .ok (.iload_n 3, 1) := by decide +kernel
theorem dX5_alter_18 : decode cX5_alter 18 = .ok (.bipush 25, 2) := by decide +kernel
theorem dX5_alter_20 : decode cX5_alter 20 = .ok (.if_icmp .lt 5, 3) := by decide +kernel
theorem dX5_alter_23 : decode cX5_alter 23 = .ok (.iconst 0, 1) := by decide +kernel
theorem dX5_alter_24 : decode cX5_alter 24 = .ok (.ireturn, 1) := by decide +kernel
theorem dX5_alter_25 : decode cX5_alter 25 = .ok (.bipush 25, 2) := by decide +kernel
theorem dX5_alter_27 : decode cX5_alter 27 = .ok (.iload_n 1, 1) := by decide +kernel
theorem dX5_alter_28 : decode cX5_alter 28 = .ok (.iload_n 2, 1) := by decide +kernel
theorem dX5_alter_29 : decode cX5_alter 29 = .ok (.invokestatic 80, 3) := by decide +kernel
theorem dX5_alter_32 : decode cX5_alter 32 = .ok (.imul, 1) := by decide +kernel
theorem dX5_alter_33 : decode cX5_alter 33 = .ok (.istore 5, 2) := by decide +kernel
theorem dX5_alter_35 : decode cX5_alter 35 = .ok (.aload_n 0, 1) := by decide +kernel
theorem dX5_alter_36 : decode cX5_alter 36 = .ok (.getfield 7, 3) := by decide +kernel
theorem dX5_alter_39 : decode cX5_alter 39 = .ok (.iload 5, 2) := by decide +kernel
theorem dX5_alter_41 : decode cX5_alter 41 = .ok (.iload_n 3, 1) := by decide +kernel
theorem dX5_alter_42 : decode cX5_alter 42 = .ok (.iadd, 1) := by decide +kernel
theorem dX5_alter_43 : decode cX5_alter 43 = .ok (.iaload, 1) := by decide +kernel
theorem dX5_alter_44 : decode cX5_alter 44 = .ok (.istore 6, 2) := by decide +kernel
theorem dX5_alter_46 : decode cX5_alter 46 = .ok (.aload_n 0, 1) := by decide +kernel
theorem dX5_alter_47 : decode cX5_alter 47 = .ok (.getfield 7, 3) := by decide +kernel
theorem dX5_alter_50 : decode cX5_alter 50 = .ok (.iload 5, 2) := by decide +kernel
theorem dX5_alter_52 : decode cX5_alter 52 = .ok (.iload_n 3, 1) := by decide +kernel
theorem dX5_alter_53 : decode cX5_alter 53 = .ok (.iadd, 1) := by decide +kernel
theorem dX5_alter_54 : decode cX5_alter 54 = .ok (.iload 4, 2) := by decide +kernel
theorem dX5_alter_56 : decode cX5_alter 56 = .ok (.iastore, 1) := by decide +kernel
theorem dX5_alter_57 : decode cX5_alter 57 = .ok (.aload_n 0, 1) := by decide +kernel
theorem dX5_alter_58 : decode cX5_alter 58 = .ok (.getfield 7, 3) := by decide +kernel
theorem dX5_alter_61 : decode cX5_alter 61 = .ok (.iload 5, 2) := by decide +kernel
theorem dX5_alter_63 : decode cX5_alter 63 = .ok (.bipush 24, 2) := by decide +kernel
theorem dX5_alter_65 : decode cX5_alter 65 = .ok (.iadd, 1) := by decide +kernel
theorem dX5_alter_66 : decode cX5_alter 66 = .ok (.iaload, 1) := by decide +kernel
theorem dX5_alter_67 : decode cX5_alter 67 = .ok (.aload_n 0, 1) := by decide +kernel
theorem dX5_alter_68 : decode cX5_alter 68 = .ok (.iload_n 1, 1) := by decide +kernel
theorem dX5_alter_69 : decode cX5_alter 69 = .ok (.iload_n 2, 1) := by decide +kernel
theorem dX5_alter_70 : decode cX5_alter 70 = .ok (.invokevirtual 92, 3) := by decide +kernel
theorem dX5_alter_73 : decode cX5_alter 73 = .ok (.if_icmp .ne 7, 3) := by decide +kernel
theorem dX5_alter_76 : decode cX5_alter 76 = .ok (.iconst 1, 1) := by decide +kernel
theorem dX5_alter_77 : decode cX5_alter 77 = .ok (.goto 4, 3) := by decide +kernel
theorem dX5_alter_80 : decode cX5_alter 80 = .ok (.iconst 0, 1) := by decide +kernel
theorem dX5_alter_81 : decode cX5_alter 81 = .ok (.istore 7, 2) := by decide +kernel
theorem dX5_alter_83 : decode cX5_alter 83 = .ok (.iload 7, 2) := by decide +kernel
theorem dX5_alter_85 : decode cX5_alter 85 = .ok (.ifCond .eq 14, 3) := by decide +kernel
theorem dX5_alter_88 : decode cX5_alter 88 = .ok (.aload_n 0, 1) := by decide +kernel
theorem dX5_alter_89 : decode cX5_alter 89 = .ok (.getfield 7, 3) := by decide +kernel
theorem dX5_alter_92 : decode cX5_alter 92 = .ok (.iload 5, 2) := by decide +kernel
theorem dX5_alter_94 : decode cX5_alter 94 = .ok (.iload_n 3, 1) := by decide +kernel
theorem dX5_alter_95 : decode cX5_alter 95 = .ok (.iadd, 1) := by decide +kernel
theorem dX5_alter_96 : decode cX5_alter 96 = .ok (.iload 6, 2) := by decide +kernel
theorem dX5_alter_98 : decode cX5_alter 98 = .ok (.iastore, 1) := by decide +kernel
theorem dX5_alter_99 : decode cX5_alter 99 = .ok (.iload 7, 2) := by decide +kernel
theorem dX5_alter_101 : decode cX5_alter 101 = .ok (.ifCond .ne 7, 3) := by decide +kernel
theorem dX5_alter_104 : decode cX5_alter 104 = .ok (.iconst 1, 1) := by decide +kernel
theorem dX5_alter_105 : decode cX5_alter 105 = .ok (.goto 4, 3) := by decide +kernel
theorem dX5_alter_108 : decode cX5_alter 108 = .ok (.iconst 0, 1) := by decide +kernel
theorem dX5_alter_109 : decode cX5_alter 109 = .ok (.ireturn, 1) := by decide +kernel
set_option maxRecDepth 20000 in
theorem ggX5_counter_X5_isBucket : GoodIn wsX5_counter wsX5_isBucket := goodIn_r _ [6, 7, 8, 5, 9] (by decide +kernel) (by decide +kernel)
set_option maxRecDepth 20000 in
theorem gX5_counter_X5_isBucket : GoodIn wsX5_counter (va_wsS RX5 159 yX5_isBucket wsX5_isBucket) := goodIn_app (goodIn_of _ (by decide +kernel)) ggX5_counter_X5_isBucket
set_option maxRecDepth 20000 in
theorem ggX5_counter_X5_place : GoodIn wsX5_counter wsX5_place := goodIn_r _ [12] (by decide +kernel) (by decide +kernel)
set_option maxRecDepth 20000 in
theorem gX5_counter_X5_place : GoodIn wsX5_counter (va_wsS RX5 80 yX5_place wsX5_place) := goodIn_app (goodIn_of _ (by decide +kernel)) ggX5_counter_X5_place
theorem dX5_counter_0 : decode cX5_counter 0 = .ok (.aload_n 0, 1) := by decide +kernel
theorem dX5_counter_1 : decode cX5_counter 1 = .ok (.iconst 0, 1) := by decide +kernel
theorem dX5_counter_2 : decode cX5_counter 2 = .ok (.putfield 58, 3) := by decide +kernel
theorem dX5_counter_5 : decode cX5_counter 5 = .ok (.iload_n 1, 1) := by decide +kernel
theorem dX5_counter_6 : decode cX5_counter 6 = .ok (.iload_n 2, 1) := by decide +kernel
theorem dX5_counter_7 : decode cX5_counter 7 = .ok (.invokestatic 159, 3) := by decide +kernel
theorem dX5_counter_10 : decode cX5_counter 10 = .ok (.ifCond .eq 16, 3) := by decide +kernel
theorem dX5_counter_13 : decode cX5_counter 13 = .ok (.aload_n 0, 1) := by decide +kernel
theorem dX5_counter_14 : decode cX5_counter 14 = .ok (.getfield 13, 3) := by decide +kernel
theorem dX5_counter_17 : decode cX5_counter 17 = .ok (.iload_n 1, 1) := by decide +kernel
theorem dX5_counter_18 : decode cX5_counter 18 = .ok (.iload_n 2, 1) := by decide +kernel
theorem dX5_counter_19 : decode cX5_counter 19 = .ok (.invokestatic 80, 3) := by decide +kernel
theorem dX5_counter_22 : decode cX5_counter 22 = .ok (.iaload, 1) := by decide +kernel
theorem dX5_counter_23 : decode cX5_counter 23 = .ok (.goto 4, 3) := by decide +kernel
theorem dX5_counter_26 : decode cX5_counter 26 = .ok (.iconst (-1), 1) := by decide +kernel
theorem dX5_counter_27 : decode cX5_counter 27 = .ok (.ireturn, 1) := by decide +kernel
theorem dX5_trace_0 : decode cX5_trace 0 = .ok (.aload_n 0, 1) := by decide +kernel
theorem dX5_trace_1 : decode cX5_trace 1 = .ok (.iconst 0, 1) := by decide +kernel
theorem dX5_trace_2 : decode cX5_trace 2 = .ok (.putfield 58, 3) := by decide +kernel
theorem dX5_trace_5 : decode cX5_trace 5 = .ok (.iload_n 1, 1) := by decide +kernel
theorem dX5_trace_6 : decode cX5_trace 6 = .ok (.ifCond .lt 26, 3) := by decide +kernel
theorem dX5_trace_9 : decode cX5_trace 9 = .ok (.iload_n 1, 1) := by decide +kernel
theorem dX5_trace_10 : decode cX5_trace 10 = .ok (.aload_n 0, 1) := by decide +kernel
theorem dX5_trace_11 : decode cX5_trace 11 = .ok (.getfield 124, 3) := by decide +kernel
theorem dX5_trace_14 : decode cX5_trace 14 = .ok (.if_icmp .ge 18, 3) := by decide +kernel
theorem dX5_trace_17 : decode cX5_trace 17 = .ok (.iload_n 1, 1) := by decide +kernel
theorem dX5_trace_18 : decode cX5_trace 18 = .ok (.bipush 64, 2) := by decide +kernel
theorem dX5_trace_20 : decode cX5_trace 20 = .ok (.if_icmp .ge 12, 3) := by decide +kernel
theorem dX5_trace_23 : decode cX5_trace 23 = .ok (.iload_n 2, 1) := by decide +kernel
theorem dX5_trace_24 : decode cX5_trace 24 = .ok (.ifCond .lt 8, 3) := by decide +kernel
theorem dX5_trace_27 : decode cX5_trace 27 = .ok (.iload_n 2, 1) := by decide +kernel
theorem dX5_trace_28 : decode cX5_trace 28 = .ok (.iconst 1, 1) := by decide +kernel
theorem dX5_trace_29 : decode cX5_trace 29 = .ok (.if_icmp .le 5, 3) := by decide +kernel
theorem dX5_trace_32 : decode cX5_trace 32 = .ok (.iconst (-1), 1) := by decide +kernel
theorem dX5_trace_33 : decode cX5_trace 33 = .ok (.ireturn, 1) := by decide +kernel
theorem dX5_trace_34 : decode cX5_trace 34 = .ok (.aload_n 0, 1) := by decide +kernel
theorem dX5_trace_35 : decode cX5_trace 35 = .ok (.getfield 124, 3) := by decide +kernel
theorem dX5_trace_38 : decode cX5_trace 38 = .ok (.iconst 1, 1) := by decide +kernel
theorem dX5_trace_39 : decode cX5_trace 39 = .ok (.isub, 1) := by decide +kernel
theorem dX5_trace_40 : decode cX5_trace 40 = .ok (.iload_n 1, 1) := by decide +kernel
theorem dX5_trace_41 : decode cX5_trace 41 = .ok (.isub, 1) := by decide +kernel
theorem dX5_trace_42 : decode cX5_trace 42 = .ok (.bipush 64, 2) := by decide +kernel
theorem dX5_trace_44 : decode cX5_trace 44 = .ok (.irem, 1) := by decide +kernel
theorem dX5_trace_45 : decode cX5_trace 45 = .ok (.istore_n 3, 1) := by decide +kernel
theorem dX5_trace_46 : decode cX5_trace 46 = .ok (.iload_n 2, 1) := by decide +kernel
theorem dX5_trace_47 : decode cX5_trace 47 = .ok (.ifCond .ne 12, 3) := by decide +kernel
theorem dX5_trace_50 : decode cX5_trace 50 = .ok (.aload_n 0, 1) := by decide +kernel
theorem dX5_trace_51 : decode cX5_trace 51 = .ok (.getfield 32, 3) := by decide +kernel
theorem dX5_trace_54 : decode cX5_trace 54 = .ok (.iload_n 3, 1) := by decide +kernel
theorem dX5_trace_55 : decode cX5_trace 55 = .ok (.iaload, 1) := by decide +kernel
theorem dX5_trace_56 : decode cX5_trace 56 = .ok (.goto 9, 3) := by decide +kernel
theorem dX5_trace_59 : decode cX5_trace 59 = .ok (.aload_n 0, 1) := by decide +kernel
theorem dX5_trace_60 : decode cX5_trace 60 = .ok (.getfield 35, 3) := by decide +kernel
theorem dX5_trace_63 : decode cX5_trace 63 = .ok (.iload_n 3, 1) := by decide +kernel
theorem dX5_trace_64 : decode cX5_trace 64 = .ok (.iaload, 1) := by decide +kernel
theorem dX5_trace_65 : decode cX5_trace 65 = .ok (.ireturn, 1) := by decide +kernel
set_option maxRecDepth 20000 in
theorem ggX5_stash_X5_blocks : GoodIn wsX5_stash wsX5_blocks := goodIn_r _ [6] (by decide +kernel) (by decide +kernel)
set_option maxRecDepth 20000 in
theorem gX5_stash_X5_blocks : GoodIn wsX5_stash (va_wsS RX5 105 yX5_blocks wsX5_blocks) := goodIn_app (goodIn_of _ (by decide +kernel)) ggX5_stash_X5_blocks
set_option maxRecDepth 20000 in
theorem ggX5_stash_X5_first : GoodIn wsX5_stash wsX5_first := goodIn_r _ [9] (by decide +kernel) (by decide +kernel)
set_option maxRecDepth 20000 in
theorem gX5_stash_X5_first : GoodIn wsX5_stash (va_wsS RX5 95 yX5_first wsX5_first) := goodIn_app (goodIn_of _ (by decide +kernel)) ggX5_stash_X5_first
theorem dX5_stash_0 : decode cX5_stash 0 = .ok (.aload_n 0, 1) := by decide +kernel
theorem dX5_stash_1 : decode cX5_stash 1 = .ok (.iconst 0, 1) := by decide +kernel
theorem dX5_stash_2 : decode cX5_stash 2 = .ok (.putfield 58, 3) := by decide +kernel
theorem dX5_stash_5 : decode cX5_stash 5 = .ok (.iload_n 1, 1) := by decide +kernel
theorem dX5_stash_6 : decode cX5_stash 6 = .ok (.ifCond .eq 10, 3) := by decide +kernel
theorem dX5_stash_9 : decode cX5_stash 9 = .ok (.iload_n 1, 1) := by decide +kernel
theorem dX5_stash_10 : decode cX5_stash 10 = .ok (.iconst 1, 1) := by decide +kernel
theorem dX5_stash_11 : decode cX5_stash 11 = .ok (.if_icmp .eq 5, 3) := by decide +kernel
theorem dX5_stash_14 : decode cX5_stash 14 = .ok (.iconst (-1), 1) := by decide +kernel
theorem dX5_stash_15 : decode cX5_stash 15 = .ok (.ireturn, 1) := by decide +kernel
theorem dX5_stash_16 : decode cX5_stash 16 = .ok (.iconst 0, 1) := by decide +kernel
theorem dX5_stash_17 : decode cX5_stash 17 = .ok (.istore_n 2, 1) := by decide +kernel
theorem dX5_stash_18 : decode cX5_stash 18 = .ok (.iconst 0, 1) := by decide +kernel
theorem dX5_stash_19 : decode cX5_stash 19 = .ok (.istore_n 3, 1) := by decide +kernel
theorem dX5_stash_20 : decode cX5_stash 20 = .ok (.iload_n 3, 1) := by decide +kernel
theorem dX5_stash_21 : decode cX5_stash 21 = .ok (.iload_n 1, 1) := by decide +kernel
theorem dX5_stash_22 : decode cX5_stash 22 = .ok (.invokestatic 105, 3) := by decide +kernel
theorem dX5_stash_25 : decode cX5_stash 25 = .ok (.if_icmp .ge 31, 3) := by decide +kernel
theorem dX5_stash_28 : decode cX5_stash 28 = .ok (.iload_n 2, 1) := by decide +kernel
theorem dX5_stash_29 : decode cX5_stash 29 = .ok (.aload_n 0, 1) := by decide +kernel
theorem dX5_stash_30 : decode cX5_stash 30 = .ok (.getfield 16, 3) := by decide +kernel
theorem dX5_stash_33 : decode cX5_stash 33 = .ok (.iload_n 1, 1) := by decide +kernel
theorem dX5_stash_34 : decode cX5_stash 34 = .ok (.invokestatic 95, 3) := by decide +kernel
theorem dX5_stash_37 : decode cX5_stash 37 = .ok (.iload_n 3, 1) := by decide +kernel
theorem dX5_stash_38 : decode cX5_stash 38 = .ok (.iadd, 1) := by decide +kernel
theorem dX5_stash_39 : decode cX5_stash 39 = .ok (.baload, 1) := by decide +kernel
theorem dX5_stash_40 : decode cX5_stash 40 = .ok (.ifCond .eq 7, 3) := by decide +kernel
theorem dX5_stash_43 : decode cX5_stash 43 = .ok (.iconst 1, 1) := by decide +kernel
theorem dX5_stash_44 : decode cX5_stash 44 = .ok (.goto 4, 3) := by decide +kernel
theorem dX5_stash_47 : decode cX5_stash 47 = .ok (.iconst 0, 1) := by decide +kernel
theorem dX5_stash_48 : decode cX5_stash 48 = .ok (.iadd, 1) := by decide +kernel
theorem dX5_stash_49 : decode cX5_stash 49 = .ok (.istore_n 2, 1) := by decide +kernel
theorem dX5_stash_50 : decode cX5_stash 50 = .ok (.iinc 3 1, 3) := by decide +kernel
theorem dX5_stash_53 : decode cX5_stash 53 = .ok (.goto (-33), 3) := by decide +kernel
theorem dX5_stash_56 : decode cX5_stash 56 = .ok (.iload_n 2, 1) := by decide +kernel
theorem dX5_stash_57 : decode cX5_stash 57 = .ok (.ireturn, 1) := by decide +kernel
theorem dX5_state_0 : decode cX5_state 0 = .ok (.aload_n 0, 1) := by decide +kernel
theorem dX5_state_1 : decode cX5_state 1 = .ok (.iconst 0, 1) := by decide +kernel
theorem dX5_state_2 : decode cX5_state 2 = .ok (.putfield 58, 3) := by decide +kernel
theorem dX5_state_5 : decode cX5_state 5 = .ok (.iconst 0, 1) := by decide +kernel
theorem dX5_state_6 : decode cX5_state 6 = .ok (.istore_n 2, 1) := by decide +kernel
theorem dX5_state_7 : decode cX5_state 7 = .ok (.iconst 0, 1) := by decide +kernel
theorem dX5_state_8 : decode cX5_state 8 = .ok (.istore_n 3, 1) := by decide +kernel
theorem dX5_state_9 : decode cX5_state 9 = .ok (.iconst 0, 1) := by decide +kernel
theorem dX5_state_10 : decode cX5_state 10 = .ok (.istore 4, 2) := by decide +kernel
theorem dX5_state_12 : decode cX5_state 12 = .ok (.iload 4, 2) := by decide +kernel
theorem dX5_state_14 : decode cX5_state 14 = .ok (.bipush 8, 2) := by decide +kernel
theorem dX5_state_16 : decode cX5_state 16 = .ok (.if_icmp .ge 27, 3) := by decide +kernel
theorem dX5_state_19 : decode cX5_state 19 = .ok (.iload_n 2, 1) := by decide +kernel
theorem dX5_state_20 : decode cX5_state 20 = .ok (.aload_n 0, 1) := by decide +kernel
theorem dX5_state_21 : decode cX5_state 21 = .ok (.getfield 38, 3) := by decide +kernel
theorem dX5_state_24 : decode cX5_state 24 = .ok (.iload 4, 2) := by decide +kernel
theorem dX5_state_26 : decode cX5_state 26 = .ok (.baload, 1) := by decide +kernel
theorem dX5_state_27 : decode cX5_state 27 = .ok (.ifCond .eq 7, 3) := by decide +kernel
theorem dX5_state_30 : decode cX5_state 30 = .ok (.iconst 1, 1) := by decide +kernel
theorem dX5_state_31 : decode cX5_state 31 = .ok (.goto 4, 3) := by decide +kernel
theorem dX5_state_34 : decode cX5_state 34 = .ok (.iconst 0, 1) := by decide +kernel
theorem dX5_state_35 : decode cX5_state 35 = .ok (.iadd, 1) := by decide +kernel
theorem dX5_state_36 : decode cX5_state 36 = .ok (.istore_n 2, 1) := by decide +kernel
theorem dX5_state_37 : decode cX5_state 37 = .ok (.iinc 4 1, 3) := by decide +kernel
theorem dX5_state_40 : decode cX5_state 40 = .ok (.goto (-28), 3) := by decide +kernel
theorem dX5_state_43 : decode cX5_state 43 = .ok (.iconst 0, 1) := by decide +kernel
theorem dX5_state_44 : decode cX5_state 44 = .ok (.istore 4, 2) := by decide +kernel
theorem dX5_state_46 : decode cX5_state 46 = .ok (.iload 4, 2) := by decide +kernel
theorem dX5_state_48 : decode cX5_state 48 = .ok (.bipush 64, 2) := by decide +kernel
theorem dX5_state_50 : decode cX5_state 50 = .ok (.if_icmp .ge 27, 3) := by decide +kernel
theorem dX5_state_53 : decode cX5_state 53 = .ok (.iload_n 3, 1) := by decide +kernel
theorem dX5_state_54 : decode cX5_state 54 = .ok (.aload_n 0, 1) := by decide +kernel
theorem dX5_state_55 : decode cX5_state 55 = .ok (.getfield 51, 3) := by decide +kernel
theorem dX5_state_58 : decode cX5_state 58 = .ok (.iload 4, 2) := by decide +kernel
theorem dX5_state_60 : decode cX5_state 60 = .ok (.baload, 1) := by decide +kernel
theorem dX5_state_61 : decode cX5_state 61 = .ok (.ifCond .eq 7, 3) := by decide +kernel
theorem dX5_state_64 : decode cX5_state 64 = .ok (.iconst 0, 1) := by decide +kernel
theorem dX5_state_65 : decode cX5_state 65 = .ok (.goto 4, 3) := by decide +kernel
theorem dX5_state_68 : decode cX5_state 68 = .ok (.iconst 1, 1) := by decide +kernel
theorem dX5_state_69 : decode cX5_state 69 = .ok (.iadd, 1) := by decide +kernel
theorem dX5_state_70 : decode cX5_state 70 = .ok (.istore_n 3, 1) := by decide +kernel
theorem dX5_state_71 : decode cX5_state 71 = .ok (.iinc 4 1, 3) := by decide +kernel
theorem dX5_state_74 : decode cX5_state 74 = .ok (.goto (-28), 3) := by decide +kernel
theorem dX5_state_77 : decode cX5_state 77 = .ok (.iload_n 1, 1) := by decide +kernel
theorem dX5_state_78 : decode cX5_state 78 = .ok (.tableswitch 52 0 3 #[30, 35, 37, 39], 30) := by decide +kernel
theorem dX5_state_108 : decode cX5_state 108 = .ok (.aload_n 0, 1) := by decide +kernel
theorem dX5_state_109 : decode cX5_state 109 = .ok (.getfield 124, 3) := by decide +kernel
theorem dX5_state_112 : decode cX5_state 112 = .ok (.ireturn, 1) := by decide +kernel
theorem dX5_state_113 : decode cX5_state 113 = .ok (.iload_n 2, 1) := by decide +kernel
theorem dX5_state_114 : decode cX5_state 114 = .ok (.ireturn, 1) := by decide +kernel
theorem dX5_state_115 : decode cX5_state 115 = .ok (.iload_n 3, 1) := by decide +kernel
theorem dX5_state_116 : decode cX5_state 116 = .ok (.ireturn, 1) := by decide +kernel
theorem dX5_state_117 : decode cX5_state 117 = .ok (.aload_n 0, 1) := by decide +kernel
theorem dX5_state_118 : decode cX5_state 118 = .ok (.getfield 131, 3) := by decide +kernel
theorem dX5_state_121 : decode cX5_state 121 = .ok (.ifCond .eq 7, 3) := by decide +kernel
theorem dX5_state_124 : decode cX5_state 124 = .ok (.iconst 1, 1) := by decide +kernel
theorem dX5_state_125 : decode cX5_state 125 = .ok (.goto 4, 3) := by decide +kernel
theorem dX5_state_128 : decode cX5_state 128 = .ok (.iconst 0, 1) := by decide +kernel
theorem dX5_state_129 : decode cX5_state 129 = .ok (.ireturn, 1) := by decide +kernel
theorem dX5_state_130 : decode cX5_state 130 = .ok (.iconst (-1), 1) := by decide +kernel
theorem dX5_state_131 : decode cX5_state 131 = .ok (.ireturn, 1) := by decide +kernel
theorem dJ7_fill_53178_0 : decode cJ7_fill_53178 0 = .ok (.iconst 0, 1) := by decide +kernel
theorem dJ7_fill_53178_1 : decode cJ7_fill_53178 1 = .ok (.istore_n 2, 1) := by decide +kernel
theorem dJ7_fill_53178_2 : decode cJ7_fill_53178 2 = .ok (.aload_n 0, 1) := by decide +kernel
theorem dJ7_fill_53178_3 : decode cJ7_fill_53178 3 = .ok (.arraylength, 1) := by decide +kernel
theorem dJ7_fill_53178_4 : decode cJ7_fill_53178 4 = .ok (.istore_n 3, 1) := by decide +kernel
theorem dJ7_fill_53178_5 : decode cJ7_fill_53178 5 = .ok (.iload_n 2, 1) := by decide +kernel
theorem dJ7_fill_53178_6 : decode cJ7_fill_53178 6 = .ok (.iload_n 3, 1) := by decide +kernel
theorem dJ7_fill_53178_7 : decode cJ7_fill_53178 7 = .ok (.if_icmp .ge 13, 3) := by decide +kernel
theorem dJ7_fill_53178_10 : decode cJ7_fill_53178 10 = .ok (.aload_n 0, 1) := by decide +kernel
theorem dJ7_fill_53178_11 : decode cJ7_fill_53178 11 = .ok (.iload_n 2, 1) := by decide +kernel
theorem dJ7_fill_53178_12 : decode cJ7_fill_53178 12 = .ok (.iload_n 1, 1) := by decide +kernel
theorem dJ7_fill_53178_13 : decode cJ7_fill_53178 13 = .ok (.iastore, 1) := by decide +kernel
theorem dJ7_fill_53178_14 : decode cJ7_fill_53178 14 = .ok (.iinc 2 1, 3) := by decide +kernel
theorem dJ7_fill_53178_17 : decode cJ7_fill_53178 17 = .ok (.goto (-12), 3) := by decide +kernel
theorem dJ7_fill_53178_20 : decode cJ7_fill_53178 20 = .ok (.return_, 1) := by decide +kernel

abbrev vwCl : List vw_C := [(RX0, TX0, 4), (RX1, TX1, 1), (RX2, TX2, 3), (RX3, TX3, 11), (RX4, TX4, 7), (RX5, TX5, 20)]

