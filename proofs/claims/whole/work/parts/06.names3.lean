theorem dX5_pad_7 : decode cX5_pad 7 = .ok (.imul, 1) := by decide +kernel
theorem dX5_pad_8 : decode cX5_pad 8 = .ok (.iload_n 2, 1) := by decide +kernel
theorem dX5_pad_9 : decode cX5_pad 9 = .ok (.iadd, 1) := by decide +kernel
theorem dX5_pad_10 : decode cX5_pad 10 = .ok (.iconst 1, 1) := by decide +kernel
theorem dX5_pad_11 : decode cX5_pad 11 = .ok (.iadd, 1) := by decide +kernel
theorem dX5_pad_12 : decode cX5_pad 12 = .ok (.ldc 79, 2) := by decide +kernel
theorem dX5_pad_14 : decode cX5_pad 14 = .ok (.imul, 1) := by decide +kernel
theorem dX5_pad_15 : decode cX5_pad 15 = .ok (.ixor, 1) := by decide +kernel
theorem dX5_pad_16 : decode cX5_pad 16 = .ok (.aload_n 0, 1) := by decide +kernel
theorem dX5_pad_17 : decode cX5_pad 17 = .ok (.getfield 13, 3) := by decide +kernel
theorem dX5_pad_20 : decode cX5_pad 20 = .ok (.iload_n 1, 1) := by decide +kernel
theorem dX5_pad_21 : decode cX5_pad 21 = .ok (.iload_n 2, 1) := by decide +kernel
theorem dX5_pad_22 : decode cX5_pad 22 = .ok (.invokestatic 80, 3) := by decide +kernel
theorem dX5_pad_25 : decode cX5_pad 25 = .ok (.iaload, 1) := by decide +kernel
theorem dX5_pad_26 : decode cX5_pad 26 = .ok (.ldc 84, 2) := by decide +kernel
theorem dX5_pad_28 : decode cX5_pad 28 = .ok (.imul, 1) := by decide +kernel
theorem dX5_pad_29 : decode cX5_pad 29 = .ok (.ixor, 1) := by decide +kernel
theorem dX5_pad_30 : decode cX5_pad 30 = .ok (.iload_n 3, 1) := by decide +kernel
theorem dX5_pad_31 : decode cX5_pad 31 = .ok (.iconst 1, 1) := by decide +kernel
theorem dX5_pad_32 : decode cX5_pad 32 = .ok (.iadd, 1) := by decide +kernel
theorem dX5_pad_33 : decode cX5_pad 33 = .ok (.ldc 85, 2) := by decide +kernel
theorem dX5_pad_35 : decode cX5_pad 35 = .ok (.imul, 1) := by decide +kernel
theorem dX5_pad_36 : decode cX5_pad 36 = .ok (.ixor, 1) := by decide +kernel
theorem dX5_pad_37 : decode cX5_pad 37 = .ok (.istore 4, 2) := by decide +kernel
theorem dX5_pad_39 : decode cX5_pad 39 = .ok (.iload 4, 2) := by decide +kernel
theorem dX5_pad_41 : decode cX5_pad 41 = .ok (.iload 4, 2) := by decide +kernel
theorem dX5_pad_43 : decode cX5_pad 43 = .ok (.bipush 15, 2) := by decide +kernel
theorem dX5_pad_45 : decode cX5_pad 45 = .ok (.iushr, 1) := by decide +kernel
theorem dX5_pad_46 : decode cX5_pad 46 = .ok (.ixor, 1) := by decide +kernel
theorem dX5_pad_47 : decode cX5_pad 47 = .ok (.istore 4, 2) := by decide +kernel
theorem dX5_pad_49 : decode cX5_pad 49 = .ok (.iload 4, 2) := by decide +kernel
theorem dX5_pad_51 : decode cX5_pad 51 = .ok (.ldc 86, 2) := by decide +kernel
theorem dX5_pad_53 : decode cX5_pad 53 = .ok (.imul, 1) := by decide +kernel
theorem dX5_pad_54 : decode cX5_pad 54 = .ok (.istore 4, 2) := by decide +kernel
theorem dX5_pad_56 : decode cX5_pad 56 = .ok (.iload 4, 2) := by decide +kernel
theorem dX5_pad_58 : decode cX5_pad 58 = .ok (.iload 4, 2) := by decide +kernel
theorem dX5_pad_60 : decode cX5_pad 60 = .ok (.bipush 12, 2) := by decide +kernel
theorem dX5_pad_62 : decode cX5_pad 62 = .ok (.iushr, 1) := by decide +kernel
theorem dX5_pad_63 : decode cX5_pad 63 = .ok (.ixor, 1) := by decide +kernel
theorem dX5_pad_64 : decode cX5_pad 64 = .ok (.istore 4, 2) := by decide +kernel
theorem dX5_pad_66 : decode cX5_pad 66 = .ok (.iload 4, 2) := by decide +kernel
theorem dX5_pad_68 : decode cX5_pad 68 = .ok (.ldc 87, 2) := by decide +kernel
theorem dX5_pad_70 : decode cX5_pad 70 = .ok (.imul, 1) := by decide +kernel
theorem dX5_pad_71 : decode cX5_pad 71 = .ok (.istore 4, 2) := by decide +kernel
theorem dX5_pad_73 : decode cX5_pad 73 = .ok (.iload 4, 2) := by decide +kernel
theorem dX5_pad_75 : decode cX5_pad 75 = .ok (.iload 4, 2) := by decide +kernel
theorem dX5_pad_77 : decode cX5_pad 77 = .ok (.bipush 15, 2) := by decide +kernel
theorem dX5_pad_79 : decode cX5_pad 79 = .ok (.iushr, 1) := by decide +kernel
theorem dX5_pad_80 : decode cX5_pad 80 = .ok (.ixor, 1) := by decide +kernel
theorem dX5_pad_81 : decode cX5_pad 81 = .ok (.ireturn, 1) := by decide +kernel
set_option maxRecDepth 20000 in
theorem ggX5_tag_X5_pad : GoodIn wsX5_tag wsX5_pad := goodIn_r _ [7, 8, 9, 10, 11, 12, 13, 14, 15, 16, 6, 17, 18, 19, 20, 21, 22, 23, 24, 25, 26, 27, 28, 29, 30, 31, 32, 33, 34, 35, 36, 37] (by decide +kernel) (by decide +kernel)
set_option maxRecDepth 20000 in
theorem gX5_tag_X5_pad : GoodIn wsX5_tag (wsV RX5 88 RX5 yX5_pad wsX5_pad) := goodIn_app (goodIn_of _ (by decide +kernel)) ggX5_tag_X5_pad
set_option maxRecDepth 20000 in
theorem ggX5_tag_X5_place : GoodIn wsX5_tag wsX5_place := goodIn_r _ [17] (by decide +kernel) (by decide +kernel)
set_option maxRecDepth 20000 in
theorem gX5_tag_X5_place : GoodIn wsX5_tag (va_wsS RX5 80 yX5_place wsX5_place) := goodIn_app (goodIn_of _ (by decide +kernel)) ggX5_tag_X5_place
theorem dX5_tag_0 : decode cX5_tag 0 = .ok (.aload_n 0, 1) := by decide +kernel
theorem dX5_tag_1 : decode cX5_tag 1 = .ok (.iload_n 1, 1) := by decide +kernel
theorem dX5_tag_2 : decode cX5_tag 2 = .ok (.iload_n 2, 1) := by decide +kernel
theorem dX5_tag_3 : decode cX5_tag 3 = .ok (.bipush 24, 2) := by decide +kernel
theorem dX5_tag_5 : decode cX5_tag 5 = .ok (.invokevirtual 88, 3) := by decide +kernel
theorem dX5_tag_8 : decode cX5_tag 8 = .ok (.istore_n 3, 1) := by decide +kernel
theorem dX5_tag_9 : decode cX5_tag 9 = .ok (.iconst 0, 1) := by decide +kernel
theorem dX5_tag_10 : decode cX5_tag 10 = .ok (.istore 4, 2) := by decide +kernel
theorem dX5_tag_12 : decode cX5_tag 12 = .ok (.iload 4, 2) := by decide +kernel
theorem dX5_tag_14 : decode cX5_tag 14 = .ok (.bipush 24, 2) := by decide +kernel
theorem dX5_tag_16 : decode cX5_tag 16 = .ok (.if_icmp .ge 31, 3) := by decide +kernel
theorem dX5_tag_19 : decode cX5_tag 19 = .ok (.iload_n 3, 1) := by decide +kernel
theorem dX5_tag_20 : decode cX5_tag 20 = .ok (.aload_n 0, 1) := by decide +kernel
theorem dX5_tag_21 : decode cX5_tag 21 = .ok (.getfield 7, 3) := by decide +kernel
theorem dX5_tag_24 : decode cX5_tag 24 = .ok (.bipush 25, 2) := by decide +kernel
theorem dX5_tag_26 : decode cX5_tag 26 = .ok (.iload_n 1, 1) := by decide +kernel
theorem dX5_tag_27 : decode cX5_tag 27 = .ok (.iload_n 2, 1) := by decide +kernel
theorem dX5_tag_28 : decode cX5_tag 28 = .ok (.invokestatic 80, 3) := by decide +kernel
theorem dX5_tag_31 : decode cX5_tag 31 = .ok (.imul, 1) := by decide +kernel
theorem dX5_tag_32 : decode cX5_tag 32 = .ok (.iload 4, 2) := by decide +kernel
theorem dX5_tag_34 : decode cX5_tag 34 = .ok (.iadd, 1) := by decide +kernel
theorem dX5_tag_35 : decode cX5_tag 35 = .ok (.iaload, 1) := by decide +kernel
theorem dX5_tag_36 : decode cX5_tag 36 = .ok (.ixor, 1) := by decide +kernel
theorem dX5_tag_37 : decode cX5_tag 37 = .ok (.ldc 91, 2) := by decide +kernel
theorem dX5_tag_39 : decode cX5_tag 39 = .ok (.imul, 1) := by decide +kernel
theorem dX5_tag_40 : decode cX5_tag 40 = .ok (.istore_n 3, 1) := by decide +kernel
theorem dX5_tag_41 : decode cX5_tag 41 = .ok (.iinc 4 1, 3) := by decide +kernel
theorem dX5_tag_44 : decode cX5_tag 44 = .ok (.goto (-32), 3) := by decide +kernel
theorem dX5_tag_47 : decode cX5_tag 47 = .ok (.iload_n 3, 1) := by decide +kernel
theorem dX5_tag_48 : decode cX5_tag 48 = .ok (.ireturn, 1) := by decide +kernel
set_option maxRecDepth 20000 in
theorem ggX5_seal_X5_place : GoodIn wsX5_seal wsX5_place := goodIn_r _ [6] (by decide +kernel) (by decide +kernel)
set_option maxRecDepth 20000 in
theorem gX5_seal_X5_place : GoodIn wsX5_seal (va_wsS RX5 80 yX5_place wsX5_place) := goodIn_app (goodIn_of _ (by decide +kernel)) ggX5_seal_X5_place
set_option maxRecDepth 20000 in
theorem ggX5_seal_X5_pad : GoodIn wsX5_seal wsX5_pad := goodIn_r _ [10, 11, 12, 13, 14, 15, 16, 17, 3, 4, 5, 6, 23, 24, 25, 26, 27, 28, 29, 30, 31, 32, 33, 34, 35, 36, 37, 38, 39, 40, 41, 42] (by decide +kernel) (by decide +kernel)
set_option maxRecDepth 20000 in
theorem gX5_seal_X5_pad : GoodIn wsX5_seal (wsV RX5 88 RX5 yX5_pad wsX5_pad) := goodIn_app (goodIn_of _ (by decide +kernel)) ggX5_seal_X5_pad
set_option maxRecDepth 20000 in
theorem ggX5_seal_X5_tag : GoodIn wsX5_seal wsX5_tag := goodIn_r _ [21, 1, 22, 7, 8, 9, 5, 10, 11, 12, 13, 14, 15, 16, 17, 3, 4, 6, 23, 24, 25, 26, 27, 28, 29, 30, 31, 32, 33, 34, 35, 36, 37, 38, 39, 40, 41, 42] (by decide +kernel) (by decide +kernel)
set_option maxRecDepth 20000 in
theorem gX5_seal_X5_tag : GoodIn wsX5_seal (wsV RX5 92 RX5 yX5_tag wsX5_tag) := goodIn_app (goodIn_of _ (by decide +kernel)) ggX5_seal_X5_tag
theorem dX5_seal_0 : decode cX5_seal 0 = .ok (.bipush 25, 2) := by decide +kernel
theorem dX5_seal_2 : decode cX5_seal 2 = .ok (.iload_n 1, 1) := by decide +kernel
theorem dX5_seal_3 : decode cX5_seal 3 = .ok (.iload_n 2, 1) := by decide +kernel
theorem dX5_seal_4 : decode cX5_seal 4 = .ok (.invokestatic 80, 3) := by decide +kernel
theorem dX5_seal_7 : decode cX5_seal 7 = .ok (.imul, 1) := by decide +kernel
theorem dX5_seal_8 : decode cX5_seal 8 = .ok (.istore_n 3, 1) := by decide +kernel
theorem dX5_seal_9 : decode cX5_seal 9 = .ok (.iconst 0, 1) := by decide +kernel
theorem dX5_seal_10 : decode cX5_seal 10 = .ok (.istore 4, 2) := by decide +kernel
theorem dX5_seal_12 : decode cX5_seal 12 = .ok (.iload 4, 2) := by decide +kernel
theorem dX5_seal_14 : decode cX5_seal 14 = .ok (.bipush 24, 2) := by decide +kernel
theorem dX5_seal_16 : decode cX5_seal 16 = .ok (.if_icmp .ge 34, 3) := by decide +kernel
theorem dX5_seal_19 : decode cX5_seal 19 = .ok (.aload_n 0, 1) := by decide +kernel
theorem dX5_seal_20 : decode cX5_seal 20 = .ok (.getfield 7, 3) := by decide +kernel
theorem dX5_seal_23 : decode cX5_seal 23 = .ok (.iload_n 3, 1) := by decide +kernel
theorem dX5_seal_24 : decode cX5_seal 24 = .ok (.iload 4, 2) := by decide +kernel
theorem dX5_seal_26 : decode cX5_seal 26 = .ok (.iadd, 1) := by decide +kernel
theorem dX5_seal_27 : decode cX5_seal 27 = .ok (.aload_n 0, 1) := by decide +kernel
theorem dX5_seal_28 : decode cX5_seal 28 = .ok (.getfield 29, 3) := by decide +kernel
theorem dX5_seal_31 : decode cX5_seal 31 = .ok (.iload 4, 2) := by decide +kernel
theorem dX5_seal_33 : decode cX5_seal 33 = .ok (.iaload, 1) := by decide +kernel
theorem dX5_seal_34 : decode cX5_seal 34 = .ok (.aload_n 0, 1) := by decide +kernel
theorem dX5_seal_35 : decode cX5_seal 35 = .ok (.iload_n 1, 1) := by decide +kernel
theorem dX5_seal_36 : decode cX5_seal 36 = .ok (.iload_n 2, 1) := by decide +kernel
theorem dX5_seal_37 : decode cX5_seal 37 = .ok (.iload 4, 2) := by decide +kernel
theorem dX5_seal_39 : decode cX5_seal 39 = .ok (.invokevirtual 88, 3) := by decide +kernel
theorem dX5_seal_42 : decode cX5_seal 42 = .ok (.ixor, 1) := by decide +kernel
theorem dX5_seal_43 : decode cX5_seal 43 = .ok (.iastore, 1) := by decide +kernel
theorem dX5_seal_44 : decode cX5_seal 44 = .ok (.iinc 4 1, 3) := by decide +kernel
theorem dX5_seal_47 : decode cX5_seal 47 = .ok (.goto (-35), 3) := by decide +kernel
theorem dX5_seal_50 : decode cX5_seal 50 = .ok (.aload_n 0, 1) := by decide +kernel
theorem dX5_seal_51 : decode cX5_seal 51 = .ok (.getfield 7, 3) := by decide +kernel
theorem dX5_seal_54 : decode cX5_seal 54 = .ok (.iload_n 3, 1) := by decide +kernel
theorem dX5_seal_55 : decode cX5_seal 55 = .ok (.bipush 24, 2) := by decide +kernel
theorem dX5_seal_57 : decode cX5_seal 57 = .ok (.iadd, 1) := by decide +kernel
theorem dX5_seal_58 : decode cX5_seal 58 = .ok (.aload_n 0, 1) := by decide +kernel
theorem dX5_seal_59 : decode cX5_seal 59 = .ok (.iload_n 1, 1) := by decide +kernel
theorem dX5_seal_60 : decode cX5_seal 60 = .ok (.iload_n 2, 1) := by decide +kernel
theorem dX5_seal_61 : decode cX5_seal 61 = .ok (.invokevirtual 92, 3) := by decide +kernel
theorem dX5_seal_64 : decode cX5_seal 64 = .ok (.iastore, 1) := by decide +kernel
theorem dX5_seal_65 : decode cX5_seal 65 = .ok (.return_, 1) := by decide +kernel
theorem dX5_clear_0 : decode cX5_clear 0 = .ok (.iconst 0, 1) := by decide +kernel
theorem dX5_clear_1 : decode cX5_clear 1 = .ok (.istore_n 1, 1) := by decide +kernel
theorem dX5_clear_2 : decode cX5_clear 2 = .ok (.iload_n 1, 1) := by decide +kernel
theorem dX5_clear_3 : decode cX5_clear 3 = .ok (.bipush 24, 2) := by decide +kernel
theorem dX5_clear_5 : decode cX5_clear 5 = .ok (.if_icmp .ge 16, 3) := by decide +kernel
theorem dX5_clear_8 : decode cX5_clear 8 = .ok (.aload_n 0, 1) := by decide +kernel
theorem dX5_clear_9 : decode cX5_clear 9 = .ok (.getfield 29, 3) := by decide +kernel
theorem dX5_clear_12 : decode cX5_clear 12 = .ok (.iload_n 1, 1) := by decide +kernel
theorem dX5_clear_13 : decode cX5_clear 13 = .ok (.iconst 0, 1) := by decide +kernel
theorem dX5_clear_14 : decode cX5_clear 14 = .ok (.iastore, 1) := by decide +kernel
theorem dX5_clear_15 : decode cX5_clear 15 = .ok (.iinc 1 1, 3) := by decide +kernel
theorem dX5_clear_18 : decode cX5_clear 18 = .ok (.goto (-16), 3) := by decide +kernel
theorem dX5_clear_21 : decode cX5_clear 21 = .ok (.return_, 1) := by decide +kernel
set_option maxRecDepth 20000 in
theorem ggX5_put_X5_first : GoodIn wsX5_put wsX5_first := goodIn_r _ [8] (by decide +kernel) (by decide +kernel)
set_option maxRecDepth 20000 in
theorem gX5_put_X5_first : GoodIn wsX5_put (va_wsS RX5 95 yX5_first wsX5_first) := goodIn_app (goodIn_of _ (by decide +kernel)) ggX5_put_X5_first
theorem dX5_put_0 : decode cX5_put 0 = .ok (.iload_n 1, 1) := by decide +kernel
theorem dX5_put_1 : decode cX5_put 1 = .ok (.invokestatic 95, 3) := by decide +kernel
theorem dX5_put_4 : decode cX5_put 4 = .ok (.iload_n 3, 1) := by decide +kernel
theorem dX5_put_5 : decode cX5_put 5 = .ok (.iadd, 1) := by decide +kernel
theorem dX5_put_6 : decode cX5_put 6 = .ok (.istore 4, 2) := by decide +kernel
theorem dX5_put_8 : decode cX5_put 8 = .ok (.aload_n 0, 1) := by decide +kernel
theorem dX5_put_9 : decode cX5_put 9 = .ok (.getfield 29, 3) := by decide +kernel
theorem dX5_put_12 : decode cX5_put 12 = .ok (.bipush 6, 2) := by decide +kernel
theorem dX5_put_14 : decode cX5_put 14 = .ok (.iload_n 2, 1) := by decide +kernel
theorem dX5_put_15 : decode cX5_put 15 = .ok (.imul, 1) := by decide +kernel
theorem dX5_put_16 : decode cX5_put 16 = .ok (.iload_n 3, 1) := by decide +kernel
theorem dX5_put_17 : decode cX5_put 17 = .ok (.iconst 1, 1) := by decide +kernel
theorem dX5_put_18 : decode cX5_put 18 = .ok (.iadd, 1) := by decide +kernel
theorem dX5_put_19 : decode cX5_put 19 = .ok (.iastore, 1) := by decide +kernel
theorem dX5_put_20 : decode cX5_put 20 = .ok (.aload_n 0, 1) := by decide +kernel
theorem dX5_put_21 : decode cX5_put 21 = .ok (.getfield 29, 3) := by decide +kernel
theorem dX5_put_24 : decode cX5_put 24 = .ok (.bipush 6, 2) := by decide +kernel
theorem dX5_put_26 : decode cX5_put 26 = .ok (.iload_n 2, 1) := by decide +kernel
theorem dX5_put_27 : decode cX5_put 27 = .ok (.imul, 1) := by decide +kernel
theorem dX5_put_28 : decode cX5_put 28 = .ok (.iconst 1, 1) := by decide +kernel
theorem dX5_put_29 : decode cX5_put 29 = .ok (.iadd, 1) := by decide +kernel
theorem dX5_put_30 : decode cX5_put 30 = .ok (.aload_n 0, 1) := by decide +kernel
theorem dX5_put_31 : decode cX5_put 31 = .ok (.getfield 20, 3) := by decide +kernel
theorem dX5_put_34 : decode cX5_put 34 = .ok (.iload 4, 2) := by decide +kernel
theorem dX5_put_36 : decode cX5_put 36 = .ok (.iaload, 1) := by decide +kernel
theorem dX5_put_37 : decode cX5_put 37 = .ok (.iastore, 1) := by decide +kernel
theorem dX5_put_38 : decode cX5_put 38 = .ok (.iconst 0, 1) := by decide +kernel
theorem dX5_put_39 : decode cX5_put 39 = .ok (.istore 5, 2) := by decide +kernel
theorem dX5_put_41 : decode cX5_put 41 = .ok (.iload 5, 2) := by decide +kernel
theorem dX5_put_43 : decode cX5_put 43 = .ok (.iconst 4, 1) := by decide +kernel
theorem dX5_put_44 : decode cX5_put 44 = .ok (.if_icmp .ge 35, 3) := by decide +kernel
theorem dX5_put_47 : decode cX5_put 47 = .ok (.aload_n 0, 1) := by decide +kernel
theorem dX5_put_48 : decode cX5_put 48 = .ok (.getfield 29, 3) := by decide +kernel
theorem dX5_put_51 : decode cX5_put 51 = .ok (.bipush 6, 2) := by decide +kernel
theorem dX5_put_53 : decode cX5_put 53 = .ok (.iload_n 2, 1) := by decide +kernel
theorem dX5_put_54 : decode cX5_put 54 = .ok (.imul, 1) := by decide +kernel
theorem dX5_put_55 : decode cX5_put 55 = .ok (.iconst 2, 1) := by decide +kernel
theorem dX5_put_56 : decode cX5_put 56 = .ok (.iadd, 1) := by decide +kernel
theorem dX5_put_57 : decode cX5_put 57 = .ok (.iload 5, 2) := by decide +kernel
theorem dX5_put_59 : decode cX5_put 59 = .ok (.iadd, 1) := by decide +kernel
theorem dX5_put_60 : decode cX5_put 60 = .ok (.aload_n 0, 1) := by decide +kernel
theorem dX5_put_61 : decode cX5_put 61 = .ok (.getfield 23, 3) := by decide +kernel
theorem dX5_put_64 : decode cX5_put 64 = .ok (.iconst 4, 1) := by decide +kernel
theorem dX5_put_65 : decode cX5_put 65 = .ok (.iload 4, 2) := by decide +kernel
theorem dX5_put_67 : decode cX5_put 67 = .ok (.imul, 1) := by decide +kernel
theorem dX5_put_68 : decode cX5_put 68 = .ok (.iload 5, 2) := by decide +kernel
theorem dX5_put_70 : decode cX5_put 70 = .ok (.iadd, 1) := by decide +kernel
theorem dX5_put_71 : decode cX5_put 71 = .ok (.iaload, 1) := by decide +kernel
theorem dX5_put_72 : decode cX5_put 72 = .ok (.iastore, 1) := by decide +kernel
theorem dX5_put_73 : decode cX5_put 73 = .ok (.iinc 5 1, 3) := by decide +kernel
theorem dX5_put_76 : decode cX5_put 76 = .ok (.goto (-35), 3) := by decide +kernel
theorem dX5_put_79 : decode cX5_put 79 = .ok (.aload_n 0, 1) := by decide +kernel
theorem dX5_put_80 : decode cX5_put 80 = .ok (.getfield 16, 3) := by decide +kernel
theorem dX5_put_83 : decode cX5_put 83 = .ok (.iload 4, 2) := by decide +kernel
theorem dX5_put_85 : decode cX5_put 85 = .ok (.iconst 0, 1) := by decide +kernel
theorem dX5_put_86 : decode cX5_put 86 = .ok (.bastore, 1) := by decide +kernel
theorem dX5_put_87 : decode cX5_put 87 = .ok (.return_, 1) := by decide +kernel
set_option maxRecDepth 20000 in
theorem ggX5_take_X5_levels : GoodIn wsX5_take wsX5_levels := goodIn_r _ [5] (by decide +kernel) (by decide +kernel)
set_option maxRecDepth 20000 in
theorem gX5_take_X5_levels : GoodIn wsX5_take (va_wsS RX5 69 yX5_levels wsX5_levels) := goodIn_app (goodIn_of _ (by decide +kernel)) ggX5_take_X5_levels
set_option maxRecDepth 20000 in
theorem ggX5_take_X5_onPath : GoodIn wsX5_take wsX5_onPath := goodIn_r _ [8, 9, 10, 4, 11] (by decide +kernel) (by decide +kernel)
set_option maxRecDepth 20000 in
theorem gX5_take_X5_onPath : GoodIn wsX5_take (va_wsS RX5 72 yX5_onPath wsX5_onPath) := goodIn_app (goodIn_of _ (by decide +kernel)) ggX5_take_X5_onPath
set_option maxRecDepth 20000 in
theorem ggX5_take_X5_place : GoodIn wsX5_take wsX5_place := goodIn_r _ [14] (by decide +kernel) (by decide +kernel)
set_option maxRecDepth 20000 in
theorem gX5_take_X5_place : GoodIn wsX5_take (va_wsS RX5 80 yX5_place wsX5_place) := goodIn_app (goodIn_of _ (by decide +kernel)) ggX5_take_X5_place
set_option maxRecDepth 20000 in
theorem ggX5_take_X5_tag : GoodIn wsX5_take wsX5_tag := goodIn_r _ [18, 1, 19, 20, 21, 22, 4, 23, 24, 25, 26, 27, 28, 29, 30, 12, 13, 14, 48, 49, 50, 51, 52, 53, 54, 55, 56, 57, 58, 59, 60, 61, 62, 63, 64, 65, 66, 67] (by decide +kernel) (by decide +kernel)
set_option maxRecDepth 20000 in
theorem gX5_take_X5_tag : GoodIn wsX5_take (wsV RX5 92 RX5 yX5_tag wsX5_tag) := goodIn_app (goodIn_of _ (by decide +kernel)) ggX5_take_X5_tag
set_option maxRecDepth 20000 in
theorem ggX5_take_X5_open : GoodIn wsX5_take wsX5_open := goodIn_r _ [34, 35, 36, 37, 38, 39, 40, 4, 41, 1, 12, 13, 14, 20, 21, 22, 23, 24, 25, 26, 27, 28, 29, 30, 42, 43, 44, 45, 46, 47, 48, 49, 50, 51, 52, 53, 54, 55, 56, 57, 58, 59, 60, 61, 62, 63, 64, 65, 66, 67] (by decide +kernel) (by decide +kernel)
set_option maxRecDepth 20000 in
theorem gX5_take_X5_open : GoodIn wsX5_take (wsV RX5 98 RX5 yX5_open wsX5_open) := goodIn_app (goodIn_of _ (by decide +kernel)) ggX5_take_X5_open
theorem dX5_take_0 : decode cX5_take 0 = .ok (.iconst 0, 1) := by decide +kernel
theorem dX5_take_1 : decode cX5_take 1 = .ok (.istore_n 3, 1) := by decide +kernel
theorem dX5_take_2 : decode cX5_take 2 = .ok (.iload_n 3, 1) := by decide +kernel
theorem dX5_take_3 : decode cX5_take 3 = .ok (.iload_n 1, 1) := by decide +kernel
theorem dX5_take_4 : decode cX5_take 4 = .ok (.invokestatic 69, 3) := by decide +kernel
theorem dX5_take_7 : decode cX5_take 7 = .ok (.if_icmp .ge 46, 3) := by decide +kernel
theorem dX5_take_10 : decode cX5_take 10 = .ok (.iload_n 1, 1) := by decide +kernel
theorem dX5_take_11 : decode cX5_take 11 = .ok (.iload_n 2, 1) := by decide +kernel
theorem dX5_take_12 : decode cX5_take 12 = .ok (.iload_n 3, 1) := by decide +kernel
theorem dX5_take_13 : decode cX5_take 13 = .ok (.invokestatic 72, 3) := by decide +kernel
theorem dX5_take_16 : decode cX5_take 16 = .ok (.istore 4, 2) := by decide +kernel
theorem dX5_take_18 : decode cX5_take 18 = .ok (.aload_n 0, 1) := by decide +kernel
theorem dX5_take_19 : decode cX5_take 19 = .ok (.getfield 7, 3) := by decide +kernel
theorem dX5_take_22 : decode cX5_take 22 = .ok (.bipush 25, 2) := by decide +kernel
theorem dX5_take_24 : decode cX5_take 24 = .ok (.iload_n 1, 1) := by decide +kernel
theorem dX5_take_25 : decode cX5_take 25 = .ok (.iload 4, 2) := by decide +kernel
theorem dX5_take_27 : decode cX5_take 27 = .ok (.invokestatic 80, 3) := by decide +kernel
theorem dX5_take_30 : decode cX5_take 30 = .ok (.imul, 1) := by decide +kernel
theorem dX5_take_31 : decode cX5_take 31 = .ok (.bipush 24, 2) := by decide +kernel
theorem dX5_take_33 : decode cX5_take 33 = .ok (.iadd, 1) := by decide +kernel
theorem dX5_take_34 : decode cX5_take 34 = .ok (.iaload, 1) := by decide +kernel
theorem dX5_take_35 : decode cX5_take 35 = .ok (.aload_n 0, 1) := by decide +kernel
theorem dX5_take_36 : decode cX5_take 36 = .ok (.iload_n 1, 1) := by decide +kernel
theorem dX5_take_37 : decode cX5_take 37 = .ok (.iload 4, 2) := by decide +kernel
theorem dX5_take_39 : decode cX5_take 39 = .ok (.invokevirtual 92, 3) := by decide +kernel
theorem dX5_take_42 : decode cX5_take 42 = .ok (.if_icmp .eq 5, 3) := by decide +kernel
theorem dX5_take_45 : decode cX5_take 45 = .ok (.iconst 0, 1) := by decide +kernel
theorem dX5_take_46 : decode cX5_take 46 = .ok (.ireturn, 1) := by decide +kernel
theorem dX5_take_47 : decode cX5_take 47 = .ok (.iinc 3 1, 3) := by decide +kernel
theorem dX5_take_50 : decode cX5_take 50 = .ok (.goto (-48), 3) := by decide +kernel
theorem dX5_take_53 : decode cX5_take 53 = .ok (.iconst 0, 1) := by decide +kernel
theorem dX5_take_54 : decode cX5_take 54 = .ok (.istore_n 3, 1) := by decide +kernel
theorem dX5_take_55 : decode cX5_take 55 = .ok (.iload_n 3, 1) := by decide +kernel
theorem dX5_take_56 : decode cX5_take 56 = .ok (.iload_n 1, 1) := by decide +kernel
theorem dX5_take_57 : decode cX5_take 57 = .ok (.invokestatic 69, 3) := by decide +kernel
theorem dX5_take_60 : decode cX5_take 60 = .ok (.if_icmp .ge 41, 3) := by decide +kernel
theorem dX5_take_63 : decode cX5_take 63 = .ok (.iload_n 1, 1) := by decide +kernel
theorem dX5_take_64 : decode cX5_take 64 = .ok (.iload_n 2, 1) := by decide +kernel
theorem dX5_take_65 : decode cX5_take 65 = .ok (.iload_n 3, 1) := by decide +kernel
theorem dX5_take_66 : decode cX5_take 66 = .ok (.invokestatic 72, 3) := by decide +kernel
theorem dX5_take_69 : decode cX5_take 69 = .ok (.istore 4, 2) := by decide +kernel
theorem dX5_take_71 : decode cX5_take 71 = .ok (.iconst 0, 1) := by decide +kernel
theorem dX5_take_72 : decode cX5_take 72 = .ok (.istore 5, 2) := by decide +kernel
theorem dX5_take_74 : decode cX5_take 74 = .ok (.iload 5, 2) := by decide +kernel
theorem dX5_take_76 : decode cX5_take 76 = .ok (.iconst 4, 1) := by decide +kernel
theorem dX5_take_77 : decode cX5_take 77 = .ok (.if_icmp .ge 18, 3) := by decide +kernel
theorem dX5_take_80 : decode cX5_take 80 = .ok (.aload_n 0, 1) := by decide +kernel
theorem dX5_take_81 : decode cX5_take 81 = .ok (.iload_n 1, 1) := by decide +kernel
theorem dX5_take_82 : decode cX5_take 82 = .ok (.iload 4, 2) := by decide +kernel
theorem dX5_take_84 : decode cX5_take 84 = .ok (.iload 5, 2) := by decide +kernel
theorem dX5_take_86 : decode cX5_take 86 = .ok (.invokevirtual 98, 3) := by decide +kernel
theorem dX5_take_89 : decode cX5_take 89 = .ok (.iinc 5 1, 3) := by decide +kernel
theorem dX5_take_92 : decode cX5_take 92 = .ok (.goto (-18), 3) := by decide +kernel
theorem dX5_take_95 : decode cX5_take 95 = .ok (.iinc 3 1, 3) := by decide +kernel
theorem dX5_take_98 : decode cX5_take 98 = .ok (.goto (-43), 3) := by decide +kernel
theorem dX5_take_101 : decode cX5_take 101 = .ok (.iconst 1, 1) := by decide +kernel
theorem dX5_take_102 : decode cX5_take 102 = .ok (.ireturn, 1) := by decide +kernel
set_option maxRecDepth 20000 in
theorem ggX5_plainWord_X5_place : GoodIn wsX5_plainWord wsX5_place := goodIn_r _ [5] (by decide +kernel) (by decide +kernel)
set_option maxRecDepth 20000 in
theorem gX5_plainWord_X5_place : GoodIn wsX5_plainWord (va_wsS RX5 80 yX5_place wsX5_place) := goodIn_app (goodIn_of _ (by decide +kernel)) ggX5_plainWord_X5_place
set_option maxRecDepth 20000 in
theorem ggX5_plainWord_X5_pad : GoodIn wsX5_plainWord wsX5_pad := goodIn_r _ [9, 10, 11, 12, 13, 14, 15, 16, 2, 3, 4, 5, 17, 18, 19, 20, 21, 22, 23, 24, 25, 26, 27, 28, 29, 30, 31, 32, 33, 34, 35, 36] (by decide +kernel) (by decide +kernel)
set_option maxRecDepth 20000 in
theorem gX5_plainWord_X5_pad : GoodIn wsX5_plainWord (wsV RX5 88 RX5 yX5_pad wsX5_pad) := goodIn_app (goodIn_of _ (by decide +kernel)) ggX5_plainWord_X5_pad
theorem dX5_plainWord_0 : decode cX5_plainWord 0 = .ok (.aload_n 0, 1) := by decide +kernel
theorem dX5_plainWord_1 : decode cX5_plainWord 1 = .ok (.getfield 7, 3) := by decide +kernel
theorem dX5_plainWord_4 : decode cX5_plainWord 4 = .ok (.bipush 25, 2) := by decide +kernel
theorem dX5_plainWord_6 : decode cX5_plainWord 6 = .ok (.iload_n 1, 1) := by decide +kernel
theorem dX5_plainWord_7 : decode cX5_plainWord 7 = .ok (.iload_n 2, 1) := by decide +kernel
theorem dX5_plainWord_8 : decode cX5_plainWord 8 = .ok (.invokestatic 80, 3) := by decide +kernel
theorem dX5_plainWord_11 : decode cX5_plainWord 11 = .ok (.imul, 1) := by decide +kernel
theorem dX5_plainWord_12 : decode cX5_plainWord 12 = .ok (.iload_n 3, 1) := by decide +kernel
theorem dX5_plainWord_13 : decode cX5_plainWord 13 = .ok (.iadd, 1) := by decide +kernel
theorem dX5_plainWord_14 : decode cX5_plainWord 14 = .ok (.iaload, 1) := by decide +kernel
theorem dX5_plainWord_15 : decode cX5_plainWord 15 = .ok (.aload_n 0, 1) := by decide +kernel
theorem dX5_plainWord_16 : decode cX5_plainWord 16 = .ok (.iload_n 1, 1) := by decide +kernel
theorem dX5_plainWord_17 : decode cX5_plainWord 17 = .ok (.iload_n 2, 1) := by decide +kernel
theorem dX5_plainWord_18 : decode cX5_plainWord 18 = .ok (.iload_n 3, 1) := by decide +kernel
theorem dX5_plainWord_19 : decode cX5_plainWord 19 = .ok (.invokevirtual 88, 3) := by decide +kernel
theorem dX5_plainWord_22 : decode cX5_plainWord 22 = .ok (.ixor, 1) := by decide +kernel
theorem dX5_plainWord_23 : decode cX5_plainWord 23 = .ok (.ireturn, 1) := by decide +kernel
set_option maxRecDepth 20000 in
theorem ggX5_open_X5_plainWord : GoodIn wsX5_open wsX5_plainWord := goodIn_r _ [8, 9, 10, 11, 7, 12, 13, 14, 15, 16, 17, 18, 19, 20, 21, 22, 23, 30, 31, 32, 33, 34, 35, 36, 37, 38, 39, 40, 41, 42, 43, 44, 45, 46, 47, 48, 49] (by decide +kernel) (by decide +kernel)
set_option maxRecDepth 20000 in
theorem gX5_open_X5_plainWord : GoodIn wsX5_open (wsV RX5 102 RX5 yX5_plainWord wsX5_plainWord) := goodIn_app (goodIn_of _ (by decide +kernel)) ggX5_open_X5_plainWord
set_option maxRecDepth 20000 in
theorem ggX5_open_X5_blocks : GoodIn wsX5_open wsX5_blocks := goodIn_r _ [26] (by decide +kernel) (by decide +kernel)
set_option maxRecDepth 20000 in
theorem gX5_open_X5_blocks : GoodIn wsX5_open (va_wsS RX5 105 yX5_blocks wsX5_blocks) := goodIn_app (goodIn_of _ (by decide +kernel)) ggX5_open_X5_blocks
set_option maxRecDepth 20000 in
theorem ggX5_open_X5_first : GoodIn wsX5_open wsX5_first := goodIn_r _ [29] (by decide +kernel) (by decide +kernel)
set_option maxRecDepth 20000 in
theorem gX5_open_X5_first : GoodIn wsX5_open (va_wsS RX5 95 yX5_first wsX5_first) := goodIn_app (goodIn_of _ (by decide +kernel)) ggX5_open_X5_first
theorem dX5_open_0 : decode cX5_open 0 = .ok (.aload_n 0, 1) := by decide +kernel
theorem dX5_open_1 : decode cX5_open 1 = .ok (.iload_n 1, 1) := by decide +kernel
theorem dX5_open_2 : decode cX5_open 2 = .ok (.iload_n 2, 1) := by decide +kernel
theorem dX5_open_3 : decode cX5_open 3 = .ok (.bipush 6, 2) := by decide +kernel
theorem dX5_open_5 : decode cX5_open 5 = .ok (.iload_n 3, 1) := by decide +kernel
theorem dX5_open_6 : decode cX5_open 6 = .ok (.imul, 1) := by decide +kernel
theorem dX5_open_7 : decode cX5_open 7 = .ok (.invokevirtual 102, 3) := by decide +kernel
theorem dX5_open_10 : decode cX5_open 10 = .ok (.iconst 1, 1) := by decide +kernel
theorem dX5_open_11 : decode cX5_open 11 = .ok (.isub, 1) := by decide +kernel
theorem dX5_open_12 : decode cX5_open 12 = .ok (.istore 4, 2) := by decide +kernel
theorem dX5_open_14 : decode cX5_open 14 = .ok (.iload 4, 2) := by decide +kernel
theorem dX5_open_16 : decode cX5_open 16 = .ok (.ifCond .lt 12, 3) := by decide +kernel
theorem dX5_open_19 : decode cX5_open 19 = .ok (.iload 4, 2) := by decide +kernel
theorem dX5_open_21 : decode cX5_open 21 = .ok (.iload_n 1, 1) := by decide +kernel
theorem dX5_open_22 : decode cX5_open 22 = .ok (.invokestatic 105, 3) := by decide +kernel
theorem dX5_open_25 : decode cX5_open 25 = .ok (.if_icmp .lt 4, 3) := by decide +kernel
theorem dX5_open_28 : decode cX5_open 28 = .ok (.return_, 1) := by decide +kernel
theorem dX5_open_29 : decode cX5_open 29 = .ok (.iload_n 1, 1) := by decide +kernel
theorem dX5_open_30 : decode cX5_open 30 = .ok (.invokestatic 95, 3) := by decide +kernel
theorem dX5_open_33 : decode cX5_open 33 = .ok (.iload 4, 2) := by decide +kernel
theorem dX5_open_35 : decode cX5_open 35 = .ok (.iadd, 1) := by decide +kernel
theorem dX5_open_36 : decode cX5_open 36 = .ok (.istore 5, 2) := by decide +kernel
theorem dX5_open_38 : decode cX5_open 38 = .ok (.aload_n 0, 1) := by decide +kernel
theorem dX5_open_39 : decode cX5_open 39 = .ok (.getfield 16, 3) := by decide +kernel
theorem dX5_open_42 : decode cX5_open 42 = .ok (.iload 5, 2) := by decide +kernel
theorem dX5_open_44 : decode cX5_open 44 = .ok (.iconst 1, 1) := by decide +kernel
theorem dX5_open_45 : decode cX5_open 45 = .ok (.bastore, 1) := by decide +kernel
theorem dX5_open_46 : decode cX5_open 46 = .ok (.aload_n 0, 1) := by decide +kernel
theorem dX5_open_47 : decode cX5_open 47 = .ok (.getfield 20, 3) := by decide +kernel
theorem dX5_open_50 : decode cX5_open 50 = .ok (.iload 5, 2) := by decide +kernel
theorem dX5_open_52 : decode cX5_open 52 = .ok (.aload_n 0, 1) := by decide +kernel
theorem dX5_open_53 : decode cX5_open 53 = .ok (.iload_n 1, 1) := by decide +kernel
theorem dX5_open_54 : decode cX5_open 54 = .ok (.iload_n 2, 1) := by decide +kernel
theorem dX5_open_55 : decode cX5_open 55 = .ok (.bipush 6, 2) := by decide +kernel
theorem dX5_open_57 : decode cX5_open 57 = .ok (.iload_n 3, 1) := by decide +kernel
theorem dX5_open_58 : decode cX5_open 58 = .ok (.imul, 1) := by decide +kernel
theorem dX5_open_59 : decode cX5_open 59 = .ok (.iconst 1, 1) := by decide +kernel
theorem dX5_open_60 : decode cX5_open 60 = .ok (.iadd, 1) := by decide +kernel
theorem dX5_open_61 : decode cX5_open 61 = .ok (.invokevirtual 102, 3) := by decide +kernel
theorem dX5_open_64 : decode cX5_open 64 = .ok (.iastore, 1) := by decide +kernel
theorem dX5_open_65 : decode cX5_open 65 = .ok (.iconst 0, 1) := by decide +kernel
theorem dX5_open_66 : decode cX5_open 66 = .ok (.istore 6, 2) := by decide +kernel
theorem dX5_open_68 : decode cX5_open 68 = .ok (.iload 6, 2) := by decide +kernel
theorem dX5_open_70 : decode cX5_open 70 = .ok (.iconst 4, 1) := by decide +kernel
theorem dX5_open_71 : decode cX5_open 71 = .ok (.if_icmp .ge 36, 3) := by decide +kernel
theorem dX5_open_74 : decode cX5_open 74 = .ok (.aload_n 0, 1) := by decide +kernel
theorem dX5_open_75 : decode cX5_open 75 = .ok (.getfield 23, 3) := by decide +kernel
theorem dX5_open_78 : decode cX5_open 78 = .ok (.iconst 4, 1) := by decide +kernel
theorem dX5_open_79 : decode cX5_open 79 = .ok (.iload 5, 2) := by decide +kernel
theorem dX5_open_81 : decode cX5_open 81 = .ok (.imul, 1) := by decide +kernel
theorem dX5_open_82 : decode cX5_open 82 = .ok (.iload 6, 2) := by decide +kernel
theorem dX5_open_84 : decode cX5_open 84 = .ok (.iadd, 1) := by decide +kernel
theorem dX5_open_85 : decode cX5_open 85 = .ok (.aload_n 0, 1) := by decide +kernel
theorem dX5_open_86 : decode cX5_open 86 = .ok (.iload_n 1, 1) := by decide +kernel
theorem dX5_open_87 : decode cX5_open 87 = .ok (.iload_n 2, 1) := by decide +kernel
theorem dX5_open_88 : decode cX5_open 88 = .ok (.bipush 6, 2) := by decide +kernel
theorem dX5_open_90 : decode cX5_open 90 = .ok (.iload_n 3, 1) := by decide +kernel
theorem dX5_open_91 : decode cX5_open 91 = .ok (.imul, 1) := by decide +kernel
theorem dX5_open_92 : decode cX5_open 92 = .ok (.iconst 2, 1) := by decide +kernel
theorem dX5_open_93 : decode cX5_open 93 = .ok (.iadd, 1) := by decide +kernel
theorem dX5_open_94 : decode cX5_open 94 = .ok (.iload 6, 2) := by decide +kernel
theorem dX5_open_96 : decode cX5_open 96 = .ok (.iadd, 1) := by decide +kernel
theorem dX5_open_97 : decode cX5_open 97 = .ok (.invokevirtual 102, 3) := by decide +kernel
theorem dX5_open_100 : decode cX5_open 100 = .ok (.iastore, 1) := by decide +kernel
theorem dX5_open_101 : decode cX5_open 101 = .ok (.iinc 6 1, 3) := by decide +kernel
theorem dX5_open_104 : decode cX5_open 104 = .ok (.goto (-36), 3) := by decide +kernel
theorem dX5_open_107 : decode cX5_open 107 = .ok (.return_, 1) := by decide +kernel
set_option maxRecDepth 20000 in
theorem ggX5_putBack_X5_levels : GoodIn wsX5_putBack wsX5_levels := goodIn_r _ [7] (by decide +kernel) (by decide +kernel)
set_option maxRecDepth 20000 in
theorem gX5_putBack_X5_levels : GoodIn wsX5_putBack (va_wsS RX5 69 yX5_levels wsX5_levels) := goodIn_app (goodIn_of _ (by decide +kernel)) ggX5_putBack_X5_levels
set_option maxRecDepth 20000 in
theorem ggX5_putBack_X5_onPath : GoodIn wsX5_putBack wsX5_onPath := goodIn_r _ [10, 11, 12, 6, 13] (by decide +kernel) (by decide +kernel)
set_option maxRecDepth 20000 in
theorem gX5_putBack_X5_onPath : GoodIn wsX5_putBack (va_wsS RX5 72 yX5_onPath wsX5_onPath) := goodIn_app (goodIn_of _ (by decide +kernel)) ggX5_putBack_X5_onPath
set_option maxRecDepth 20000 in
theorem ggX5_putBack_X5_clear : GoodIn wsX5_putBack wsX5_clear := goodIn_r _ [17, 18, 56, 57, 58, 59, 60, 61, 62, 63, 64, 65, 66, 67, 68, 69, 70, 71, 72, 73, 74, 75] (by decide +kernel) (by decide +kernel)
set_option maxRecDepth 20000 in
theorem gX5_putBack_X5_clear : GoodIn wsX5_putBack (wsV RX5 108 RX5 yX5_clear wsX5_clear) := goodIn_app (goodIn_of _ (by decide +kernel)) ggX5_putBack_X5_clear
set_option maxRecDepth 20000 in
theorem ggX5_putBack_X5_blocks : GoodIn wsX5_putBack wsX5_blocks := goodIn_r _ [21] (by decide +kernel) (by decide +kernel)
set_option maxRecDepth 20000 in
theorem gX5_putBack_X5_blocks : GoodIn wsX5_putBack (va_wsS RX5 105 yX5_blocks wsX5_blocks) := goodIn_app (goodIn_of _ (by decide +kernel)) ggX5_putBack_X5_blocks
set_option maxRecDepth 20000 in
theorem ggX5_putBack_X5_first : GoodIn wsX5_putBack wsX5_first := goodIn_r _ [24] (by decide +kernel) (by decide +kernel)
set_option maxRecDepth 20000 in
theorem gX5_putBack_X5_first : GoodIn wsX5_putBack (va_wsS RX5 95 yX5_first wsX5_first) := goodIn_app (goodIn_of _ (by decide +kernel)) ggX5_putBack_X5_first
set_option maxRecDepth 20000 in
theorem ggX5_putBack_X5_passes : GoodIn wsX5_putBack wsX5_passes := goodIn_r _ [27, 4, 5, 6, 7, 8, 9, 10, 11, 12, 13] (by decide +kernel) (by decide +kernel)
set_option maxRecDepth 20000 in
theorem gX5_putBack_X5_passes : GoodIn wsX5_putBack (va_wsS RX5 111 yX5_passes wsX5_passes) := goodIn_app (goodIn_of _ (by decide +kernel)) ggX5_putBack_X5_passes
set_option maxRecDepth 20000 in
theorem ggX5_putBack_X5_put : GoodIn wsX5_putBack wsX5_put := goodIn_r _ [31, 18, 2, 32, 1, 22, 23, 6, 24, 56, 57, 58, 59, 60, 61, 62, 63, 64, 65, 66, 67, 68, 69, 70, 71, 72, 73, 74, 75] (by decide +kernel) (by decide +kernel)
set_option maxRecDepth 20000 in
theorem gX5_putBack_X5_put : GoodIn wsX5_putBack (wsV RX5 115 RX5 yX5_put wsX5_put) := goodIn_app (goodIn_of _ (by decide +kernel)) ggX5_putBack_X5_put
set_option maxRecDepth 20000 in
theorem ggX5_putBack_X5_place : GoodIn wsX5_putBack wsX5_place := goodIn_r _ [35] (by decide +kernel) (by decide +kernel)
set_option maxRecDepth 20000 in
theorem gX5_putBack_X5_place : GoodIn wsX5_putBack (va_wsS RX5 80 yX5_place wsX5_place) := goodIn_app (goodIn_of _ (by decide +kernel)) ggX5_putBack_X5_place
set_option maxRecDepth 20000 in
theorem ggX5_putBack_X5_seal : GoodIn wsX5_putBack wsX5_seal := goodIn_r _ [39, 40, 18, 33, 34, 6, 35, 41, 42, 43, 44, 45, 46, 3, 47, 48, 49, 50, 51, 52, 53, 54, 55, 56, 57, 58, 59, 60, 61, 62, 63, 64, 65, 66, 67, 68, 69, 70, 71, 72, 73, 74, 75] (by decide +kernel) (by decide +kernel)
set_option maxRecDepth 20000 in
theorem gX5_putBack_X5_seal : GoodIn wsX5_putBack (wsV RX5 118 RX5 yX5_seal wsX5_seal) := goodIn_app (goodIn_of _ (by decide +kernel)) ggX5_putBack_X5_seal
theorem dX5_putBack_0 : decode cX5_putBack 0 = .ok (.iconst 0, 1) := by decide +kernel
theorem dX5_putBack_1 : decode cX5_putBack 1 = .ok (.istore_n 3, 1) := by decide +kernel
theorem dX5_putBack_2 : decode cX5_putBack 2 = .ok (.iload_n 3, 1) := by decide +kernel
theorem dX5_putBack_3 : decode cX5_putBack 3 = .ok (.iload_n 1, 1) := by decide +kernel
theorem dX5_putBack_4 : decode cX5_putBack 4 = .ok (.invokestatic 69, 3) := by decide +kernel
theorem dX5_putBack_7 : decode cX5_putBack 7 = .ok (.if_icmp .ge 120, 3) := by decide +kernel
theorem dX5_putBack_10 : decode cX5_putBack 10 = .ok (.iload_n 1, 1) := by decide +kernel
theorem dX5_putBack_11 : decode cX5_putBack 11 = .ok (.iload_n 2, 1) := by decide +kernel
theorem dX5_putBack_12 : decode cX5_putBack 12 = .ok (.iload_n 3, 1) := by decide +kernel
theorem dX5_putBack_13 : decode cX5_putBack 13 = .ok (.invokestatic 72, 3) := by decide +kernel
theorem dX5_putBack_16 : decode cX5_putBack 16 = .ok (.istore 4, 2) := by decide +kernel
theorem dX5_putBack_18 : decode cX5_putBack 18 = .ok (.aload_n 0, 1) := by decide +kernel
theorem dX5_putBack_19 : decode cX5_putBack 19 = .ok (.invokevirtual 108, 3) := by decide +kernel
theorem dX5_putBack_22 : decode cX5_putBack 22 = .ok (.iconst 0, 1) := by decide +kernel
theorem dX5_putBack_23 : decode cX5_putBack 23 = .ok (.istore 5, 2) := by decide +kernel
theorem dX5_putBack_25 : decode cX5_putBack 25 = .ok (.iconst 0, 1) := by decide +kernel
theorem dX5_putBack_26 : decode cX5_putBack 26 = .ok (.istore 6, 2) := by decide +kernel
theorem dX5_putBack_28 : decode cX5_putBack 28 = .ok (.iload 6, 2) := by decide +kernel
theorem dX5_putBack_30 : decode cX5_putBack 30 = .ok (.iload_n 1, 1) := by decide +kernel
theorem dX5_putBack_31 : decode cX5_putBack 31 = .ok (.invokestatic 105, 3) := by decide +kernel
theorem dX5_putBack_34 : decode cX5_putBack 34 = .ok (.if_icmp .ge 65, 3) := by decide +kernel
theorem dX5_putBack_37 : decode cX5_putBack 37 = .ok (.iload 5, 2) := by decide +kernel
theorem dX5_putBack_39 : decode cX5_putBack 39 = .ok (.iconst 4, 1) := by decide +kernel
theorem dX5_putBack_40 : decode cX5_putBack 40 = .ok (.if_icmp .ge 59, 3) := by decide +kernel
theorem dX5_putBack_43 : decode cX5_putBack 43 = .ok (.iload_n 1, 1) := by decide +kernel
theorem dX5_putBack_44 : decode cX5_putBack 44 = .ok (.invokestatic 95, 3) := by decide +kernel
theorem dX5_putBack_47 : decode cX5_putBack 47 = .ok (.iload 6, 2) := by decide +kernel
theorem dX5_putBack_49 : decode cX5_putBack 49 = .ok (.iadd, 1) := by decide +kernel
theorem dX5_putBack_50 : decode cX5_putBack 50 = .ok (.istore 7, 2) := by decide +kernel
theorem dX5_putBack_52 : decode cX5_putBack 52 = .ok (.aload_n 0, 1) := by decide +kernel
theorem dX5_putBack_53 : decode cX5_putBack 53 = .ok (.getfield 16, 3) := by decide +kernel
theorem dX5_putBack_56 : decode cX5_putBack 56 = .ok (.iload 7, 2) := by decide +kernel
theorem dX5_putBack_58 : decode cX5_putBack 58 = .ok (.baload, 1) := by decide +kernel
theorem dX5_putBack_59 : decode cX5_putBack 59 = .ok (.ifCond .eq 34, 3) := by decide +kernel
theorem dX5_putBack_62 : decode cX5_putBack 62 = .ok (.iload_n 1, 1) := by decide +kernel
theorem dX5_putBack_63 : decode cX5_putBack 63 = .ok (.aload_n 0, 1) := by decide +kernel
theorem dX5_putBack_64 : decode cX5_putBack 64 = .ok (.getfield 20, 3) := by decide +kernel
theorem dX5_putBack_67 : decode cX5_putBack 67 = .ok (.iload 7, 2) := by decide +kernel
theorem dX5_putBack_69 : decode cX5_putBack 69 = .ok (.iaload, 1) := by decide +kernel
theorem dX5_putBack_70 : decode cX5_putBack 70 = .ok (.iload 4, 2) := by decide +kernel
theorem dX5_putBack_72 : decode cX5_putBack 72 = .ok (.invokestatic 111, 3) := by decide +kernel
theorem dX5_putBack_75 : decode cX5_putBack 75 = .ok (.ifCond .ne 6, 3) := by decide +kernel
theorem dX5_putBack_78 : decode cX5_putBack 78 = .ok (.goto 15, 3) := by decide +kernel
theorem dX5_putBack_81 : decode cX5_putBack 81 = .ok (.aload_n 0, 1) := by decide +kernel
theorem dX5_putBack_82 : decode cX5_putBack 82 = .ok (.iload_n 1, 1) := by decide +kernel
theorem dX5_putBack_83 : decode cX5_putBack 83 = .ok (.iload 5, 2) := by decide +kernel
theorem dX5_putBack_85 : decode cX5_putBack 85 = .ok (.iload 6, 2) := by decide +kernel
theorem dX5_putBack_87 : decode cX5_putBack 87 = .ok (.invokevirtual 115, 3) := by decide +kernel
theorem dX5_putBack_90 : decode cX5_putBack 90 = .ok (.iinc 5 1, 3) := by decide +kernel
theorem dX5_putBack_93 : decode cX5_putBack 93 = .ok (.iinc 6 1, 3) := by decide +kernel
theorem dX5_putBack_96 : decode cX5_putBack 96 = .ok (.goto (-68), 3) := by decide +kernel
theorem dX5_putBack_99 : decode cX5_putBack 99 = .ok (.aload_n 0, 1) := by decide +kernel
theorem dX5_putBack_100 : decode cX5_putBack 100 = .ok (.getfield 13, 3) := by decide +kernel
theorem dX5_putBack_103 : decode cX5_putBack 103 = .ok (.iload_n 1, 1) := by decide +kernel
theorem dX5_putBack_104 : decode cX5_putBack 104 = .ok (.iload 4, 2) := by decide +kernel
theorem dX5_putBack_106 : decode cX5_putBack 106 = .ok (.invokestatic 80, 3) := by decide +kernel
theorem dX5_putBack_109 : decode cX5_putBack 109 = .ok (.dup2, 1) := by decide +kernel
theorem dX5_putBack_110 : decode cX5_putBack 110 = .ok (.iaload, 1) := by decide +kernel
theorem dX5_putBack_111 : decode cX5_putBack 111 = .ok (.iconst 1, 1) := by decide +kernel
theorem dX5_putBack_112 : decode cX5_putBack 112 = .ok (.iadd, 1) := by decide +kernel
theorem dX5_putBack_113 : decode cX5_putBack 113 = .ok (.iastore, 1) := by decide +kernel
theorem dX5_putBack_114 : decode cX5_putBack 114 = .ok (.aload_n 0, 1) := by decide +kernel
theorem dX5_putBack_115 : decode cX5_putBack 115 = .ok (.iload_n 1, 1) := by decide +kernel
theorem dX5_putBack_116 : decode cX5_putBack 116 = .ok (.iload 4, 2) := by decide +kernel
theorem dX5_putBack_118 : decode cX5_putBack 118 = .ok (.invokevirtual 118, 3) := by decide +kernel
theorem dX5_putBack_121 : decode cX5_putBack 121 = .ok (.iinc 3 1, 3) := by decide +kernel
theorem dX5_putBack_124 : decode cX5_putBack 124 = .ok (.goto (-122), 3) := by decide +kernel
theorem dX5_putBack_127 : decode cX5_putBack 127 = .ok (.return_, 1) := by decide +kernel
set_option maxRecDepth 20000 in
theorem ggX5_access_X5_draw : GoodIn wsX5_access wsX5_draw := goodIn_r _ [13, 14, 83, 84, 85, 86, 87, 88, 89, 90, 91, 92, 93, 94, 95, 96, 97, 98, 99, 100, 101, 102] (by decide +kernel) (by decide +kernel)
set_option maxRecDepth 20000 in
theorem gX5_access_X5_draw : GoodIn wsX5_access (wsV RX5 121 RX5 yX5_draw wsX5_draw) := goodIn_app (goodIn_of _ (by decide +kernel)) ggX5_access_X5_draw
set_option maxRecDepth 20000 in
theorem ggX5_access_X5_take : GoodIn wsX5_access wsX5_take := goodIn_r _ [18, 19, 20, 21, 12, 22, 23, 24, 25, 26, 27, 28, 29, 30, 31, 32, 33, 34, 35, 36, 37, 38, 39, 40, 41, 42, 43, 44, 45, 46, 47, 48, 49, 50, 51, 52, 6, 7, 53, 54, 55, 56, 57, 58, 59, 60, 61, 62, 83, 84, 85, 86, 87, 88, 89, 90, 91, 92, 93, 94, 95, 96, 97, 98, 99, 100, 101, 102] (by decide +kernel) (by decide +kernel)
set_option maxRecDepth 20000 in
theorem gX5_access_X5_take : GoodIn wsX5_access (wsV RX5 127 RX5 yX5_take wsX5_take) := goodIn_app (goodIn_of _ (by decide +kernel)) ggX5_access_X5_take
set_option maxRecDepth 20000 in
theorem ggX5_access_X5_putBack : GoodIn wsX5_access wsX5_putBack := goodIn_r _ [66, 52, 6, 43, 20, 21, 12, 22, 23, 24, 25, 26, 27, 28, 67, 68, 69, 70, 71, 57, 58, 59, 60, 61, 62, 72, 73, 74, 75, 76, 77, 78, 7, 29, 30, 31, 79, 80, 81, 82, 19, 37, 38, 39, 40, 41, 42, 44, 45, 46, 47, 32, 33, 34, 35, 36, 83, 84, 85, 86, 87, 88, 89, 90, 91, 92, 93, 94, 95, 96, 97, 98, 99, 100, 101, 102] (by decide +kernel) (by decide +kernel)
set_option maxRecDepth 20000 in
theorem gX5_access_X5_putBack : GoodIn wsX5_access (wsV RX5 135 RX5 yX5_putBack wsX5_putBack) := goodIn_app (goodIn_of _ (by decide +kernel)) ggX5_access_X5_putBack
theorem dX5_access_0 : decode cX5_access 0 = .ok (.iload_n 1, 1) := by decide +kernel
theorem dX5_access_1 : decode cX5_access 1 = .ok (.bipush 8, 2) := by decide +kernel
theorem dX5_access_3 : decode cX5_access 3 = .ok (.idiv, 1) := by decide +kernel
theorem dX5_access_4 : decode cX5_access 4 = .ok (.istore 6, 2) := by decide +kernel
theorem dX5_access_6 : decode cX5_access 6 = .ok (.iload_n 1, 1) := by decide +kernel
theorem dX5_access_7 : decode cX5_access 7 = .ok (.bipush 8, 2) := by decide +kernel
theorem dX5_access_9 : decode cX5_access 9 = .ok (.irem, 1) := by decide +kernel
theorem dX5_access_10 : decode cX5_access 10 = .ok (.istore 7, 2) := by decide +kernel
theorem dX5_access_12 : decode cX5_access 12 = .ok (.aload_n 0, 1) := by decide +kernel
theorem dX5_access_13 : decode cX5_access 13 = .ok (.getfield 26, 3) := by decide +kernel
theorem dX5_access_16 : decode cX5_access 16 = .ok (.iload 6, 2) := by decide +kernel
theorem dX5_access_18 : decode cX5_access 18 = .ok (.iaload, 1) := by decide +kernel
theorem dX5_access_19 : decode cX5_access 19 = .ok (.istore 8, 2) := by decide +kernel
theorem dX5_access_21 : decode cX5_access 21 = .ok (.aload_n 0, 1) := by decide +kernel
theorem dX5_access_22 : decode cX5_access 22 = .ok (.getfield 26, 3) := by decide +kernel
theorem dX5_access_25 : decode cX5_access 25 = .ok (.iload 6, 2) := by decide +kernel
theorem dX5_access_27 : decode cX5_access 27 = .ok (.aload_n 0, 1) := by decide +kernel
theorem dX5_access_28 : decode cX5_access 28 = .ok (.iconst 2, 1) := by decide +kernel
theorem dX5_access_29 : decode cX5_access 29 = .ok (.invokevirtual 121, 3) := by decide +kernel
theorem dX5_access_32 : decode cX5_access 32 = .ok (.iastore, 1) := by decide +kernel
theorem dX5_access_33 : decode cX5_access 33 = .ok (.aload_n 0, 1) := by decide +kernel
theorem dX5_access_34 : decode cX5_access 34 = .ok (.getfield 32, 3) := by decide +kernel
theorem dX5_access_37 : decode cX5_access 37 = .ok (.aload_n 0, 1) := by decide +kernel
theorem dX5_access_38 : decode cX5_access 38 = .ok (.getfield 124, 3) := by decide +kernel
theorem dX5_access_41 : decode cX5_access 41 = .ok (.bipush 64, 2) := by decide +kernel
theorem dX5_access_43 : decode cX5_access 43 = .ok (.irem, 1) := by decide +kernel
theorem dX5_access_44 : decode cX5_access 44 = .ok (.iload 8, 2) := by decide +kernel
theorem dX5_access_46 : decode cX5_access 46 = .ok (.iastore, 1) := by decide +kernel
theorem dX5_access_47 : decode cX5_access 47 = .ok (.aload_n 0, 1) := by decide +kernel
theorem dX5_access_48 : decode cX5_access 48 = .ok (.getfield 35, 3) := by decide +kernel
theorem dX5_access_51 : decode cX5_access 51 = .ok (.aload_n 0, 1) := by decide +kernel
theorem dX5_access_52 : decode cX5_access 52 = .ok (.getfield 124, 3) := by decide +kernel
theorem dX5_access_55 : decode cX5_access 55 = .ok (.bipush 64, 2) := by decide +kernel
theorem dX5_access_57 : decode cX5_access 57 = .ok (.irem, 1) := by decide +kernel
theorem dX5_access_58 : decode cX5_access 58 = .ok (.iconst (-1), 1) := by decide +kernel
theorem dX5_access_59 : decode cX5_access 59 = .ok (.iastore, 1) := by decide +kernel
theorem dX5_access_60 : decode cX5_access 60 = .ok (.aload_n 0, 1) := by decide +kernel
theorem dX5_access_61 : decode cX5_access 61 = .ok (.dup, 1) := by decide +kernel
theorem dX5_access_62 : decode cX5_access 62 = .ok (.getfield 124, 3) := by decide +kernel
theorem dX5_access_65 : decode cX5_access 65 = .ok (.iconst 1, 1) := by decide +kernel
theorem dX5_access_66 : decode cX5_access 66 = .ok (.iadd, 1) := by decide +kernel
theorem dX5_access_67 : decode cX5_access 67 = .ok (.putfield 124, 3) := by decide +kernel
theorem dX5_access_70 : decode cX5_access 70 = .ok (.aload_n 0, 1) := by decide +kernel
theorem dX5_access_71 : decode cX5_access 71 = .ok (.iconst 0, 1) := by decide +kernel
theorem dX5_access_72 : decode cX5_access 72 = .ok (.iload 8, 2) := by decide +kernel
theorem dX5_access_74 : decode cX5_access 74 = .ok (.invokevirtual 127, 3) := by decide +kernel
theorem dX5_access_77 : decode cX5_access 77 = .ok (.ifCond .ne 10, 3) := by decide +kernel
theorem dX5_access_80 : decode cX5_access 80 = .ok (.aload_n 0, 1) := by decide +kernel
theorem dX5_access_81 : decode cX5_access 81 = .ok (.iconst 1, 1) := by decide +kernel
theorem dX5_access_82 : decode cX5_access 82 = .ok (.putfield 131, 3) := by decide +kernel
theorem dX5_access_85 : decode cX5_access 85 = .ok (.iconst 0, 1) := by decide +kernel
theorem dX5_access_86 : decode cX5_access 86 = .ok (.ireturn, 1) := by decide +kernel
theorem dX5_access_87 : decode cX5_access 87 = .ok (.aload_n 0, 1) := by decide +kernel
theorem dX5_access_88 : decode cX5_access 88 = .ok (.getfield 20, 3) := by decide +kernel
theorem dX5_access_91 : decode cX5_access 91 = .ok (.iload 6, 2) := by decide +kernel
theorem dX5_access_93 : decode cX5_access 93 = .ok (.aload_n 0, 1) := by decide +kernel
theorem dX5_access_94 : decode cX5_access 94 = .ok (.getfield 26, 3) := by decide +kernel
theorem dX5_access_97 : decode cX5_access 97 = .ok (.iload 6, 2) := by decide +kernel
theorem dX5_access_99 : decode cX5_access 99 = .ok (.iaload, 1) := by decide +kernel
theorem dX5_access_100 : decode cX5_access 100 = .ok (.iastore, 1) := by decide +kernel
theorem dX5_access_101 : decode cX5_access 101 = .ok (.bipush 16, 2) := by decide +kernel
theorem dX5_access_103 : decode cX5_access 103 = .ok (.iload 7, 2) := by decide +kernel
theorem dX5_access_105 : decode cX5_access 105 = .ok (.iconst 2, 1) := by decide +kernel
theorem dX5_access_106 : decode cX5_access 106 = .ok (.irem, 1) := by decide +kernel
theorem dX5_access_107 : decode cX5_access 107 = .ok (.imul, 1) := by decide +kernel
theorem dX5_access_108 : decode cX5_access 108 = .ok (.istore 9, 2) := by decide +kernel
theorem dX5_access_110 : decode cX5_access 110 = .ok (.aload_n 0, 1) := by decide +kernel
theorem dX5_access_111 : decode cX5_access 111 = .ok (.getfield 23, 3) := by decide +kernel
theorem dX5_access_114 : decode cX5_access 114 = .ok (.iconst 4, 1) := by decide +kernel
theorem dX5_access_115 : decode cX5_access 115 = .ok (.iload 6, 2) := by decide +kernel
theorem dX5_access_117 : decode cX5_access 117 = .ok (.imul, 1) := by decide +kernel
theorem dX5_access_118 : decode cX5_access 118 = .ok (.iload 7, 2) := by decide +kernel
theorem dX5_access_120 : decode cX5_access 120 = .ok (.iconst 2, 1) := by decide +kernel
theorem dX5_access_121 : decode cX5_access 121 = .ok (.idiv, 1) := by decide +kernel
theorem dX5_access_122 : decode cX5_access 122 = .ok (.iadd, 1) := by decide +kernel
theorem dX5_access_123 : decode cX5_access 123 = .ok (.iaload, 1) := by decide +kernel
theorem dX5_access_124 : decode cX5_access 124 = .ok (.iload 9, 2) := by decide +kernel
theorem dX5_access_126 : decode cX5_access 126 = .ok (.ishr, 1) := by decide +kernel
theorem dX5_access_127 : decode cX5_access 127 = .ok (.bipush 31, 2) := by decide +kernel
theorem dX5_access_129 : decode cX5_access 129 = .ok (.iand, 1) := by decide +kernel
theorem dX5_access_130 : decode cX5_access 130 = .ok (.istore 10, 2) := by decide +kernel
theorem dX5_access_132 : decode cX5_access 132 = .ok (.aload_n 0, 1) := by decide +kernel
theorem dX5_access_133 : decode cX5_access 133 = .ok (.iconst 5, 1) := by decide +kernel
theorem dX5_access_134 : decode cX5_access 134 = .ok (.invokevirtual 121, 3) := by decide +kernel
theorem dX5_access_137 : decode cX5_access 137 = .ok (.istore 11, 2) := by decide +kernel
theorem dX5_access_139 : decode cX5_access 139 = .ok (.aload_n 0, 1) := by decide +kernel
theorem dX5_access_140 : decode cX5_access 140 = .ok (.getfield 23, 3) := by decide +kernel
theorem dX5_access_143 : decode cX5_access 143 = .ok (.iconst 4, 1) := by decide +kernel
theorem dX5_access_144 : decode cX5_access 144 = .ok (.iload 6, 2) := by decide +kernel
theorem dX5_access_146 : decode cX5_access 146 = .ok (.imul, 1) := by decide +kernel
theorem dX5_access_147 : decode cX5_access 147 = .ok (.iload 7, 2) := by decide +kernel
theorem dX5_access_149 : decode cX5_access 149 = .ok (.iconst 2, 1) := by decide +kernel
theorem dX5_access_150 : decode cX5_access 150 = .ok (.idiv, 1) := by decide +kernel
theorem dX5_access_151 : decode cX5_access 151 = .ok (.iadd, 1) := by decide +kernel
theorem dX5_access_152 : decode cX5_access 152 = .ok (.aload_n 0, 1) := by decide +kernel
theorem dX5_access_153 : decode cX5_access 153 = .ok (.getfield 23, 3) := by decide +kernel
theorem dX5_access_156 : decode cX5_access 156 = .ok (.iconst 4, 1) := by decide +kernel
theorem dX5_access_157 : decode cX5_access 157 = .ok (.iload 6, 2) := by decide +kernel
theorem dX5_access_159 : decode cX5_access 159 = .ok (.imul, 1) := by decide +kernel
theorem dX5_access_160 : decode cX5_access 160 = .ok (.iload 7, 2) := by decide +kernel
theorem dX5_access_162 : decode cX5_access 162 = .ok (.iconst 2, 1) := by decide +kernel
theorem dX5_access_163 : decode cX5_access 163 = .ok (.idiv, 1) := by decide +kernel
theorem dX5_access_164 : decode cX5_access 164 = .ok (.iadd, 1) := by decide +kernel
theorem dX5_access_165 : decode cX5_access 165 = .ok (.iaload, 1) := by decide +kernel
theorem dX5_access_166 : decode cX5_access 166 = .ok (.bipush 31, 2) := by decide +kernel
theorem dX5_access_168 : decode cX5_access 168 = .ok (.iload 9, 2) := by decide +kernel
theorem dX5_access_170 : decode cX5_access 170 = .ok (.ishl, 1) := by decide +kernel
theorem dX5_access_171 : decode cX5_access 171 = .ok (.iconst (-1), 1) := by decide +kernel
theorem dX5_access_172 : decode cX5_access 172 = .ok (.ixor, 1) := by decide +kernel
theorem dX5_access_173 : decode cX5_access 173 = .ok (.iand, 1) := by decide +kernel
theorem dX5_access_174 : decode cX5_access 174 = .ok (.iload 11, 2) := by decide +kernel
theorem dX5_access_176 : decode cX5_access 176 = .ok (.iload 9, 2) := by decide +kernel
theorem dX5_access_178 : decode cX5_access 178 = .ok (.ishl, 1) := by decide +kernel
theorem dX5_access_179 : decode cX5_access 179 = .ok (.ior, 1) := by decide +kernel
theorem dX5_access_180 : decode cX5_access 180 = .ok (.iastore, 1) := by decide +kernel
theorem dX5_access_181 : decode cX5_access 181 = .ok (.aload_n 0, 1) := by decide +kernel
theorem dX5_access_182 : decode cX5_access 182 = .ok (.iconst 0, 1) := by decide +kernel
theorem dX5_access_183 : decode cX5_access 183 = .ok (.iload 8, 2) := by decide +kernel
theorem dX5_access_185 : decode cX5_access 185 = .ok (.invokevirtual 135, 3) := by decide +kernel
theorem dX5_access_188 : decode cX5_access 188 = .ok (.aload_n 0, 1) := by decide +kernel
theorem dX5_access_189 : decode cX5_access 189 = .ok (.getfield 35, 3) := by decide +kernel
theorem dX5_access_192 : decode cX5_access 192 = .ok (.aload_n 0, 1) := by decide +kernel
theorem dX5_access_193 : decode cX5_access 193 = .ok (.getfield 124, 3) := by decide +kernel
theorem dX5_access_196 : decode cX5_access 196 = .ok (.iconst 1, 1) := by decide +kernel
theorem dX5_access_197 : decode cX5_access 197 = .ok (.isub, 1) := by decide +kernel
theorem dX5_access_198 : decode cX5_access 198 = .ok (.bipush 64, 2) := by decide +kernel
theorem dX5_access_200 : decode cX5_access 200 = .ok (.irem, 1) := by decide +kernel
theorem dX5_access_201 : decode cX5_access 201 = .ok (.iload 10, 2) := by decide +kernel
theorem dX5_access_203 : decode cX5_access 203 = .ok (.iastore, 1) := by decide +kernel
theorem dX5_access_204 : decode cX5_access 204 = .ok (.aload_n 0, 1) := by decide +kernel
theorem dX5_access_205 : decode cX5_access 205 = .ok (.iconst 1, 1) := by decide +kernel
theorem dX5_access_206 : decode cX5_access 206 = .ok (.iload 10, 2) := by decide +kernel
theorem dX5_access_208 : decode cX5_access 208 = .ok (.invokevirtual 127, 3) := by decide +kernel
theorem dX5_access_211 : decode cX5_access 211 = .ok (.ifCond .ne 10, 3) := by decide +kernel
theorem dX5_access_214 : decode cX5_access 214 = .ok (.aload_n 0, 1) := by decide +kernel
theorem dX5_access_215 : decode cX5_access 215 = .ok (.iconst 1, 1) := by decide +kernel
theorem dX5_access_216 : decode cX5_access 216 = .ok (.putfield 131, 3) := by decide +kernel
theorem dX5_access_219 : decode cX5_access 219 = .ok (.iconst 0, 1) := by decide +kernel
theorem dX5_access_220 : decode cX5_access 220 = .ok (.ireturn, 1) := by decide +kernel
theorem dX5_access_221 : decode cX5_access 221 = .ok (.bipush 8, 2) := by decide +kernel
theorem dX5_access_223 : decode cX5_access 223 = .ok (.iload_n 1, 1) := by decide +kernel
theorem dX5_access_224 : decode cX5_access 224 = .ok (.iadd, 1) := by decide +kernel
theorem dX5_access_225 : decode cX5_access 225 = .ok (.istore 12, 2) := by decide +kernel
theorem dX5_access_227 : decode cX5_access 227 = .ok (.aload_n 0, 1) := by decide +kernel
theorem dX5_access_228 : decode cX5_access 228 = .ok (.getfield 20, 3) := by decide +kernel
theorem dX5_access_231 : decode cX5_access 231 = .ok (.iload 12, 2) := by decide +kernel
theorem dX5_access_233 : decode cX5_access 233 = .ok (.iload 11, 2) := by decide +kernel
theorem dX5_access_235 : decode cX5_access 235 = .ok (.iastore, 1) := by decide +kernel
theorem dX5_access_236 : decode cX5_access 236 = .ok (.iconst 0, 1) := by decide +kernel
theorem dX5_access_237 : decode cX5_access 237 = .ok (.istore 13, 2) := by decide +kernel
theorem dX5_access_239 : decode cX5_access 239 = .ok (.iload 13, 2) := by decide +kernel
theorem dX5_access_241 : decode cX5_access 241 = .ok (.iconst 4, 1) := by decide +kernel
theorem dX5_access_242 : decode cX5_access 242 = .ok (.if_icmp .ge 27, 3) := by decide +kernel
theorem dX5_access_245 : decode cX5_access 245 = .ok (.iload 4, 2) := by decide +kernel
theorem dX5_access_247 : decode cX5_access 247 = .ok (.ifCond .eq 22, 3) := by decide +kernel
theorem dX5_access_250 : decode cX5_access 250 = .ok (.aload_n 0, 1) := by decide +kernel
theorem dX5_access_251 : decode cX5_access 251 = .ok (.getfield 23, 3) := by decide +kernel
theorem dX5_access_254 : decode cX5_access 254 = .ok (.iconst 4, 1) := by decide +kernel
theorem dX5_access_255 : decode cX5_access 255 = .ok (.iload 12, 2) := by decide +kernel
theorem dX5_access_257 : decode cX5_access 257 = .ok (.imul, 1) := by decide +kernel
theorem dX5_access_258 : decode cX5_access 258 = .ok (.iload 13, 2) := by decide +kernel
theorem dX5_access_260 : decode cX5_access 260 = .ok (.iadd, 1) := by decide +kernel
theorem dX5_access_261 : decode cX5_access 261 = .ok (.iconst 0, 1) := by decide +kernel
theorem dX5_access_262 : decode cX5_access 262 = .ok (.iastore, 1) := by decide +kernel
theorem dX5_access_263 : decode cX5_access 263 = .ok (.iinc 13 1, 3) := by decide +kernel
theorem dX5_access_266 : decode cX5_access 266 = .ok (.goto (-27), 3) := by decide +kernel
theorem dX5_access_269 : decode cX5_access 269 = .ok (.iload_n 3, 1) := by decide +kernel
theorem dX5_access_270 : decode cX5_access 270 = .ok (.ifCond .eq 16, 3) := by decide +kernel
theorem dX5_access_273 : decode cX5_access 273 = .ok (.aload_n 0, 1) := by decide +kernel
theorem dX5_access_274 : decode cX5_access 274 = .ok (.getfield 23, 3) := by decide +kernel
theorem dX5_access_277 : decode cX5_access 277 = .ok (.iconst 4, 1) := by decide +kernel
theorem dX5_access_278 : decode cX5_access 278 = .ok (.iload 12, 2) := by decide +kernel
theorem dX5_access_280 : decode cX5_access 280 = .ok (.imul, 1) := by decide +kernel
theorem dX5_access_281 : decode cX5_access 281 = .ok (.iload_n 2, 1) := by decide +kernel
theorem dX5_access_282 : decode cX5_access 282 = .ok (.iadd, 1) := by decide +kernel
theorem dX5_access_283 : decode cX5_access 283 = .ok (.iload 5, 2) := by decide +kernel
theorem dX5_access_285 : decode cX5_access 285 = .ok (.iastore, 1) := by decide +kernel
theorem dX5_access_286 : decode cX5_access 286 = .ok (.aload_n 0, 1) := by decide +kernel
theorem dX5_access_287 : decode cX5_access 287 = .ok (.aload_n 0, 1) := by decide +kernel
theorem dX5_access_288 : decode cX5_access 288 = .ok (.getfield 23, 3) := by decide +kernel
theorem dX5_access_291 : decode cX5_access 291 = .ok (.iconst 4, 1) := by decide +kernel
theorem dX5_access_292 : decode cX5_access 292 = .ok (.iload 12, 2) := by decide +kernel
theorem dX5_access_294 : decode cX5_access 294 = .ok (.imul, 1) := by decide +kernel
theorem dX5_access_295 : decode cX5_access 295 = .ok (.iload_n 2, 1) := by decide +kernel
theorem dX5_access_296 : decode cX5_access 296 = .ok (.iadd, 1) := by decide +kernel
theorem dX5_access_297 : decode cX5_access 297 = .ok (.iaload, 1) := by decide +kernel
theorem dX5_access_298 : decode cX5_access 298 = .ok (.putfield 138, 3) := by decide +kernel
theorem dX5_access_301 : decode cX5_access 301 = .ok (.aload_n 0, 1) := by decide +kernel
theorem dX5_access_302 : decode cX5_access 302 = .ok (.iconst 1, 1) := by decide +kernel
theorem dX5_access_303 : decode cX5_access 303 = .ok (.iload 10, 2) := by decide +kernel
theorem dX5_access_305 : decode cX5_access 305 = .ok (.invokevirtual 135, 3) := by decide +kernel
theorem dX5_access_308 : decode cX5_access 308 = .ok (.iconst 1, 1) := by decide +kernel
theorem dX5_access_309 : decode cX5_access 309 = .ok (.ireturn, 1) := by decide +kernel
set_option maxRecDepth 20000 in
theorem ggX5_begin_X5_draw : GoodIn wsX5_begin wsX5_draw := goodIn_r _ [18, 1, 59, 60, 61, 62, 63, 64, 65, 66, 67, 68, 69, 70, 71, 72, 73, 74, 75, 76, 77, 78] (by decide +kernel) (by decide +kernel)
set_option maxRecDepth 20000 in
theorem gX5_begin_X5_draw : GoodIn wsX5_begin (wsV RX5 121 RX5 yX5_draw wsX5_draw) := goodIn_app (goodIn_of _ (by decide +kernel)) ggX5_begin_X5_draw
set_option maxRecDepth 20000 in
theorem ggX5_begin_X5_blocks : GoodIn wsX5_begin wsX5_blocks := goodIn_r _ [21] (by decide +kernel) (by decide +kernel)
set_option maxRecDepth 20000 in
theorem gX5_begin_X5_blocks : GoodIn wsX5_begin (va_wsS RX5 105 yX5_blocks wsX5_blocks) := goodIn_app (goodIn_of _ (by decide +kernel)) ggX5_begin_X5_blocks
set_option maxRecDepth 20000 in
theorem ggX5_begin_X5_settle : GoodIn wsX5_begin wsX5_settle := goodIn_r _ [25, 11, 9, 12, 8, 26, 27, 17, 28, 29, 30, 31, 32, 33, 34, 35, 36, 37, 38, 39, 40, 59, 60, 61, 62, 63, 64, 65, 66, 67, 68, 69, 70, 71, 72, 73, 74, 75, 76, 77, 78] (by decide +kernel) (by decide +kernel)
set_option maxRecDepth 20000 in
theorem gX5_begin_X5_settle : GoodIn wsX5_begin (wsV RX5 141 RX5 yX5_settle wsX5_settle) := goodIn_app (goodIn_of _ (by decide +kernel)) ggX5_begin_X5_settle
set_option maxRecDepth 20000 in
theorem ggX5_begin_X5_buckets : GoodIn wsX5_begin wsX5_buckets := goodIn_r _ [37] (by decide +kernel) (by decide +kernel)
set_option maxRecDepth 20000 in
theorem gX5_begin_X5_buckets : GoodIn wsX5_begin (va_wsS RX5 65 yX5_buckets wsX5_buckets) := goodIn_app (goodIn_of _ (by decide +kernel)) ggX5_begin_X5_buckets
set_option maxRecDepth 20000 in
theorem ggX5_begin_X5_place : GoodIn wsX5_begin wsX5_place := goodIn_r _ [40] (by decide +kernel) (by decide +kernel)
set_option maxRecDepth 20000 in
theorem gX5_begin_X5_place : GoodIn wsX5_begin (va_wsS RX5 80 yX5_place wsX5_place) := goodIn_app (goodIn_of _ (by decide +kernel)) ggX5_begin_X5_place
set_option maxRecDepth 20000 in
theorem ggX5_begin_X5_seal : GoodIn wsX5_begin wsX5_seal := goodIn_r _ [44, 12, 13, 38, 39, 17, 40, 45, 46, 47, 48, 2, 49, 7, 50, 51, 52, 53, 54, 55, 56, 57, 58, 59, 60, 61, 62, 63, 64, 65, 66, 67, 68, 69, 70, 71, 72, 73, 74, 75, 76, 77, 78] (by decide +kernel) (by decide +kernel)
set_option maxRecDepth 20000 in
theorem gX5_begin_X5_seal : GoodIn wsX5_begin (wsV RX5 118 RX5 yX5_seal wsX5_seal) := goodIn_app (goodIn_of _ (by decide +kernel)) ggX5_begin_X5_seal
theorem dX5_begin_0 : decode cX5_begin 0 = .ok (.aload_n 0, 1) := by decide +kernel
theorem dX5_begin_1 : decode cX5_begin 1 = .ok (.iload_n 1, 1) := by decide +kernel
theorem dX5_begin_2 : decode cX5_begin 2 = .ok (.ifCond .ne 7, 3) := by decide +kernel
theorem dX5_begin_5 : decode cX5_begin 5 = .ok (.iconst 1, 1) := by decide +kernel
theorem dX5_begin_6 : decode cX5_begin 6 = .ok (.goto 4, 3) := by decide +kernel
theorem dX5_begin_9 : decode cX5_begin 9 = .ok (.iload_n 1, 1) := by decide +kernel
theorem dX5_begin_10 : decode cX5_begin 10 = .ok (.putfield 62, 3) := by decide +kernel
theorem dX5_begin_13 : decode cX5_begin 13 = .ok (.aload_n 0, 1) := by decide +kernel
theorem dX5_begin_14 : decode cX5_begin 14 = .ok (.iload_n 2, 1) := by decide +kernel
theorem dX5_begin_15 : decode cX5_begin 15 = .ok (.putfield 76, 3) := by decide +kernel
theorem dX5_begin_18 : decode cX5_begin 18 = .ok (.aload_n 0, 1) := by decide +kernel
theorem dX5_begin_19 : decode cX5_begin 19 = .ok (.iconst 0, 1) := by decide +kernel
theorem dX5_begin_20 : decode cX5_begin 20 = .ok (.putfield 131, 3) := by decide +kernel
theorem dX5_begin_23 : decode cX5_begin 23 = .ok (.aload_n 0, 1) := by decide +kernel
theorem dX5_begin_24 : decode cX5_begin 24 = .ok (.iconst 0, 1) := by decide +kernel
theorem dX5_begin_25 : decode cX5_begin 25 = .ok (.putfield 124, 3) := by decide +kernel
theorem dX5_begin_28 : decode cX5_begin 28 = .ok (.iconst 0, 1) := by decide +kernel
theorem dX5_begin_29 : decode cX5_begin 29 = .ok (.istore_n 3, 1) := by decide +kernel
theorem dX5_begin_30 : decode cX5_begin 30 = .ok (.iload_n 3, 1) := by decide +kernel
theorem dX5_begin_31 : decode cX5_begin 31 = .ok (.bipush 8, 2) := by decide +kernel
theorem dX5_begin_33 : decode cX5_begin 33 = .ok (.if_icmp .ge 16, 3) := by decide +kernel
theorem dX5_begin_36 : decode cX5_begin 36 = .ok (.aload_n 0, 1) := by decide +kernel
theorem dX5_begin_37 : decode cX5_begin 37 = .ok (.getfield 38, 3) := by decide +kernel
theorem dX5_begin_40 : decode cX5_begin 40 = .ok (.iload_n 3, 1) := by decide +kernel
theorem dX5_begin_41 : decode cX5_begin 41 = .ok (.iconst 0, 1) := by decide +kernel
theorem dX5_begin_42 : decode cX5_begin 42 = .ok (.bastore, 1) := by decide +kernel
theorem dX5_begin_43 : decode cX5_begin 43 = .ok (.iinc 3 1, 3) := by decide +kernel
theorem dX5_begin_46 : decode cX5_begin 46 = .ok (.goto (-16), 3) := by decide +kernel
theorem dX5_begin_49 : decode cX5_begin 49 = .ok (.iconst 0, 1) := by decide +kernel
theorem dX5_begin_50 : decode cX5_begin 50 = .ok (.istore_n 3, 1) := by decide +kernel
theorem dX5_begin_51 : decode cX5_begin 51 = .ok (.iload_n 3, 1) := by decide +kernel
theorem dX5_begin_52 : decode cX5_begin 52 = .ok (.bipush 64, 2) := by decide +kernel
theorem dX5_begin_54 : decode cX5_begin 54 = .ok (.if_icmp .ge 16, 3) := by decide +kernel
theorem dX5_begin_57 : decode cX5_begin 57 = .ok (.aload_n 0, 1) := by decide +kernel
theorem dX5_begin_58 : decode cX5_begin 58 = .ok (.getfield 51, 3) := by decide +kernel
theorem dX5_begin_61 : decode cX5_begin 61 = .ok (.iload_n 3, 1) := by decide +kernel
theorem dX5_begin_62 : decode cX5_begin 62 = .ok (.iconst 0, 1) := by decide +kernel
theorem dX5_begin_63 : decode cX5_begin 63 = .ok (.bastore, 1) := by decide +kernel
theorem dX5_begin_64 : decode cX5_begin 64 = .ok (.iinc 3 1, 3) := by decide +kernel
theorem dX5_begin_67 : decode cX5_begin 67 = .ok (.goto (-16), 3) := by decide +kernel
theorem dX5_begin_70 : decode cX5_begin 70 = .ok (.iconst 0, 1) := by decide +kernel
theorem dX5_begin_71 : decode cX5_begin 71 = .ok (.istore_n 3, 1) := by decide +kernel
theorem dX5_begin_72 : decode cX5_begin 72 = .ok (.iload_n 3, 1) := by decide +kernel
theorem dX5_begin_73 : decode cX5_begin 73 = .ok (.bipush 70, 2) := by decide +kernel
theorem dX5_begin_75 : decode cX5_begin 75 = .ok (.if_icmp .ge 16, 3) := by decide +kernel
theorem dX5_begin_78 : decode cX5_begin 78 = .ok (.aload_n 0, 1) := by decide +kernel
theorem dX5_begin_79 : decode cX5_begin 79 = .ok (.getfield 13, 3) := by decide +kernel
theorem dX5_begin_82 : decode cX5_begin 82 = .ok (.iload_n 3, 1) := by decide +kernel
theorem dX5_begin_83 : decode cX5_begin 83 = .ok (.iconst 1, 1) := by decide +kernel
theorem dX5_begin_84 : decode cX5_begin 84 = .ok (.iastore, 1) := by decide +kernel
theorem dX5_begin_85 : decode cX5_begin 85 = .ok (.iinc 3 1, 3) := by decide +kernel
theorem dX5_begin_88 : decode cX5_begin 88 = .ok (.goto (-16), 3) := by decide +kernel
theorem dX5_begin_91 : decode cX5_begin 91 = .ok (.iconst 0, 1) := by decide +kernel
theorem dX5_begin_92 : decode cX5_begin 92 = .ok (.istore_n 3, 1) := by decide +kernel
theorem dX5_begin_93 : decode cX5_begin 93 = .ok (.iload_n 3, 1) := by decide +kernel
theorem dX5_begin_94 : decode cX5_begin 94 = .ok (.sipush 288, 3) := by decide +kernel
theorem dX5_begin_97 : decode cX5_begin 97 = .ok (.if_icmp .ge 16, 3) := by decide +kernel
theorem dX5_begin_100 : decode cX5_begin 100 = .ok (.aload_n 0, 1) := by decide +kernel
theorem dX5_begin_101 : decode cX5_begin 101 = .ok (.getfield 23, 3) := by decide +kernel
theorem dX5_begin_104 : decode cX5_begin 104 = .ok (.iload_n 3, 1) := by decide +kernel
theorem dX5_begin_105 : decode cX5_begin 105 = .ok (.iconst 0, 1) := by decide +kernel
theorem dX5_begin_106 : decode cX5_begin 106 = .ok (.iastore, 1) := by decide +kernel
theorem dX5_begin_107 : decode cX5_begin 107 = .ok (.iinc 3 1, 3) := by decide +kernel
theorem dX5_begin_110 : decode cX5_begin 110 = .ok (.goto (-17), 3) := by decide +kernel
theorem dX5_begin_113 : decode cX5_begin 113 = .ok (.iconst 0, 1) := by decide +kernel
theorem dX5_begin_114 : decode cX5_begin 114 = .ok (.istore_n 3, 1) := by decide +kernel
theorem dX5_begin_115 : decode cX5_begin 115 = .ok (.iload_n 3, 1) := by decide +kernel
theorem dX5_begin_116 : decode cX5_begin 116 = .ok (.bipush 8, 2) := by decide +kernel
theorem dX5_begin_118 : decode cX5_begin 118 = .ok (.if_icmp .ge 32, 3) := by decide +kernel
theorem dX5_begin_121 : decode cX5_begin 121 = .ok (.aload_n 0, 1) := by decide +kernel
theorem dX5_begin_122 : decode cX5_begin 122 = .ok (.getfield 20, 3) := by decide +kernel
theorem dX5_begin_125 : decode cX5_begin 125 = .ok (.iload_n 3, 1) := by decide +kernel
theorem dX5_begin_126 : decode cX5_begin 126 = .ok (.aload_n 0, 1) := by decide +kernel
theorem dX5_begin_127 : decode cX5_begin 127 = .ok (.iconst 2, 1) := by decide +kernel
theorem dX5_begin_128 : decode cX5_begin 128 = .ok (.invokevirtual 121, 3) := by decide +kernel
theorem dX5_begin_131 : decode cX5_begin 131 = .ok (.iastore, 1) := by decide +kernel
theorem dX5_begin_132 : decode cX5_begin 132 = .ok (.aload_n 0, 1) := by decide +kernel
theorem dX5_begin_133 : decode cX5_begin 133 = .ok (.getfield 26, 3) := by decide +kernel
theorem dX5_begin_136 : decode cX5_begin 136 = .ok (.iload_n 3, 1) := by decide +kernel
theorem dX5_begin_137 : decode cX5_begin 137 = .ok (.aload_n 0, 1) := by decide +kernel
theorem dX5_begin_138 : decode cX5_begin 138 = .ok (.getfield 20, 3) := by decide +kernel
theorem dX5_begin_141 : decode cX5_begin 141 = .ok (.iload_n 3, 1) := by decide +kernel
theorem dX5_begin_142 : decode cX5_begin 142 = .ok (.iaload, 1) := by decide +kernel
theorem dX5_begin_143 : decode cX5_begin 143 = .ok (.iastore, 1) := by decide +kernel
theorem dX5_begin_144 : decode cX5_begin 144 = .ok (.iinc 3 1, 3) := by decide +kernel
theorem dX5_begin_147 : decode cX5_begin 147 = .ok (.goto (-32), 3) := by decide +kernel
theorem dX5_begin_150 : decode cX5_begin 150 = .ok (.iconst 0, 1) := by decide +kernel
theorem dX5_begin_151 : decode cX5_begin 151 = .ok (.istore_n 3, 1) := by decide +kernel
theorem dX5_begin_152 : decode cX5_begin 152 = .ok (.iload_n 3, 1) := by decide +kernel
theorem dX5_begin_153 : decode cX5_begin 153 = .ok (.bipush 64, 2) := by decide +kernel
theorem dX5_begin_155 : decode cX5_begin 155 = .ok (.if_icmp .ge 60, 3) := by decide +kernel
theorem dX5_begin_158 : decode cX5_begin 158 = .ok (.aload_n 0, 1) := by decide +kernel
theorem dX5_begin_159 : decode cX5_begin 159 = .ok (.getfield 20, 3) := by decide +kernel
theorem dX5_begin_162 : decode cX5_begin 162 = .ok (.bipush 8, 2) := by decide +kernel
theorem dX5_begin_164 : decode cX5_begin 164 = .ok (.iload_n 3, 1) := by decide +kernel
theorem dX5_begin_165 : decode cX5_begin 165 = .ok (.iadd, 1) := by decide +kernel
theorem dX5_begin_166 : decode cX5_begin 166 = .ok (.aload_n 0, 1) := by decide +kernel
theorem dX5_begin_167 : decode cX5_begin 167 = .ok (.iconst 5, 1) := by decide +kernel
theorem dX5_begin_168 : decode cX5_begin 168 = .ok (.invokevirtual 121, 3) := by decide +kernel
theorem dX5_begin_171 : decode cX5_begin 171 = .ok (.iastore, 1) := by decide +kernel
theorem dX5_begin_172 : decode cX5_begin 172 = .ok (.aload_n 0, 1) := by decide +kernel
theorem dX5_begin_173 : decode cX5_begin 173 = .ok (.getfield 23, 3) := by decide +kernel
theorem dX5_begin_176 : decode cX5_begin 176 = .ok (.iconst 4, 1) := by decide +kernel
theorem dX5_begin_177 : decode cX5_begin 177 = .ok (.iload_n 3, 1) := by decide +kernel
theorem dX5_begin_178 : decode cX5_begin 178 = .ok (.bipush 8, 2) := by decide +kernel
theorem dX5_begin_180 : decode cX5_begin 180 = .ok (.idiv, 1) := by decide +kernel
theorem dX5_begin_181 : decode cX5_begin 181 = .ok (.imul, 1) := by decide +kernel
theorem dX5_begin_182 : decode cX5_begin 182 = .ok (.iload_n 3, 1) := by decide +kernel
theorem dX5_begin_183 : decode cX5_begin 183 = .ok (.bipush 8, 2) := by decide +kernel
theorem dX5_begin_185 : decode cX5_begin 185 = .ok (.irem, 1) := by decide +kernel
theorem dX5_begin_186 : decode cX5_begin 186 = .ok (.iconst 2, 1) := by decide +kernel
theorem dX5_begin_187 : decode cX5_begin 187 = .ok (.idiv, 1) := by decide +kernel
theorem dX5_begin_188 : decode cX5_begin 188 = .ok (.iadd, 1) := by decide +kernel
theorem dX5_begin_189 : decode cX5_begin 189 = .ok (.dup2, 1) := by decide +kernel
theorem dX5_begin_190 : decode cX5_begin 190 = .ok (.iaload, 1) := by decide +kernel
theorem dX5_begin_191 : decode cX5_begin 191 = .ok (.aload_n 0, 1) := by decide +kernel
theorem dX5_begin_192 : decode cX5_begin 192 = .ok (.getfield 20, 3) := by decide +kernel
theorem dX5_begin_195 : decode cX5_begin 195 = .ok (.bipush 8, 2) := by decide +kernel
theorem dX5_begin_197 : decode cX5_begin 197 = .ok (.iload_n 3, 1) := by decide +kernel
theorem dX5_begin_198 : decode cX5_begin 198 = .ok (.iadd, 1) := by decide +kernel
theorem dX5_begin_199 : decode cX5_begin 199 = .ok (.iaload, 1) := by decide +kernel
theorem dX5_begin_200 : decode cX5_begin 200 = .ok (.bipush 16, 2) := by decide +kernel
theorem dX5_begin_202 : decode cX5_begin 202 = .ok (.iload_n 3, 1) := by decide +kernel
theorem dX5_begin_203 : decode cX5_begin 203 = .ok (.iconst 2, 1) := by decide +kernel
theorem dX5_begin_204 : decode cX5_begin 204 = .ok (.irem, 1) := by decide +kernel
theorem dX5_begin_205 : decode cX5_begin 205 = .ok (.imul, 1) := by decide +kernel
theorem dX5_begin_206 : decode cX5_begin 206 = .ok (.ishl, 1) := by decide +kernel
theorem dX5_begin_207 : decode cX5_begin 207 = .ok (.ior, 1) := by decide +kernel
theorem dX5_begin_208 : decode cX5_begin 208 = .ok (.iastore, 1) := by decide +kernel
theorem dX5_begin_209 : decode cX5_begin 209 = .ok (.iinc 3 1, 3) := by decide +kernel
theorem dX5_begin_212 : decode cX5_begin 212 = .ok (.goto (-60), 3) := by decide +kernel
theorem dX5_begin_215 : decode cX5_begin 215 = .ok (.iconst 0, 1) := by decide +kernel
theorem dX5_begin_216 : decode cX5_begin 216 = .ok (.istore_n 3, 1) := by decide +kernel
theorem dX5_begin_217 : decode cX5_begin 217 = .ok (.iload_n 3, 1) := by decide +kernel
theorem dX5_begin_218 : decode cX5_begin 218 = .ok (.bipush 72, 2) := by decide +kernel
theorem dX5_begin_220 : decode cX5_begin 220 = .ok (.if_icmp .ge 16, 3) := by decide +kernel
theorem dX5_begin_223 : decode cX5_begin 223 = .ok (.aload_n 0, 1) := by decide +kernel
theorem dX5_begin_224 : decode cX5_begin 224 = .ok (.getfield 16, 3) := by decide +kernel
theorem dX5_begin_227 : decode cX5_begin 227 = .ok (.iload_n 3, 1) := by decide +kernel
theorem dX5_begin_228 : decode cX5_begin 228 = .ok (.iconst 1, 1) := by decide +kernel
theorem dX5_begin_229 : decode cX5_begin 229 = .ok (.bastore, 1) := by decide +kernel
theorem dX5_begin_230 : decode cX5_begin 230 = .ok (.iinc 3 1, 3) := by decide +kernel
theorem dX5_begin_233 : decode cX5_begin 233 = .ok (.goto (-16), 3) := by decide +kernel
theorem dX5_begin_236 : decode cX5_begin 236 = .ok (.iconst 0, 1) := by decide +kernel
theorem dX5_begin_237 : decode cX5_begin 237 = .ok (.istore_n 3, 1) := by decide +kernel
theorem dX5_begin_238 : decode cX5_begin 238 = .ok (.iload_n 3, 1) := by decide +kernel
theorem dX5_begin_239 : decode cX5_begin 239 = .ok (.sipush 1750, 3) := by decide +kernel
theorem dX5_begin_242 : decode cX5_begin 242 = .ok (.if_icmp .ge 16, 3) := by decide +kernel
theorem dX5_begin_245 : decode cX5_begin 245 = .ok (.aload_n 0, 1) := by decide +kernel
theorem dX5_begin_246 : decode cX5_begin 246 = .ok (.getfield 7, 3) := by decide +kernel
theorem dX5_begin_249 : decode cX5_begin 249 = .ok (.iload_n 3, 1) := by decide +kernel
theorem dX5_begin_250 : decode cX5_begin 250 = .ok (.iconst 0, 1) := by decide +kernel
theorem dX5_begin_251 : decode cX5_begin 251 = .ok (.iastore, 1) := by decide +kernel
theorem dX5_begin_252 : decode cX5_begin 252 = .ok (.iinc 3 1, 3) := by decide +kernel
theorem dX5_begin_255 : decode cX5_begin 255 = .ok (.goto (-17), 3) := by decide +kernel
theorem dX5_begin_258 : decode cX5_begin 258 = .ok (.iconst 0, 1) := by decide +kernel
theorem dX5_begin_259 : decode cX5_begin 259 = .ok (.istore_n 3, 1) := by decide +kernel
theorem dX5_begin_260 : decode cX5_begin 260 = .ok (.iload_n 3, 1) := by decide +kernel
theorem dX5_begin_261 : decode cX5_begin 261 = .ok (.iconst 2, 1) := by decide +kernel
theorem dX5_begin_262 : decode cX5_begin 262 = .ok (.if_icmp .ge 99, 3) := by decide +kernel
theorem dX5_begin_265 : decode cX5_begin 265 = .ok (.iconst 0, 1) := by decide +kernel
theorem dX5_begin_266 : decode cX5_begin 266 = .ok (.istore 4, 2) := by decide +kernel
theorem dX5_begin_268 : decode cX5_begin 268 = .ok (.iload 4, 2) := by decide +kernel
theorem dX5_begin_270 : decode cX5_begin 270 = .ok (.iload_n 3, 1) := by decide +kernel
theorem dX5_begin_271 : decode cX5_begin 271 = .ok (.invokestatic 105, 3) := by decide +kernel
theorem dX5_begin_274 : decode cX5_begin 274 = .ok (.if_icmp .ge 16, 3) := by decide +kernel
theorem dX5_begin_277 : decode cX5_begin 277 = .ok (.aload_n 0, 1) := by decide +kernel
theorem dX5_begin_278 : decode cX5_begin 278 = .ok (.iload_n 3, 1) := by decide +kernel
theorem dX5_begin_279 : decode cX5_begin 279 = .ok (.iload 4, 2) := by decide +kernel
theorem dX5_begin_281 : decode cX5_begin 281 = .ok (.invokevirtual 141, 3) := by decide +kernel
theorem dX5_begin_284 : decode cX5_begin 284 = .ok (.iinc 4 1, 3) := by decide +kernel
theorem dX5_begin_287 : decode cX5_begin 287 = .ok (.goto (-19), 3) := by decide +kernel
theorem dX5_begin_290 : decode cX5_begin 290 = .ok (.iconst 0, 1) := by decide +kernel
theorem dX5_begin_291 : decode cX5_begin 291 = .ok (.istore 4, 2) := by decide +kernel
theorem dX5_begin_293 : decode cX5_begin 293 = .ok (.iload 4, 2) := by decide +kernel
theorem dX5_begin_295 : decode cX5_begin 295 = .ok (.iload_n 3, 1) := by decide +kernel
theorem dX5_begin_296 : decode cX5_begin 296 = .ok (.invokestatic 65, 3) := by decide +kernel
theorem dX5_begin_299 : decode cX5_begin 299 = .ok (.if_icmp .ge 56, 3) := by decide +kernel
theorem dX5_begin_302 : decode cX5_begin 302 = .ok (.iconst 0, 1) := by decide +kernel
theorem dX5_begin_303 : decode cX5_begin 303 = .ok (.istore 5, 2) := by decide +kernel
theorem dX5_begin_305 : decode cX5_begin 305 = .ok (.iload 5, 2) := by decide +kernel
theorem dX5_begin_307 : decode cX5_begin 307 = .ok (.bipush 24, 2) := by decide +kernel
theorem dX5_begin_309 : decode cX5_begin 309 = .ok (.if_icmp .ge 33, 3) := by decide +kernel
theorem dX5_begin_312 : decode cX5_begin 312 = .ok (.aload_n 0, 1) := by decide +kernel
theorem dX5_begin_313 : decode cX5_begin 313 = .ok (.getfield 29, 3) := by decide +kernel
theorem dX5_begin_316 : decode cX5_begin 316 = .ok (.iload 5, 2) := by decide +kernel
theorem dX5_begin_318 : decode cX5_begin 318 = .ok (.aload_n 0, 1) := by decide +kernel
theorem dX5_begin_319 : decode cX5_begin 319 = .ok (.getfield 7, 3) := by decide +kernel
theorem dX5_begin_322 : decode cX5_begin 322 = .ok (.bipush 25, 2) := by decide +kernel
theorem dX5_begin_324 : decode cX5_begin 324 = .ok (.iload_n 3, 1) := by decide +kernel
theorem dX5_begin_325 : decode cX5_begin 325 = .ok (.iload 4, 2) := by decide +kernel
theorem dX5_begin_327 : decode cX5_begin 327 = .ok (.invokestatic 80, 3) := by decide +kernel
theorem dX5_begin_330 : decode cX5_begin 330 = .ok (.imul, 1) := by decide +kernel
theorem dX5_begin_331 : decode cX5_begin 331 = .ok (.iload 5, 2) := by decide +kernel
theorem dX5_begin_333 : decode cX5_begin 333 = .ok (.iadd, 1) := by decide +kernel
theorem dX5_begin_334 : decode cX5_begin 334 = .ok (.iaload, 1) := by decide +kernel
theorem dX5_begin_335 : decode cX5_begin 335 = .ok (.iastore, 1) := by decide +kernel
theorem dX5_begin_336 : decode cX5_begin 336 = .ok (.iinc 5 1, 3) := by decide +kernel
theorem dX5_begin_339 : decode cX5_begin 339 = .ok (.goto (-34), 3) := by decide +kernel
theorem dX5_begin_342 : decode cX5_begin 342 = .ok (.aload_n 0, 1) := by decide +kernel
theorem dX5_begin_343 : decode cX5_begin 343 = .ok (.iload_n 3, 1) := by decide +kernel
theorem dX5_begin_344 : decode cX5_begin 344 = .ok (.iload 4, 2) := by decide +kernel
theorem dX5_begin_346 : decode cX5_begin 346 = .ok (.invokevirtual 118, 3) := by decide +kernel
theorem dX5_begin_349 : decode cX5_begin 349 = .ok (.iinc 4 1, 3) := by decide +kernel
theorem dX5_begin_352 : decode cX5_begin 352 = .ok (.goto (-59), 3) := by decide +kernel
theorem dX5_begin_355 : decode cX5_begin 355 = .ok (.iinc 3 1, 3) := by decide +kernel
theorem dX5_begin_358 : decode cX5_begin 358 = .ok (.goto (-98), 3) := by decide +kernel
theorem dX5_begin_361 : decode cX5_begin 361 = .ok (.return_, 1) := by decide +kernel
set_option maxRecDepth 20000 in
theorem ggX5_settle_X5_first : GoodIn wsX5_settle wsX5_first := goodIn_r _ [8] (by decide +kernel) (by decide +kernel)
set_option maxRecDepth 20000 in
theorem gX5_settle_X5_first : GoodIn wsX5_settle (va_wsS RX5 95 yX5_first wsX5_first) := goodIn_app (goodIn_of _ (by decide +kernel)) ggX5_settle_X5_first
set_option maxRecDepth 20000 in
theorem ggX5_settle_X5_levels : GoodIn wsX5_settle wsX5_levels := goodIn_r _ [11] (by decide +kernel) (by decide +kernel)
set_option maxRecDepth 20000 in
theorem gX5_settle_X5_levels : GoodIn wsX5_settle (va_wsS RX5 69 yX5_levels wsX5_levels) := goodIn_app (goodIn_of _ (by decide +kernel)) ggX5_settle_X5_levels
set_option maxRecDepth 20000 in
theorem ggX5_settle_X5_onPath : GoodIn wsX5_settle wsX5_onPath := goodIn_r _ [14, 15, 16, 7, 17] (by decide +kernel) (by decide +kernel)
set_option maxRecDepth 20000 in
theorem gX5_settle_X5_onPath : GoodIn wsX5_settle (va_wsS RX5 72 yX5_onPath wsX5_onPath) := goodIn_app (goodIn_of _ (by decide +kernel)) ggX5_settle_X5_onPath
set_option maxRecDepth 20000 in
theorem ggX5_settle_X5_place : GoodIn wsX5_settle wsX5_place := goodIn_r _ [20] (by decide +kernel) (by decide +kernel)
set_option maxRecDepth 20000 in
theorem gX5_settle_X5_place : GoodIn wsX5_settle (va_wsS RX5 80 yX5_place wsX5_place) := goodIn_app (goodIn_of _ (by decide +kernel)) ggX5_settle_X5_place
theorem dX5_settle_0 : decode cX5_settle 0 = .ok (.iload_n 1, 1) := by decide +kernel
theorem dX5_settle_1 : decode cX5_settle 1 = .ok (.invokestatic 95, 3) := by decide +kernel
theorem dX5_settle_4 : decode cX5_settle 4 = .ok (.iload_n 2, 1) := by decide +kernel
theorem dX5_settle_5 : decode cX5_settle 5 = .ok (.iadd, 1) := by decide +kernel
theorem dX5_settle_6 : decode cX5_settle 6 = .ok (.istore_n 3, 1) := by decide +kernel
theorem dX5_settle_7 : decode cX5_settle 7 = .ok (.iconst 0, 1) := by decide +kernel
theorem dX5_settle_8 : decode cX5_settle 8 = .ok (.istore 4, 2) := by decide +kernel
theorem dX5_settle_10 : decode cX5_settle 10 = .ok (.iload 4, 2) := by decide +kernel
theorem dX5_settle_12 : decode cX5_settle 12 = .ok (.iload_n 1, 1) := by decide +kernel
theorem dX5_settle_13 : decode cX5_settle 13 = .ok (.invokestatic 69, 3) := by decide +kernel
theorem dX5_settle_16 : decode cX5_settle 16 = .ok (.if_icmp .ge 170, 3) := by decide +kernel
theorem dX5_settle_19 : decode cX5_settle 19 = .ok (.aload_n 0, 1) := by decide +kernel
theorem dX5_settle_20 : decode cX5_settle 20 = .ok (.getfield 16, 3) := by decide +kernel
theorem dX5_settle_23 : decode cX5_settle 23 = .ok (.iload_n 3, 1) := by decide +kernel
theorem dX5_settle_24 : decode cX5_settle 24 = .ok (.baload, 1) := by decide +kernel
theorem dX5_settle_25 : decode cX5_settle 25 = .ok (.ifCond .eq 161, 3) := by decide +kernel
theorem dX5_settle_28 : decode cX5_settle 28 = .ok (.bipush 25, 2) := by decide +kernel
theorem dX5_settle_30 : decode cX5_settle 30 = .ok (.iload_n 1, 1) := by decide +kernel
theorem dX5_settle_31 : decode cX5_settle 31 = .ok (.iload_n 1, 1) := by decide +kernel
theorem dX5_settle_32 : decode cX5_settle 32 = .ok (.aload_n 0, 1) := by decide +kernel
theorem dX5_settle_33 : decode cX5_settle 33 = .ok (.getfield 20, 3) := by decide +kernel
theorem dX5_settle_36 : decode cX5_settle 36 = .ok (.iload_n 3, 1) := by decide +kernel
theorem dX5_settle_37 : decode cX5_settle 37 = .ok (.iaload, 1) := by decide +kernel
theorem dX5_settle_38 : decode cX5_settle 38 = .ok (.iload 4, 2) := by decide +kernel
theorem dX5_settle_40 : decode cX5_settle 40 = .ok (.invokestatic 72, 3) := by decide +kernel
theorem dX5_settle_43 : decode cX5_settle 43 = .ok (.invokestatic 80, 3) := by decide +kernel
theorem dX5_settle_46 : decode cX5_settle 46 = .ok (.imul, 1) := by decide +kernel
theorem dX5_settle_47 : decode cX5_settle 47 = .ok (.istore 5, 2) := by decide +kernel
theorem dX5_settle_49 : decode cX5_settle 49 = .ok (.iconst 0, 1) := by decide +kernel
theorem dX5_settle_50 : decode cX5_settle 50 = .ok (.istore 6, 2) := by decide +kernel
theorem dX5_settle_52 : decode cX5_settle 52 = .ok (.iload 6, 2) := by decide +kernel
theorem dX5_settle_54 : decode cX5_settle 54 = .ok (.iconst 4, 1) := by decide +kernel
theorem dX5_settle_55 : decode cX5_settle 55 = .ok (.if_icmp .ge 125, 3) := by decide +kernel
theorem dX5_settle_58 : decode cX5_settle 58 = .ok (.aload_n 0, 1) := by decide +kernel
theorem dX5_settle_59 : decode cX5_settle 59 = .ok (.getfield 16, 3) := by decide +kernel
theorem dX5_settle_62 : decode cX5_settle 62 = .ok (.iload_n 3, 1) := by decide +kernel
theorem dX5_settle_63 : decode cX5_settle 63 = .ok (.baload, 1) := by decide +kernel
theorem dX5_settle_64 : decode cX5_settle 64 = .ok (.ifCond .eq 116, 3) := by decide +kernel
theorem dX5_settle_67 : decode cX5_settle 67 = .ok (.aload_n 0, 1) := by decide +kernel
theorem dX5_settle_68 : decode cX5_settle 68 = .ok (.getfield 7, 3) := by decide +kernel
theorem dX5_settle_71 : decode cX5_settle 71 = .ok (.iload 5, 2) := by decide +kernel
theorem dX5_settle_73 : decode cX5_settle 73 = .ok (.bipush 6, 2) := by decide +kernel
theorem dX5_settle_75 : decode cX5_settle 75 = .ok (.iload 6, 2) := by decide +kernel
theorem dX5_settle_77 : decode cX5_settle 77 = .ok (.imul, 1) := by decide +kernel
theorem dX5_settle_78 : decode cX5_settle 78 = .ok (.iadd, 1) := by decide +kernel
theorem dX5_settle_79 : decode cX5_settle 79 = .ok (.iaload, 1) := by decide +kernel
theorem dX5_settle_80 : decode cX5_settle 80 = .ok (.ifCond .eq 6, 3) := by decide +kernel
theorem dX5_settle_83 : decode cX5_settle 83 = .ok (.goto 91, 3) := by decide +kernel
theorem dX5_settle_86 : decode cX5_settle 86 = .ok (.aload_n 0, 1) := by decide +kernel
theorem dX5_settle_87 : decode cX5_settle 87 = .ok (.getfield 7, 3) := by decide +kernel
theorem dX5_settle_90 : decode cX5_settle 90 = .ok (.iload 5, 2) := by decide +kernel
theorem dX5_settle_92 : decode cX5_settle 92 = .ok (.bipush 6, 2) := by decide +kernel
theorem dX5_settle_94 : decode cX5_settle 94 = .ok (.iload 6, 2) := by decide +kernel
theorem dX5_settle_96 : decode cX5_settle 96 = .ok (.imul, 1) := by decide +kernel
theorem dX5_settle_97 : decode cX5_settle 97 = .ok (.iadd, 1) := by decide +kernel
theorem dX5_settle_98 : decode cX5_settle 98 = .ok (.iload_n 2, 1) := by decide +kernel
theorem dX5_settle_99 : decode cX5_settle 99 = .ok (.iconst 1, 1) := by decide +kernel
theorem dX5_settle_100 : decode cX5_settle 100 = .ok (.iadd, 1) := by decide +kernel
theorem dX5_settle_101 : decode cX5_settle 101 = .ok (.iastore, 1) := by decide +kernel
theorem dX5_settle_102 : decode cX5_settle 102 = .ok (.aload_n 0, 1) := by decide +kernel
theorem dX5_settle_103 : decode cX5_settle 103 = .ok (.getfield 7, 3) := by decide +kernel
theorem dX5_settle_106 : decode cX5_settle 106 = .ok (.iload 5, 2) := by decide +kernel
theorem dX5_settle_108 : decode cX5_settle 108 = .ok (.bipush 6, 2) := by decide +kernel
theorem dX5_settle_110 : decode cX5_settle 110 = .ok (.iload 6, 2) := by decide +kernel
theorem dX5_settle_112 : decode cX5_settle 112 = .ok (.imul, 1) := by decide +kernel
theorem dX5_settle_113 : decode cX5_settle 113 = .ok (.iadd, 1) := by decide +kernel
theorem dX5_settle_114 : decode cX5_settle 114 = .ok (.iconst 1, 1) := by decide +kernel
theorem dX5_settle_115 : decode cX5_settle 115 = .ok (.iadd, 1) := by decide +kernel
theorem dX5_settle_116 : decode cX5_settle 116 = .ok (.aload_n 0, 1) := by decide +kernel
theorem dX5_settle_117 : decode cX5_settle 117 = .ok (.getfield 20, 3) := by decide +kernel
theorem dX5_settle_120 : decode cX5_settle 120 = .ok (.iload_n 3, 1) := by decide +kernel
theorem dX5_settle_121 : decode cX5_settle 121 = .ok (.iaload, 1) := by decide +kernel
theorem dX5_settle_122 : decode cX5_settle 122 = .ok (.iastore, 1) := by decide +kernel
theorem dX5_settle_123 : decode cX5_settle 123 = .ok (.iconst 0, 1) := by decide +kernel
theorem dX5_settle_124 : decode cX5_settle 124 = .ok (.istore 7, 2) := by decide +kernel
theorem dX5_settle_126 : decode cX5_settle 126 = .ok (.iload 7, 2) := by decide +kernel
theorem dX5_settle_128 : decode cX5_settle 128 = .ok (.iconst 4, 1) := by decide +kernel
theorem dX5_settle_129 : decode cX5_settle 129 = .ok (.if_icmp .ge 38, 3) := by decide +kernel
theorem dX5_settle_132 : decode cX5_settle 132 = .ok (.aload_n 0, 1) := by decide +kernel
theorem dX5_settle_133 : decode cX5_settle 133 = .ok (.getfield 7, 3) := by decide +kernel
theorem dX5_settle_136 : decode cX5_settle 136 = .ok (.iload 5, 2) := by decide +kernel
theorem dX5_settle_138 : decode cX5_settle 138 = .ok (.bipush 6, 2) := by decide +kernel
theorem dX5_settle_140 : decode cX5_settle 140 = .ok (.iload 6, 2) := by decide +kernel
theorem dX5_settle_142 : decode cX5_settle 142 = .ok (.imul, 1) := by decide +kernel
theorem dX5_settle_143 : decode cX5_settle 143 = .ok (.iadd, 1) := by decide +kernel
theorem dX5_settle_144 : decode cX5_settle 144 = .ok (.iconst 2, 1) := by decide +kernel
theorem dX5_settle_145 : decode cX5_settle 145 = .ok (.iadd, 1) := by decide +kernel
theorem dX5_settle_146 : decode cX5_settle 146 = .ok (.iload 7, 2) := by decide +kernel
theorem dX5_settle_148 : decode cX5_settle 148 = .ok (.iadd, 1) := by decide +kernel
theorem dX5_settle_149 : decode cX5_settle 149 = .ok (.aload_n 0, 1) := by decide +kernel
theorem dX5_settle_150 : decode cX5_settle 150 = .ok (.getfield 23, 3) := by decide +kernel
theorem dX5_settle_153 : decode cX5_settle 153 = .ok (.iconst 4, 1) := by decide +kernel
theorem dX5_settle_154 : decode cX5_settle 154 = .ok (.iload_n 3, 1) := by decide +kernel
theorem dX5_settle_155 : decode cX5_settle 155 = .ok (.imul, 1) := by decide +kernel
theorem dX5_settle_156 : decode cX5_settle 156 = .ok (.iload 7, 2) := by decide +kernel
theorem dX5_settle_158 : decode cX5_settle 158 = .ok (.iadd, 1) := by decide +kernel
theorem dX5_settle_159 : decode cX5_settle 159 = .ok (.iaload, 1) := by decide +kernel
theorem dX5_settle_160 : decode cX5_settle 160 = .ok (.iastore, 1) := by decide +kernel
theorem dX5_settle_161 : decode cX5_settle 161 = .ok (.iinc 7 1, 3) := by decide +kernel
theorem dX5_settle_164 : decode cX5_settle 164 = .ok (.goto (-38), 3) := by decide +kernel
theorem dX5_settle_167 : decode cX5_settle 167 = .ok (.aload_n 0, 1) := by decide +kernel
theorem dX5_settle_168 : decode cX5_settle 168 = .ok (.getfield 16, 3) := by decide +kernel
theorem dX5_settle_171 : decode cX5_settle 171 = .ok (.iload_n 3, 1) := by decide +kernel
theorem dX5_settle_172 : decode cX5_settle 172 = .ok (.iconst 0, 1) := by decide +kernel
theorem dX5_settle_173 : decode cX5_settle 173 = .ok (.bastore, 1) := by decide +kernel
theorem dX5_settle_174 : decode cX5_settle 174 = .ok (.iinc 6 1, 3) := by decide +kernel
theorem dX5_settle_177 : decode cX5_settle 177 = .ok (.goto (-125), 3) := by decide +kernel
theorem dX5_settle_180 : decode cX5_settle 180 = .ok (.iinc 4 1, 3) := by decide +kernel
theorem dX5_settle_183 : decode cX5_settle 183 = .ok (.goto (-173), 3) := by decide +kernel
theorem dX5_settle_186 : decode cX5_settle 186 = .ok (.return_, 1) := by decide +kernel
set_option maxRecDepth 20000 in
theorem ggX5_start_X5_begin : GoodIn wsX5_start wsX5_begin := goodIn_r _ [6, 7, 8, 9, 10, 11, 12, 13, 14, 15, 16, 17, 18, 19, 20, 21, 22, 5, 23, 24, 25, 26, 27, 28, 29, 30, 31, 32, 33, 34, 35, 36, 37, 38, 39, 40, 41, 42, 43, 44, 45, 46, 47, 48, 49, 50, 51, 52, 53, 54, 55, 56, 57, 58, 59, 60, 61, 62, 63, 64, 65, 66, 67, 68, 69, 70, 71, 72, 73, 74, 75, 76, 77, 78, 79, 80, 81, 82, 83] (by decide +kernel) (by decide +kernel)
set_option maxRecDepth 20000 in
theorem gX5_start_X5_begin : GoodIn wsX5_start (wsV RX5 54 RX5 yX5_begin wsX5_begin) := goodIn_app (goodIn_of _ (by decide +kernel)) ggX5_start_X5_begin
theorem dX5_start_0 : decode cX5_start 0 = .ok (.aload_n 0, 1) := by decide +kernel
theorem dX5_start_1 : decode cX5_start 1 = .ok (.iconst 0, 1) := by decide +kernel
theorem dX5_start_2 : decode cX5_start 2 = .ok (.putfield 58, 3) := by decide +kernel
theorem dX5_start_5 : decode cX5_start 5 = .ok (.aload_n 0, 1) := by decide +kernel
theorem dX5_start_6 : decode cX5_start 6 = .ok (.iload_n 1, 1) := by decide +kernel
theorem dX5_start_7 : decode cX5_start 7 = .ok (.iload_n 2, 1) := by decide +kernel
theorem dX5_start_8 : decode cX5_start 8 = .ok (.invokevirtual 54, 3) := by decide +kernel
theorem dX5_start_11 : decode cX5_start 11 = .ok (.return_, 1) := by decide +kernel
theorem dX5_isFile_0 : decode cX5_isFile 0 = .ok (.iload_n 1, 1) := by decide +kernel
theorem dX5_isFile_1 : decode cX5_isFile 1 = .ok (.ifCond .lt 22, 3) := by decide +kernel
theorem dX5_isFile_4 : decode cX5_isFile 4 = .ok (.iload_n 1, 1) := by decide +kernel
theorem dX5_isFile_5 : decode cX5_isFile 5 = .ok (.bipush 8, 2) := by decide +kernel
theorem dX5_isFile_7 : decode cX5_isFile 7 = .ok (.if_icmp .ge 16, 3) := by decide +kernel
theorem dX5_isFile_10 : decode cX5_isFile 10 = .ok (.aload_n 0, 1) := by decide +kernel
theorem dX5_isFile_11 : decode cX5_isFile 11 = .ok (.getfield 38, 3) := by decide +kernel
theorem dX5_isFile_14 : decode cX5_isFile 14 = .ok (.iload_n 1, 1) := by decide +kernel
theorem dX5_isFile_15 : decode cX5_isFile 15 = .ok (.baload, 1) := by decide +kernel
theorem dX5_isFile_16 : decode cX5_isFile 16 = .ok (.ifCond .eq 7, 3) := by decide +kernel
theorem dX5_isFile_19 : decode cX5_isFile 19 = .ok (.iconst 1, 1) := by decide +kernel
theorem dX5_isFile_20 : decode cX5_isFile 20 = .ok (.goto 4, 3) := by decide +kernel
theorem dX5_isFile_23 : decode cX5_isFile 23 = .ok (.iconst 0, 1) := by decide +kernel
theorem dX5_isFile_24 : decode cX5_isFile 24 = .ok (.ireturn, 1) := by decide +kernel
theorem dX5_named_0 : decode cX5_named 0 = .ok (.iconst 0, 1) := by decide +kernel
theorem dX5_named_1 : decode cX5_named 1 = .ok (.istore_n 3, 1) := by decide +kernel
theorem dX5_named_2 : decode cX5_named 2 = .ok (.iload_n 3, 1) := by decide +kernel
theorem dX5_named_3 : decode cX5_named 3 = .ok (.bipush 8, 2) := by decide +kernel
theorem dX5_named_5 : decode cX5_named 5 = .ok (.if_icmp .ge 31, 3) := by decide +kernel
theorem dX5_named_8 : decode cX5_named 8 = .ok (.aload_n 0, 1) := by decide +kernel
theorem dX5_named_9 : decode cX5_named 9 = .ok (.getfield 38, 3) := by decide +kernel
theorem dX5_named_12 : decode cX5_named 12 = .ok (.iload_n 3, 1) := by decide +kernel
theorem dX5_named_13 : decode cX5_named 13 = .ok (.baload, 1) := by decide +kernel
theorem dX5_named_14 : decode cX5_named 14 = .ok (.ifCond .eq 16, 3) := by decide +kernel
theorem dX5_named_17 : decode cX5_named 17 = .ok (.aload_n 0, 1) := by decide +kernel
theorem dX5_named_18 : decode cX5_named 18 = .ok (.getfield 41, 3) := by decide +kernel
