theorem dX3_seal_10 : decode cX3_seal 10 = .ok (.bipush 25, 2) := by decide +kernel
theorem dX3_seal_12 : decode cX3_seal 12 = .ok (.imul, 1) := by decide +kernel
theorem dX3_seal_13 : decode cX3_seal 13 = .ok (.bipush 24, 2) := by decide +kernel
theorem dX3_seal_15 : decode cX3_seal 15 = .ok (.iadd, 1) := by decide +kernel
theorem dX3_seal_16 : decode cX3_seal 16 = .ok (.aload_n 0, 1) := by decide +kernel
theorem dX3_seal_17 : decode cX3_seal 17 = .ok (.iload_n 1, 1) := by decide +kernel
theorem dX3_seal_18 : decode cX3_seal 18 = .ok (.invokevirtual 97, 3) := by decide +kernel
theorem dX3_seal_21 : decode cX3_seal 21 = .ok (.iastore, 1) := by decide +kernel
theorem dX3_seal_22 : decode cX3_seal 22 = .ok (.return_, 1) := by decide +kernel
set_option maxRecDepth 20000 in
theorem ggX3_isWhole_X3_tagDue : GoodIn wsX3_isWhole wsX3_tagDue := goodIn_r _ [6, 1, 7, 8, 9, 10, 5, 11, 12, 13, 14, 15, 16, 17, 18, 19, 20, 21, 22, 23, 24, 25, 26, 27, 28, 29, 30] (by decide +kernel) (by decide +kernel)
set_option maxRecDepth 20000 in
theorem gX3_isWhole_X3_tagDue : GoodIn wsX3_isWhole (wsV RX3 97 RX3 yX3_tagDue wsX3_tagDue) := goodIn_app (goodIn_of _ (by decide +kernel)) ggX3_isWhole_X3_tagDue
theorem dX3_isWhole_0 : decode cX3_isWhole 0 = .ok (.aload_n 0, 1) := by decide +kernel
theorem dX3_isWhole_1 : decode cX3_isWhole 1 = .ok (.getfield 27, 3) := by decide +kernel
theorem dX3_isWhole_4 : decode cX3_isWhole 4 = .ok (.iload_n 1, 1) := by decide +kernel
theorem dX3_isWhole_5 : decode cX3_isWhole 5 = .ok (.bipush 25, 2) := by decide +kernel
theorem dX3_isWhole_7 : decode cX3_isWhole 7 = .ok (.imul, 1) := by decide +kernel
theorem dX3_isWhole_8 : decode cX3_isWhole 8 = .ok (.bipush 24, 2) := by decide +kernel
theorem dX3_isWhole_10 : decode cX3_isWhole 10 = .ok (.iadd, 1) := by decide +kernel
theorem dX3_isWhole_11 : decode cX3_isWhole 11 = .ok (.iaload, 1) := by decide +kernel
theorem dX3_isWhole_12 : decode cX3_isWhole 12 = .ok (.aload_n 0, 1) := by decide +kernel
theorem dX3_isWhole_13 : decode cX3_isWhole 13 = .ok (.iload_n 1, 1) := by decide +kernel
theorem dX3_isWhole_14 : decode cX3_isWhole 14 = .ok (.invokevirtual 97, 3) := by decide +kernel
theorem dX3_isWhole_17 : decode cX3_isWhole 17 = .ok (.if_icmp .ne 7, 3) := by decide +kernel
theorem dX3_isWhole_20 : decode cX3_isWhole 20 = .ok (.iconst 1, 1) := by decide +kernel
theorem dX3_isWhole_21 : decode cX3_isWhole 21 = .ok (.goto 4, 3) := by decide +kernel
theorem dX3_isWhole_24 : decode cX3_isWhole 24 = .ok (.iconst 0, 1) := by decide +kernel
theorem dX3_isWhole_25 : decode cX3_isWhole 25 = .ok (.ireturn, 1) := by decide +kernel
set_option maxRecDepth 20000 in
theorem ggX3_maskWords_X3_pad : GoodIn wsX3_maskWords wsX3_pad := goodIn_r _ [6, 7, 8, 9, 10, 11, 12, 13, 14, 15, 16, 17, 18, 19, 20, 21, 22, 23, 24, 25] (by decide +kernel) (by decide +kernel)
set_option maxRecDepth 20000 in
theorem gX3_maskWords_X3_pad : GoodIn wsX3_maskWords (wsV RX3 101 RX3 yX3_pad wsX3_pad) := goodIn_app (goodIn_of _ (by decide +kernel)) ggX3_maskWords_X3_pad
theorem dX3_maskWords_0 : decode cX3_maskWords 0 = .ok (.iload_n 1, 1) := by decide +kernel
theorem dX3_maskWords_1 : decode cX3_maskWords 1 = .ok (.bipush 25, 2) := by decide +kernel
theorem dX3_maskWords_3 : decode cX3_maskWords 3 = .ok (.imul, 1) := by decide +kernel
theorem dX3_maskWords_4 : decode cX3_maskWords 4 = .ok (.istore_n 2, 1) := by decide +kernel
theorem dX3_maskWords_5 : decode cX3_maskWords 5 = .ok (.iconst 0, 1) := by decide +kernel
theorem dX3_maskWords_6 : decode cX3_maskWords 6 = .ok (.istore_n 3, 1) := by decide +kernel
theorem dX3_maskWords_7 : decode cX3_maskWords 7 = .ok (.iload_n 3, 1) := by decide +kernel
theorem dX3_maskWords_8 : decode cX3_maskWords 8 = .ok (.bipush 24, 2) := by decide +kernel
theorem dX3_maskWords_10 : decode cX3_maskWords 10 = .ok (.if_icmp .ge 26, 3) := by decide +kernel
theorem dX3_maskWords_13 : decode cX3_maskWords 13 = .ok (.aload_n 0, 1) := by decide +kernel
theorem dX3_maskWords_14 : decode cX3_maskWords 14 = .ok (.getfield 27, 3) := by decide +kernel
theorem dX3_maskWords_17 : decode cX3_maskWords 17 = .ok (.iload_n 2, 1) := by decide +kernel
theorem dX3_maskWords_18 : decode cX3_maskWords 18 = .ok (.iload_n 3, 1) := by decide +kernel
theorem dX3_maskWords_19 : decode cX3_maskWords 19 = .ok (.iadd, 1) := by decide +kernel
theorem dX3_maskWords_20 : decode cX3_maskWords 20 = .ok (.dup2, 1) := by decide +kernel
theorem dX3_maskWords_21 : decode cX3_maskWords 21 = .ok (.iaload, 1) := by decide +kernel
theorem dX3_maskWords_22 : decode cX3_maskWords 22 = .ok (.aload_n 0, 1) := by decide +kernel
theorem dX3_maskWords_23 : decode cX3_maskWords 23 = .ok (.iload_n 1, 1) := by decide +kernel
theorem dX3_maskWords_24 : decode cX3_maskWords 24 = .ok (.iload_n 3, 1) := by decide +kernel
theorem dX3_maskWords_25 : decode cX3_maskWords 25 = .ok (.invokevirtual 101, 3) := by decide +kernel
theorem dX3_maskWords_28 : decode cX3_maskWords 28 = .ok (.ixor, 1) := by decide +kernel
theorem dX3_maskWords_29 : decode cX3_maskWords 29 = .ok (.iastore, 1) := by decide +kernel
theorem dX3_maskWords_30 : decode cX3_maskWords 30 = .ok (.iinc 3 1, 3) := by decide +kernel
theorem dX3_maskWords_33 : decode cX3_maskWords 33 = .ok (.goto (-26), 3) := by decide +kernel
theorem dX3_maskWords_36 : decode cX3_maskWords 36 = .ok (.return_, 1) := by decide +kernel
set_option maxRecDepth 20000 in
theorem ggX3_tagDue_X3_pad : GoodIn wsX3_tagDue wsX3_pad := goodIn_r _ [7, 8, 9, 10, 11, 12, 13, 14, 15, 16, 17, 18, 19, 20, 21, 22, 23, 24, 25, 26] (by decide +kernel) (by decide +kernel)
set_option maxRecDepth 20000 in
theorem gX3_tagDue_X3_pad : GoodIn wsX3_tagDue (wsV RX3 101 RX3 yX3_pad wsX3_pad) := goodIn_app (goodIn_of _ (by decide +kernel)) ggX3_tagDue_X3_pad
theorem dX3_tagDue_0 : decode cX3_tagDue 0 = .ok (.iload_n 1, 1) := by decide +kernel
theorem dX3_tagDue_1 : decode cX3_tagDue 1 = .ok (.bipush 25, 2) := by decide +kernel
theorem dX3_tagDue_3 : decode cX3_tagDue 3 = .ok (.imul, 1) := by decide +kernel
theorem dX3_tagDue_4 : decode cX3_tagDue 4 = .ok (.istore_n 2, 1) := by decide +kernel
theorem dX3_tagDue_5 : decode cX3_tagDue 5 = .ok (.aload_n 0, 1) := by decide +kernel
theorem dX3_tagDue_6 : decode cX3_tagDue 6 = .ok (.iload_n 1, 1) := by decide +kernel
theorem dX3_tagDue_7 : decode cX3_tagDue 7 = .ok (.bipush 24, 2) := by decide +kernel
theorem dX3_tagDue_9 : decode cX3_tagDue 9 = .ok (.invokevirtual 101, 3) := by decide +kernel
theorem dX3_tagDue_12 : decode cX3_tagDue 12 = .ok (.istore_n 3, 1) := by decide +kernel
theorem dX3_tagDue_13 : decode cX3_tagDue 13 = .ok (.iconst 0, 1) := by decide +kernel
theorem dX3_tagDue_14 : decode cX3_tagDue 14 = .ok (.istore 4, 2) := by decide +kernel
theorem dX3_tagDue_16 : decode cX3_tagDue 16 = .ok (.iload 4, 2) := by decide +kernel
theorem dX3_tagDue_18 : decode cX3_tagDue 18 = .ok (.bipush 24, 2) := by decide +kernel
theorem dX3_tagDue_20 : decode cX3_tagDue 20 = .ok (.if_icmp .ge 24, 3) := by decide +kernel
theorem dX3_tagDue_23 : decode cX3_tagDue 23 = .ok (.iload_n 3, 1) := by decide +kernel
theorem dX3_tagDue_24 : decode cX3_tagDue 24 = .ok (.aload_n 0, 1) := by decide +kernel
theorem dX3_tagDue_25 : decode cX3_tagDue 25 = .ok (.getfield 27, 3) := by decide +kernel
theorem dX3_tagDue_28 : decode cX3_tagDue 28 = .ok (.iload_n 2, 1) := by decide +kernel
theorem dX3_tagDue_29 : decode cX3_tagDue 29 = .ok (.iload 4, 2) := by decide +kernel
theorem dX3_tagDue_31 : decode cX3_tagDue 31 = .ok (.iadd, 1) := by decide +kernel
theorem dX3_tagDue_32 : decode cX3_tagDue 32 = .ok (.iaload, 1) := by decide +kernel
theorem dX3_tagDue_33 : decode cX3_tagDue 33 = .ok (.ixor, 1) := by decide +kernel
theorem dX3_tagDue_34 : decode cX3_tagDue 34 = .ok (.ldc 104, 2) := by decide +kernel
theorem dX3_tagDue_36 : decode cX3_tagDue 36 = .ok (.imul, 1) := by decide +kernel
theorem dX3_tagDue_37 : decode cX3_tagDue 37 = .ok (.istore_n 3, 1) := by decide +kernel
theorem dX3_tagDue_38 : decode cX3_tagDue 38 = .ok (.iinc 4 1, 3) := by decide +kernel
theorem dX3_tagDue_41 : decode cX3_tagDue 41 = .ok (.goto (-25), 3) := by decide +kernel
theorem dX3_tagDue_44 : decode cX3_tagDue 44 = .ok (.iload_n 3, 1) := by decide +kernel
theorem dX3_tagDue_45 : decode cX3_tagDue 45 = .ok (.ireturn, 1) := by decide +kernel
theorem dX3_pad_0 : decode cX3_pad 0 = .ok (.aload_n 0, 1) := by decide +kernel
theorem dX3_pad_1 : decode cX3_pad 1 = .ok (.getfield 44, 3) := by decide +kernel
theorem dX3_pad_4 : decode cX3_pad 4 = .ok (.bipush 64, 2) := by decide +kernel
theorem dX3_pad_6 : decode cX3_pad 6 = .ok (.aload_n 0, 1) := by decide +kernel
theorem dX3_pad_7 : decode cX3_pad 7 = .ok (.getfield 9, 3) := by decide +kernel
theorem dX3_pad_10 : decode cX3_pad 10 = .ok (.imul, 1) := by decide +kernel
theorem dX3_pad_11 : decode cX3_pad 11 = .ok (.iload_n 1, 1) := by decide +kernel
theorem dX3_pad_12 : decode cX3_pad 12 = .ok (.iadd, 1) := by decide +kernel
theorem dX3_pad_13 : decode cX3_pad 13 = .ok (.iconst 1, 1) := by decide +kernel
theorem dX3_pad_14 : decode cX3_pad 14 = .ok (.iadd, 1) := by decide +kernel
theorem dX3_pad_15 : decode cX3_pad 15 = .ok (.ldc 105, 2) := by decide +kernel
theorem dX3_pad_17 : decode cX3_pad 17 = .ok (.imul, 1) := by decide +kernel
theorem dX3_pad_18 : decode cX3_pad 18 = .ok (.ixor, 1) := by decide +kernel
theorem dX3_pad_19 : decode cX3_pad 19 = .ok (.aload_n 0, 1) := by decide +kernel
theorem dX3_pad_20 : decode cX3_pad 20 = .ok (.getfield 31, 3) := by decide +kernel
theorem dX3_pad_23 : decode cX3_pad 23 = .ok (.iload_n 1, 1) := by decide +kernel
theorem dX3_pad_24 : decode cX3_pad 24 = .ok (.iaload, 1) := by decide +kernel
theorem dX3_pad_25 : decode cX3_pad 25 = .ok (.ldc 106, 2) := by decide +kernel
theorem dX3_pad_27 : decode cX3_pad 27 = .ok (.imul, 1) := by decide +kernel
theorem dX3_pad_28 : decode cX3_pad 28 = .ok (.ixor, 1) := by decide +kernel
theorem dX3_pad_29 : decode cX3_pad 29 = .ok (.iload_n 2, 1) := by decide +kernel
theorem dX3_pad_30 : decode cX3_pad 30 = .ok (.iconst 1, 1) := by decide +kernel
theorem dX3_pad_31 : decode cX3_pad 31 = .ok (.iadd, 1) := by decide +kernel
theorem dX3_pad_32 : decode cX3_pad 32 = .ok (.ldc 107, 2) := by decide +kernel
theorem dX3_pad_34 : decode cX3_pad 34 = .ok (.imul, 1) := by decide +kernel
theorem dX3_pad_35 : decode cX3_pad 35 = .ok (.ixor, 1) := by decide +kernel
theorem dX3_pad_36 : decode cX3_pad 36 = .ok (.istore_n 3, 1) := by decide +kernel
theorem dX3_pad_37 : decode cX3_pad 37 = .ok (.iload_n 3, 1) := by decide +kernel
theorem dX3_pad_38 : decode cX3_pad 38 = .ok (.iload_n 3, 1) := by decide +kernel
theorem dX3_pad_39 : decode cX3_pad 39 = .ok (.bipush 15, 2) := by decide +kernel
theorem dX3_pad_41 : decode cX3_pad 41 = .ok (.iushr, 1) := by decide +kernel
theorem dX3_pad_42 : decode cX3_pad 42 = .ok (.ixor, 1) := by decide +kernel
theorem dX3_pad_43 : decode cX3_pad 43 = .ok (.istore_n 3, 1) := by decide +kernel
theorem dX3_pad_44 : decode cX3_pad 44 = .ok (.iload_n 3, 1) := by decide +kernel
theorem dX3_pad_45 : decode cX3_pad 45 = .ok (.ldc 108, 2) := by decide +kernel
theorem dX3_pad_47 : decode cX3_pad 47 = .ok (.imul, 1) := by decide +kernel
theorem dX3_pad_48 : decode cX3_pad 48 = .ok (.istore_n 3, 1) := by decide +kernel
theorem dX3_pad_49 : decode cX3_pad 49 = .ok (.iload_n 3, 1) := by decide +kernel
theorem dX3_pad_50 : decode cX3_pad 50 = .ok (.iload_n 3, 1) := by decide +kernel
theorem dX3_pad_51 : decode cX3_pad 51 = .ok (.bipush 12, 2) := by decide +kernel
theorem dX3_pad_53 : decode cX3_pad 53 = .ok (.iushr, 1) := by decide +kernel
theorem dX3_pad_54 : decode cX3_pad 54 = .ok (.ixor, 1) := by decide +kernel
theorem dX3_pad_55 : decode cX3_pad 55 = .ok (.istore_n 3, 1) := by decide +kernel
theorem dX3_pad_56 : decode cX3_pad 56 = .ok (.iload_n 3, 1) := by decide +kernel
theorem dX3_pad_57 : decode cX3_pad 57 = .ok (.ldc 109, 2) := by decide +kernel
theorem dX3_pad_59 : decode cX3_pad 59 = .ok (.imul, 1) := by decide +kernel
theorem dX3_pad_60 : decode cX3_pad 60 = .ok (.istore_n 3, 1) := by decide +kernel
theorem dX3_pad_61 : decode cX3_pad 61 = .ok (.iload_n 3, 1) := by decide +kernel
theorem dX3_pad_62 : decode cX3_pad 62 = .ok (.iload_n 3, 1) := by decide +kernel
theorem dX3_pad_63 : decode cX3_pad 63 = .ok (.bipush 15, 2) := by decide +kernel
theorem dX3_pad_65 : decode cX3_pad 65 = .ok (.iushr, 1) := by decide +kernel
theorem dX3_pad_66 : decode cX3_pad 66 = .ok (.ixor, 1) := by decide +kernel
theorem dX3_pad_67 : decode cX3_pad 67 = .ok (.istore_n 3, 1) := by decide +kernel
theorem dX3_pad_68 : decode cX3_pad 68 = .ok (.iload_n 3, 1) := by decide +kernel
theorem dX3_pad_69 : decode cX3_pad 69 = .ok (.ireturn, 1) := by decide +kernel
set_option maxRecDepth 20000 in
theorem ggX4_init_X1_init : GoodIn wsX4_init wsX1_init := goodIn_r _ [24, 25, 2, 3] (by decide +kernel) (by decide +kernel)
set_option maxRecDepth 20000 in
theorem gX4_init_X1_init_n9 : GoodIn wsX4_init (wsX1_init) := ggX4_init_X1_init
set_option maxRecDepth 20000 in
theorem ggX4_init_X3_init : GoodIn wsX4_init wsX3_init := goodIn_r _ [28, 29, 2, 3, 30, 31, 32, 33, 34, 13, 35, 36, 37, 38, 39, 40, 161, 162, 163, 164, 165, 166, 167, 168, 169, 170, 171] (by decide +kernel) (by decide +kernel)
set_option maxRecDepth 20000 in
theorem gX4_init_X3_init : GoodIn wsX4_init (wsX3_init) := ggX4_init_X3_init
set_option maxRecDepth 20000 in
theorem ggX4_init_X0_init : GoodIn wsX4_init wsX0_init := goodIn_r _ [42, 43, 2, 3, 44, 45, 13, 46, 47, 37, 48, 172, 173, 174, 175] (by decide +kernel) (by decide +kernel)
set_option maxRecDepth 20000 in
theorem gX4_init_X0_init_n34 : GoodIn wsX4_init (wsX0_init) := ggX4_init_X0_init
set_option maxRecDepth 20000 in
theorem ggX4_init_X2_init : GoodIn wsX4_init wsX2_init := goodIn_r _ [50, 51, 2, 3, 13, 52, 53, 176, 177, 178] (by decide +kernel) (by decide +kernel)
set_option maxRecDepth 20000 in
theorem gX4_init_X2_init_n41 : GoodIn wsX4_init (wsX2_init) := ggX4_init_X2_init
set_option maxRecDepth 20000 in
theorem ggX4_init_X4_beginAnew : GoodIn wsX4_init wsX4_beginAnew := goodIn_r _ [58, 7, 11, 12, 18, 22, 59, 60, 61, 62, 6, 63, 64, 65, 66, 67, 10, 68, 69, 35, 36, 40, 34, 38, 70, 71, 72, 73, 74, 75, 76, 17, 77, 46, 48, 78, 79, 80, 81, 21, 82, 83, 84, 85, 86, 57, 87, 14, 88, 89, 90, 91, 92, 93, 94, 95, 39, 96, 97, 98, 99, 100, 101, 102, 103, 104, 105, 106, 107, 108, 109, 110, 111, 112, 113, 114, 33, 115, 116, 117, 118, 32, 119, 120, 121, 122, 31, 123, 124, 125, 126, 127, 128, 129, 130, 131, 132, 133, 134, 135, 136, 137, 138, 139, 140, 141, 142, 30, 143, 144, 145, 146, 147, 148, 149, 150, 151, 152, 154, 155, 156, 157, 158, 159, 160, 153, 161, 162, 163, 164, 165, 166, 167, 168, 169, 170, 171, 172, 173, 174, 175, 176, 177, 178] (by decide +kernel) (by decide +kernel)
set_option maxRecDepth 20000 in
theorem gX4_init_X4_beginAnew : GoodIn wsX4_init (wsV RX4 46 RX4 yX4_beginAnew wsX4_beginAnew) := goodIn_app (goodIn_of _ (by decide +kernel)) ggX4_init_X4_beginAnew
theorem dX4_init_0 : decode cX4_init 0 = .ok (.aload_n 0, 1) := by decide +kernel
theorem dX4_init_1 : decode cX4_init 1 = .ok (.invokespecial 1, 3) := by decide +kernel
theorem dX4_init_4 : decode cX4_init 4 = .ok (.aload_n 0, 1) := by decide +kernel
theorem dX4_init_5 : decode cX4_init 5 = .ok (.new 7, 3) := by decide +kernel
theorem dX4_init_8 : decode cX4_init 8 = .ok (.dup, 1) := by decide +kernel
theorem dX4_init_9 : decode cX4_init 9 = .ok (.invokespecial 9, 3) := by decide +kernel
theorem dX4_init_12 : decode cX4_init 12 = .ok (.putfield 10, 3) := by decide +kernel
theorem dX4_init_15 : decode cX4_init 15 = .ok (.aload_n 0, 1) := by decide +kernel
theorem dX4_init_16 : decode cX4_init 16 = .ok (.new 16, 3) := by decide +kernel
theorem dX4_init_19 : decode cX4_init 19 = .ok (.dup, 1) := by decide +kernel
theorem dX4_init_20 : decode cX4_init 20 = .ok (.iconst 0, 1) := by decide +kernel
theorem dX4_init_21 : decode cX4_init 21 = .ok (.iconst 2, 1) := by decide +kernel
theorem dX4_init_22 : decode cX4_init 22 = .ok (.bipush 8, 2) := by decide +kernel
theorem dX4_init_24 : decode cX4_init 24 = .ok (.invokespecial 18, 3) := by decide +kernel
theorem dX4_init_27 : decode cX4_init 27 = .ok (.putfield 21, 3) := by decide +kernel
theorem dX4_init_30 : decode cX4_init 30 = .ok (.aload_n 0, 1) := by decide +kernel
theorem dX4_init_31 : decode cX4_init 31 = .ok (.new 16, 3) := by decide +kernel
theorem dX4_init_34 : decode cX4_init 34 = .ok (.dup, 1) := by decide +kernel
theorem dX4_init_35 : decode cX4_init 35 = .ok (.iconst 1, 1) := by decide +kernel
theorem dX4_init_36 : decode cX4_init 36 = .ok (.iconst 5, 1) := by decide +kernel
theorem dX4_init_37 : decode cX4_init 37 = .ok (.bipush 64, 2) := by decide +kernel
theorem dX4_init_39 : decode cX4_init 39 = .ok (.invokespecial 18, 3) := by decide +kernel
theorem dX4_init_42 : decode cX4_init 42 = .ok (.putfield 25, 3) := by decide +kernel
theorem dX4_init_45 : decode cX4_init 45 = .ok (.aload_n 0, 1) := by decide +kernel
theorem dX4_init_46 : decode cX4_init 46 = .ok (.bipush 8, 2) := by decide +kernel
theorem dX4_init_48 : decode cX4_init 48 = .ok (.newarray .int, 2) := by decide +kernel
theorem dX4_init_50 : decode cX4_init 50 = .ok (.putfield 28, 3) := by decide +kernel
theorem dX4_init_53 : decode cX4_init 53 = .ok (.aload_n 0, 1) := by decide +kernel
theorem dX4_init_54 : decode cX4_init 54 = .ok (.new 32, 3) := by decide +kernel
theorem dX4_init_57 : decode cX4_init 57 = .ok (.dup, 1) := by decide +kernel
theorem dX4_init_58 : decode cX4_init 58 = .ok (.invokespecial 34, 3) := by decide +kernel
theorem dX4_init_61 : decode cX4_init 61 = .ok (.putfield 35, 3) := by decide +kernel
theorem dX4_init_64 : decode cX4_init 64 = .ok (.aload_n 0, 1) := by decide +kernel
theorem dX4_init_65 : decode cX4_init 65 = .ok (.new 39, 3) := by decide +kernel
theorem dX4_init_68 : decode cX4_init 68 = .ok (.dup, 1) := by decide +kernel
theorem dX4_init_69 : decode cX4_init 69 = .ok (.invokespecial 41, 3) := by decide +kernel
theorem dX4_init_72 : decode cX4_init 72 = .ok (.putfield 42, 3) := by decide +kernel
theorem dX4_init_75 : decode cX4_init 75 = .ok (.aload_n 0, 1) := by decide +kernel
theorem dX4_init_76 : decode cX4_init 76 = .ok (.iconst 1, 1) := by decide +kernel
theorem dX4_init_77 : decode cX4_init 77 = .ok (.iconst 0, 1) := by decide +kernel
theorem dX4_init_78 : decode cX4_init 78 = .ok (.invokevirtual 46, 3) := by decide +kernel
theorem dX4_init_81 : decode cX4_init 81 = .ok (.return_, 1) := by decide +kernel
set_option maxRecDepth 20000 in
theorem ggX4_start_X4_beginAnew : GoodIn wsX4_start wsX4_beginAnew := goodIn_r _ [5, 6, 7, 8, 9, 10, 11, 12, 13, 14, 15, 16, 17, 18, 19, 20, 21, 22, 23, 24, 25, 26, 27, 28, 29, 30, 31, 32, 33, 34, 35, 36, 37, 38, 39, 40, 41, 42, 43, 44, 45, 46, 47, 48, 49, 4, 50, 51, 52, 53, 54, 55, 56, 57, 58, 59, 60, 61, 62, 63, 64, 65, 66, 67, 68, 69, 70, 71, 72, 73, 74, 75, 76, 77, 78, 79, 80, 81, 82, 83, 84, 85, 86, 87, 88, 89, 90, 91, 92, 93, 94, 95, 96, 97, 98, 99, 100, 101, 102, 103, 104, 105, 106, 107, 108, 109, 110, 111, 112, 113, 114, 115, 116, 117, 118, 119, 120, 121, 122, 123, 124, 125, 126, 127, 128, 129, 130, 131, 132, 133, 134, 135, 136, 137, 138, 139, 140, 141, 142, 143, 144, 145, 146, 147] (by decide +kernel) (by decide +kernel)
set_option maxRecDepth 20000 in
theorem gX4_start_X4_beginAnew : GoodIn wsX4_start (wsV RX4 46 RX4 yX4_beginAnew wsX4_beginAnew) := goodIn_app (goodIn_of _ (by decide +kernel)) ggX4_start_X4_beginAnew
theorem dX4_start_0 : decode cX4_start 0 = .ok (.aload_n 0, 1) := by decide +kernel
theorem dX4_start_1 : decode cX4_start 1 = .ok (.iload_n 1, 1) := by decide +kernel
theorem dX4_start_2 : decode cX4_start 2 = .ok (.iload_n 2, 1) := by decide +kernel
theorem dX4_start_3 : decode cX4_start 3 = .ok (.invokevirtual 46, 3) := by decide +kernel
theorem dX4_start_6 : decode cX4_start 6 = .ok (.return_, 1) := by decide +kernel
set_option maxRecDepth 20000 in
theorem ggX4_create_X0_add : GoodIn wsX4_create wsX0_add := goodIn_r _ [6, 7, 8, 9, 10, 11, 5, 12, 13, 14, 15, 16, 24, 25, 26, 27] (by decide +kernel) (by decide +kernel)
set_option maxRecDepth 20000 in
theorem gX4_create_X0_add : GoodIn wsX4_create (wsV RX4 50 RX0 yX0_add wsX0_add) := goodIn_app (goodIn_of _ (by decide +kernel)) ggX4_create_X0_add
theorem dX4_create_0 : decode cX4_create 0 = .ok (.aload_n 0, 1) := by decide +kernel
theorem dX4_create_1 : decode cX4_create 1 = .ok (.getfield 35, 3) := by decide +kernel
theorem dX4_create_4 : decode cX4_create 4 = .ok (.lload_n 1, 1) := by decide +kernel
theorem dX4_create_5 : decode cX4_create 5 = .ok (.invokevirtual 50, 3) := by decide +kernel
theorem dX4_create_8 : decode cX4_create 8 = .ok (.ireturn, 1) := by decide +kernel
set_option maxRecDepth 20000 in
theorem ggX4_find_X0_numberOf : GoodIn wsX4_find wsX0_numberOf := goodIn_r _ [6, 7, 8, 16, 17, 18, 19] (by decide +kernel) (by decide +kernel)
set_option maxRecDepth 20000 in
theorem gX4_find_X0_numberOf : GoodIn wsX4_find (wsV RX4 54 RX0 yX0_numberOf wsX0_numberOf) := goodIn_app (goodIn_of _ (by decide +kernel)) ggX4_find_X0_numberOf
theorem dX4_find_0 : decode cX4_find 0 = .ok (.aload_n 0, 1) := by decide +kernel
theorem dX4_find_1 : decode cX4_find 1 = .ok (.getfield 35, 3) := by decide +kernel
theorem dX4_find_4 : decode cX4_find 4 = .ok (.lload_n 1, 1) := by decide +kernel
theorem dX4_find_5 : decode cX4_find 5 = .ok (.invokevirtual 54, 3) := by decide +kernel
theorem dX4_find_8 : decode cX4_find 8 = .ok (.ireturn, 1) := by decide +kernel
set_option maxRecDepth 20000 in
theorem ggX4_remove_X0_drop : GoodIn wsX4_remove wsX0_drop := goodIn_r _ [6, 7, 8, 9, 10, 11, 12, 5, 13, 14, 15, 16, 24, 25, 26, 27] (by decide +kernel) (by decide +kernel)
set_option maxRecDepth 20000 in
theorem gX4_remove_X0_drop : GoodIn wsX4_remove (wsV RX4 57 RX0 yX0_drop wsX0_drop) := goodIn_app (goodIn_of _ (by decide +kernel)) ggX4_remove_X0_drop
theorem dX4_remove_0 : decode cX4_remove 0 = .ok (.aload_n 0, 1) := by decide +kernel
theorem dX4_remove_1 : decode cX4_remove 1 = .ok (.getfield 35, 3) := by decide +kernel
theorem dX4_remove_4 : decode cX4_remove 4 = .ok (.iload_n 1, 1) := by decide +kernel
theorem dX4_remove_5 : decode cX4_remove 5 = .ok (.invokevirtual 57, 3) := by decide +kernel
theorem dX4_remove_8 : decode cX4_remove 8 = .ok (.ireturn, 1) := by decide +kernel
set_option maxRecDepth 20000 in
theorem ggX4_size_X0_lengthOf : GoodIn wsX4_size wsX0_lengthOf := goodIn_r _ [6, 7, 15, 16, 17, 18] (by decide +kernel) (by decide +kernel)
set_option maxRecDepth 20000 in
theorem gX4_size_X0_lengthOf : GoodIn wsX4_size (wsV RX4 61 RX0 yX0_lengthOf wsX0_lengthOf) := goodIn_app (goodIn_of _ (by decide +kernel)) ggX4_size_X0_lengthOf
theorem dX4_size_0 : decode cX4_size 0 = .ok (.aload_n 0, 1) := by decide +kernel
theorem dX4_size_1 : decode cX4_size 1 = .ok (.getfield 35, 3) := by decide +kernel
theorem dX4_size_4 : decode cX4_size 4 = .ok (.iload_n 1, 1) := by decide +kernel
theorem dX4_size_5 : decode cX4_size 5 = .ok (.invokevirtual 61, 3) := by decide +kernel
theorem dX4_size_8 : decode cX4_size 8 = .ok (.ireturn, 1) := by decide +kernel
set_option maxRecDepth 20000 in
theorem ggX4_write_X0_blockToWrite : GoodIn wsX4_write wsX0_blockToWrite := goodIn_r _ [11, 12, 13, 14, 15, 10, 16, 17, 18, 19, 20, 21, 22, 23, 24, 25, 26, 27, 28, 29, 167, 168, 169, 170] (by decide +kernel) (by decide +kernel)
set_option maxRecDepth 20000 in
theorem gX4_write_X0_blockToWrite : GoodIn wsX4_write (wsV RX4 65 RX0 yX0_blockToWrite wsX0_blockToWrite) := goodIn_app (goodIn_of _ (by decide +kernel)) ggX4_write_X0_blockToWrite
set_option maxRecDepth 20000 in
theorem ggX4_write_X4_openPathOf : GoodIn wsX4_write wsX4_openPathOf := goodIn_r _ [34, 35, 36, 37, 38, 39, 6, 40, 41, 42, 43, 44, 45, 46, 47, 48, 49, 50, 51, 52, 53, 54, 55, 56, 57, 58, 59, 60, 61, 62, 63, 64, 65, 66, 67, 68, 69, 70, 71, 72, 73, 74, 75, 76, 77, 78, 79, 80, 81, 82, 83, 84, 85, 86, 87, 88, 89, 90, 91, 92, 93, 94, 95, 96, 97, 98, 99, 100, 101, 102, 103, 104, 105, 106, 107, 108, 109, 110, 111, 112, 113, 114, 115, 116, 33, 117, 118, 119, 120, 121, 122, 123, 124, 125, 126, 127, 128, 129, 130, 131, 132, 133, 134, 135, 136, 137, 138, 139, 140, 141, 142, 143, 144, 145, 146, 147, 148, 149, 150, 160, 161, 162, 163, 164, 165, 166, 171, 172, 173, 174, 175, 176, 177, 178, 179, 180, 181, 182, 183, 184, 185] (by decide +kernel) (by decide +kernel)
set_option maxRecDepth 20000 in
theorem gX4_write_X4_openPathOf : GoodIn wsX4_write (wsV RX4 72 RX4 yX4_openPathOf wsX4_openPathOf) := goodIn_app (goodIn_of _ (by decide +kernel)) ggX4_write_X4_openPathOf
set_option maxRecDepth 20000 in
theorem ggX4_write_X0_opensPart : GoodIn wsX4_write wsX0_opensPart := goodIn_r _ [21, 13, 14, 15, 10, 16, 17, 167, 168, 169, 170] (by decide +kernel) (by decide +kernel)
set_option maxRecDepth 20000 in
theorem gX4_write_X0_opensPart : GoodIn wsX4_write (wsV RX4 78 RX0 yX0_opensPart wsX0_opensPart) := goodIn_app (goodIn_of _ (by decide +kernel)) ggX4_write_X0_opensPart
set_option maxRecDepth 20000 in
theorem ggX4_write_X3_clearWords : GoodIn wsX4_write wsX3_clearWords := goodIn_r _ [155, 105, 106, 107, 57, 108, 109, 175, 176, 177, 178, 179, 180, 181, 182, 183, 184, 185] (by decide +kernel) (by decide +kernel)
set_option maxRecDepth 20000 in
theorem gX4_write_X3_clearWords : GoodIn wsX4_write (wsV RX4 82 RX3 yX3_clearWords wsX3_clearWords) := goodIn_app (goodIn_of _ (by decide +kernel)) ggX4_write_X3_clearWords
set_option maxRecDepth 20000 in
theorem ggX4_write_X3_setWord : GoodIn wsX4_write wsX3_setWord := goodIn_r _ [108, 109, 175, 176, 177, 178, 179, 180, 181, 182, 183, 184, 185] (by decide +kernel) (by decide +kernel)
set_option maxRecDepth 20000 in
theorem gX4_write_X3_setWord : GoodIn wsX4_write (wsV RX4 86 RX3 yX3_setWord wsX3_setWord) := goodIn_app (goodIn_of _ (by decide +kernel)) ggX4_write_X3_setWord
set_option maxRecDepth 20000 in
theorem ggX4_write_X3_putBack : GoodIn wsX4_write wsX3_putBack := goodIn_r _ [133, 59, 82, 60, 61, 62, 57, 63, 64, 134, 135, 136, 137, 102, 103, 104, 138, 139, 140, 141, 69, 95, 96, 97, 142, 119, 120, 121, 109, 143, 144, 145, 146, 91, 92, 93, 94, 75, 76, 77, 78, 79, 80, 81, 83, 84, 85, 86, 70, 71, 72, 73, 74, 175, 176, 177, 178, 179, 180, 181, 182, 183, 184, 185] (by decide +kernel) (by decide +kernel)
set_option maxRecDepth 20000 in
theorem gX4_write_X3_putBack : GoodIn wsX4_write (wsV RX4 89 RX3 yX3_putBack wsX3_putBack) := goodIn_app (goodIn_of _ (by decide +kernel)) ggX4_write_X3_putBack
set_option maxRecDepth 20000 in
theorem ggX4_write_X0_noteWritten : GoodIn wsX4_write wsX0_noteWritten := goodIn_r _ [159, 12, 26, 17, 18, 19, 20, 10, 21, 13, 14, 15, 16, 27, 28, 29, 167, 168, 169, 170] (by decide +kernel) (by decide +kernel)
set_option maxRecDepth 20000 in
theorem gX4_write_X0_noteWritten : GoodIn wsX4_write (wsV RX4 92 RX0 yX0_noteWritten wsX0_noteWritten) := goodIn_app (goodIn_of _ (by decide +kernel)) ggX4_write_X0_noteWritten
theorem dX4_write_0 : decode cX4_write 0 = .ok (.aload_n 0, 1) := by decide +kernel
theorem dX4_write_1 : decode cX4_write 1 = .ok (.getfield 35, 3) := by decide +kernel
theorem dX4_write_4 : decode cX4_write 4 = .ok (.iload_n 1, 1) := by decide +kernel
theorem dX4_write_5 : decode cX4_write 5 = .ok (.iload_n 2, 1) := by decide +kernel
theorem dX4_write_6 : decode cX4_write 6 = .ok (.invokevirtual 65, 3) := by decide +kernel
theorem dX4_write_9 : decode cX4_write 9 = .ok (.istore 4, 2) := by decide +kernel
theorem dX4_write_11 : decode cX4_write 11 = .ok (.iload 4, 2) := by decide +kernel
theorem dX4_write_13 : decode cX4_write 13 = .ok (.iconst (-1), 1) := by decide +kernel
theorem dX4_write_14 : decode cX4_write 14 = .ok (.if_icmp .ne 11, 3) := by decide +kernel
theorem dX4_write_17 : decode cX4_write 17 = .ok (.new 69, 3) := by decide +kernel
theorem dX4_write_20 : decode cX4_write 20 = .ok (.dup, 1) := by decide +kernel
theorem dX4_write_21 : decode cX4_write 21 = .ok (.invokespecial 71, 3) := by decide +kernel
theorem dX4_write_24 : decode cX4_write 24 = .ok (.athrow, 1) := by decide +kernel
theorem dX4_write_25 : decode cX4_write 25 = .ok (.aload_n 0, 1) := by decide +kernel
theorem dX4_write_26 : decode cX4_write 26 = .ok (.iload 4, 2) := by decide +kernel
theorem dX4_write_28 : decode cX4_write 28 = .ok (.invokevirtual 72, 3) := by decide +kernel
theorem dX4_write_31 : decode cX4_write 31 = .ok (.istore 5, 2) := by decide +kernel
theorem dX4_write_33 : decode cX4_write 33 = .ok (.iload 5, 2) := by decide +kernel
theorem dX4_write_35 : decode cX4_write 35 = .ok (.iconst (-1), 1) := by decide +kernel
theorem dX4_write_36 : decode cX4_write 36 = .ok (.if_icmp .ne 11, 3) := by decide +kernel
theorem dX4_write_39 : decode cX4_write 39 = .ok (.new 75, 3) := by decide +kernel
theorem dX4_write_42 : decode cX4_write 42 = .ok (.dup, 1) := by decide +kernel
theorem dX4_write_43 : decode cX4_write 43 = .ok (.invokespecial 77, 3) := by decide +kernel
theorem dX4_write_46 : decode cX4_write 46 = .ok (.athrow, 1) := by decide +kernel
theorem dX4_write_47 : decode cX4_write 47 = .ok (.aload_n 0, 1) := by decide +kernel
theorem dX4_write_48 : decode cX4_write 48 = .ok (.getfield 35, 3) := by decide +kernel
theorem dX4_write_51 : decode cX4_write 51 = .ok (.iload_n 1, 1) := by decide +kernel
theorem dX4_write_52 : decode cX4_write 52 = .ok (.iload_n 2, 1) := by decide +kernel
theorem dX4_write_53 : decode cX4_write 53 = .ok (.invokevirtual 78, 3) := by decide +kernel
theorem dX4_write_56 : decode cX4_write 56 = .ok (.ifCond .eq 12, 3) := by decide +kernel
theorem dX4_write_59 : decode cX4_write 59 = .ok (.aload_n 0, 1) := by decide +kernel
theorem dX4_write_60 : decode cX4_write 60 = .ok (.getfield 25, 3) := by decide +kernel
theorem dX4_write_63 : decode cX4_write 63 = .ok (.iload 4, 2) := by decide +kernel
theorem dX4_write_65 : decode cX4_write 65 = .ok (.invokevirtual 82, 3) := by decide +kernel
theorem dX4_write_68 : decode cX4_write 68 = .ok (.aload_n 0, 1) := by decide +kernel
theorem dX4_write_69 : decode cX4_write 69 = .ok (.getfield 25, 3) := by decide +kernel
theorem dX4_write_72 : decode cX4_write 72 = .ok (.iload 4, 2) := by decide +kernel
theorem dX4_write_74 : decode cX4_write 74 = .ok (.iload_n 2, 1) := by decide +kernel
theorem dX4_write_75 : decode cX4_write 75 = .ok (.iconst 4, 1) := by decide +kernel
theorem dX4_write_76 : decode cX4_write 76 = .ok (.irem, 1) := by decide +kernel
theorem dX4_write_77 : decode cX4_write 77 = .ok (.iload_n 3, 1) := by decide +kernel
theorem dX4_write_78 : decode cX4_write 78 = .ok (.invokevirtual 86, 3) := by decide +kernel
theorem dX4_write_81 : decode cX4_write 81 = .ok (.aload_n 0, 1) := by decide +kernel
theorem dX4_write_82 : decode cX4_write 82 = .ok (.getfield 25, 3) := by decide +kernel
theorem dX4_write_85 : decode cX4_write 85 = .ok (.iload 5, 2) := by decide +kernel
theorem dX4_write_87 : decode cX4_write 87 = .ok (.invokevirtual 89, 3) := by decide +kernel
theorem dX4_write_90 : decode cX4_write 90 = .ok (.aload_n 0, 1) := by decide +kernel
theorem dX4_write_91 : decode cX4_write 91 = .ok (.getfield 35, 3) := by decide +kernel
theorem dX4_write_94 : decode cX4_write 94 = .ok (.iload_n 1, 1) := by decide +kernel
theorem dX4_write_95 : decode cX4_write 95 = .ok (.iload_n 2, 1) := by decide +kernel
theorem dX4_write_96 : decode cX4_write 96 = .ok (.iload 4, 2) := by decide +kernel
theorem dX4_write_98 : decode cX4_write 98 = .ok (.invokevirtual 92, 3) := by decide +kernel
theorem dX4_write_101 : decode cX4_write 101 = .ok (.return_, 1) := by decide +kernel
set_option maxRecDepth 20000 in
theorem ggX4_read_X0_blockToRead : GoodIn wsX4_read wsX0_blockToRead := goodIn_r _ [11, 12, 13, 14, 15, 10, 16, 17, 18, 19, 20, 149, 150, 151, 152] (by decide +kernel) (by decide +kernel)
set_option maxRecDepth 20000 in
theorem gX4_read_X0_blockToRead : GoodIn wsX4_read (wsV RX4 95 RX0 yX0_blockToRead wsX0_blockToRead) := goodIn_app (goodIn_of _ (by decide +kernel)) ggX4_read_X0_blockToRead
set_option maxRecDepth 20000 in
theorem ggX4_read_X4_openPathOf : GoodIn wsX4_read wsX4_openPathOf := goodIn_r _ [25, 26, 27, 28, 29, 30, 6, 31, 32, 33, 34, 35, 36, 37, 38, 39, 40, 41, 42, 43, 44, 45, 46, 47, 48, 49, 50, 51, 52, 53, 54, 55, 56, 57, 58, 59, 60, 61, 62, 63, 64, 65, 66, 67, 68, 69, 70, 71, 72, 73, 74, 75, 76, 77, 78, 79, 80, 81, 82, 83, 84, 85, 86, 87, 88, 89, 90, 91, 92, 93, 94, 95, 96, 97, 98, 99, 100, 101, 102, 103, 104, 105, 106, 107, 24, 108, 109, 110, 111, 112, 113, 114, 115, 116, 117, 118, 119, 120, 121, 122, 123, 124, 125, 126, 127, 128, 129, 130, 131, 132, 133, 134, 135, 136, 137, 138, 139, 140, 141, 142, 143, 144, 145, 146, 147, 148, 153, 154, 155, 156, 157, 158, 159, 160, 161, 162, 163, 164, 165, 166, 167] (by decide +kernel) (by decide +kernel)
set_option maxRecDepth 20000 in
theorem gX4_read_X4_openPathOf : GoodIn wsX4_read (wsV RX4 72 RX4 yX4_openPathOf wsX4_openPathOf) := goodIn_app (goodIn_of _ (by decide +kernel)) ggX4_read_X4_openPathOf
set_option maxRecDepth 20000 in
theorem ggX4_read_X3_wordOf : GoodIn wsX4_read wsX3_wordOf := goodIn_r _ [112, 100, 157, 158, 159, 160, 161, 162, 163, 164, 165, 166, 167] (by decide +kernel) (by decide +kernel)
set_option maxRecDepth 20000 in
theorem gX4_read_X3_wordOf : GoodIn wsX4_read (wsV RX4 98 RX3 yX3_wordOf wsX3_wordOf) := goodIn_app (goodIn_of _ (by decide +kernel)) ggX4_read_X3_wordOf
set_option maxRecDepth 20000 in
theorem ggX4_read_X3_putBack : GoodIn wsX4_read wsX3_putBack := goodIn_r _ [124, 50, 73, 51, 52, 53, 48, 54, 55, 125, 126, 127, 128, 93, 94, 95, 129, 130, 131, 132, 60, 86, 87, 88, 133, 110, 111, 112, 100, 134, 135, 136, 137, 82, 83, 84, 85, 66, 67, 68, 69, 70, 71, 72, 74, 75, 76, 77, 61, 62, 63, 64, 65, 157, 158, 159, 160, 161, 162, 163, 164, 165, 166, 167] (by decide +kernel) (by decide +kernel)
set_option maxRecDepth 20000 in
theorem gX4_read_X3_putBack : GoodIn wsX4_read (wsV RX4 89 RX3 yX3_putBack wsX3_putBack) := goodIn_app (goodIn_of _ (by decide +kernel)) ggX4_read_X3_putBack
theorem dX4_read_0 : decode cX4_read 0 = .ok (.aload_n 0, 1) := by decide +kernel
theorem dX4_read_1 : decode cX4_read 1 = .ok (.getfield 35, 3) := by decide +kernel
theorem dX4_read_4 : decode cX4_read 4 = .ok (.iload_n 1, 1) := by decide +kernel
theorem dX4_read_5 : decode cX4_read 5 = .ok (.iload_n 2, 1) := by decide +kernel
theorem dX4_read_6 : decode cX4_read 6 = .ok (.invokevirtual 95, 3) := by decide +kernel
theorem dX4_read_9 : decode cX4_read 9 = .ok (.istore_n 3, 1) := by decide +kernel
theorem dX4_read_10 : decode cX4_read 10 = .ok (.iload_n 3, 1) := by decide +kernel
theorem dX4_read_11 : decode cX4_read 11 = .ok (.iconst (-1), 1) := by decide +kernel
theorem dX4_read_12 : decode cX4_read 12 = .ok (.if_icmp .ne 11, 3) := by decide +kernel
theorem dX4_read_15 : decode cX4_read 15 = .ok (.new 69, 3) := by decide +kernel
theorem dX4_read_18 : decode cX4_read 18 = .ok (.dup, 1) := by decide +kernel
theorem dX4_read_19 : decode cX4_read 19 = .ok (.invokespecial 71, 3) := by decide +kernel
theorem dX4_read_22 : decode cX4_read 22 = .ok (.athrow, 1) := by decide +kernel
theorem dX4_read_23 : decode cX4_read 23 = .ok (.aload_n 0, 1) := by decide +kernel
theorem dX4_read_24 : decode cX4_read 24 = .ok (.iload_n 3, 1) := by decide +kernel
theorem dX4_read_25 : decode cX4_read 25 = .ok (.invokevirtual 72, 3) := by decide +kernel
theorem dX4_read_28 : decode cX4_read 28 = .ok (.istore 4, 2) := by decide +kernel
theorem dX4_read_30 : decode cX4_read 30 = .ok (.iload 4, 2) := by decide +kernel
theorem dX4_read_32 : decode cX4_read 32 = .ok (.iconst (-1), 1) := by decide +kernel
theorem dX4_read_33 : decode cX4_read 33 = .ok (.if_icmp .ne 11, 3) := by decide +kernel
theorem dX4_read_36 : decode cX4_read 36 = .ok (.new 75, 3) := by decide +kernel
theorem dX4_read_39 : decode cX4_read 39 = .ok (.dup, 1) := by decide +kernel
theorem dX4_read_40 : decode cX4_read 40 = .ok (.invokespecial 77, 3) := by decide +kernel
theorem dX4_read_43 : decode cX4_read 43 = .ok (.athrow, 1) := by decide +kernel
theorem dX4_read_44 : decode cX4_read 44 = .ok (.aload_n 0, 1) := by decide +kernel
theorem dX4_read_45 : decode cX4_read 45 = .ok (.getfield 25, 3) := by decide +kernel
theorem dX4_read_48 : decode cX4_read 48 = .ok (.iload_n 3, 1) := by decide +kernel
theorem dX4_read_49 : decode cX4_read 49 = .ok (.iload_n 2, 1) := by decide +kernel
theorem dX4_read_50 : decode cX4_read 50 = .ok (.iconst 4, 1) := by decide +kernel
theorem dX4_read_51 : decode cX4_read 51 = .ok (.irem, 1) := by decide +kernel
theorem dX4_read_52 : decode cX4_read 52 = .ok (.invokevirtual 98, 3) := by decide +kernel
theorem dX4_read_55 : decode cX4_read 55 = .ok (.istore 5, 2) := by decide +kernel
theorem dX4_read_57 : decode cX4_read 57 = .ok (.aload_n 0, 1) := by decide +kernel
theorem dX4_read_58 : decode cX4_read 58 = .ok (.getfield 25, 3) := by decide +kernel
theorem dX4_read_61 : decode cX4_read 61 = .ok (.iload 4, 2) := by decide +kernel
theorem dX4_read_63 : decode cX4_read 63 = .ok (.invokevirtual 89, 3) := by decide +kernel
theorem dX4_read_66 : decode cX4_read 66 = .ok (.iload 5, 2) := by decide +kernel
theorem dX4_read_68 : decode cX4_read 68 = .ok (.ireturn, 1) := by decide +kernel
set_option maxRecDepth 20000 in
theorem ggX4_idle_X1_draw : GoodIn wsX4_idle wsX1_draw := goodIn_r _ [9, 10, 132] (by decide +kernel) (by decide +kernel)
set_option maxRecDepth 20000 in
theorem gX4_idle_X1_draw : GoodIn wsX4_idle (wsV RX4 101 RX1 yX1_draw wsX1_draw) := goodIn_app (goodIn_of _ (by decide +kernel)) ggX4_idle_X1_draw
set_option maxRecDepth 20000 in
theorem ggX4_idle_X4_openPathOf : GoodIn wsX4_idle wsX4_openPathOf := goodIn_r _ [15, 16, 17, 3, 18, 19, 4, 5, 6, 7, 8, 9, 10, 20, 21, 22, 23, 24, 25, 26, 27, 28, 29, 30, 31, 32, 33, 34, 35, 36, 37, 38, 39, 40, 41, 42, 43, 44, 45, 46, 47, 48, 49, 50, 51, 52, 53, 54, 55, 56, 57, 58, 59, 60, 61, 62, 63, 64, 65, 66, 67, 68, 69, 70, 71, 72, 73, 74, 75, 76, 77, 78, 79, 80, 81, 82, 83, 84, 85, 86, 87, 88, 89, 90, 14, 91, 92, 93, 94, 95, 96, 97, 98, 99, 100, 101, 102, 103, 104, 105, 106, 107, 108, 109, 110, 111, 112, 113, 114, 115, 116, 117, 118, 119, 120, 121, 122, 123, 124, 125, 126, 127, 128, 129, 130, 131, 132, 133, 134, 135, 136, 137, 138, 139, 140, 141, 142, 143, 144, 145, 146] (by decide +kernel) (by decide +kernel)
set_option maxRecDepth 20000 in
theorem gX4_idle_X4_openPathOf : GoodIn wsX4_idle (wsV RX4 72 RX4 yX4_openPathOf wsX4_openPathOf) := goodIn_app (goodIn_of _ (by decide +kernel)) ggX4_idle_X4_openPathOf
set_option maxRecDepth 20000 in
theorem ggX4_idle_X3_putBack : GoodIn wsX4_idle wsX3_putBack := goodIn_r _ [107, 33, 56, 34, 35, 36, 31, 37, 38, 108, 109, 110, 111, 76, 77, 78, 112, 113, 114, 115, 43, 69, 70, 71, 116, 93, 94, 95, 83, 117, 118, 119, 120, 65, 66, 67, 68, 49, 50, 51, 52, 53, 54, 55, 57, 58, 59, 60, 44, 45, 46, 47, 48, 136, 137, 138, 139, 140, 141, 142, 143, 144, 145, 146] (by decide +kernel) (by decide +kernel)
set_option maxRecDepth 20000 in
theorem gX4_idle_X3_putBack : GoodIn wsX4_idle (wsV RX4 89 RX3 yX3_putBack wsX3_putBack) := goodIn_app (goodIn_of _ (by decide +kernel)) ggX4_idle_X3_putBack
theorem dX4_idle_0 : decode cX4_idle 0 = .ok (.aload_n 0, 1) := by decide +kernel
theorem dX4_idle_1 : decode cX4_idle 1 = .ok (.aload_n 0, 1) := by decide +kernel
theorem dX4_idle_2 : decode cX4_idle 2 = .ok (.getfield 10, 3) := by decide +kernel
theorem dX4_idle_5 : decode cX4_idle 5 = .ok (.bipush 6, 2) := by decide +kernel
theorem dX4_idle_7 : decode cX4_idle 7 = .ok (.invokevirtual 101, 3) := by decide +kernel
theorem dX4_idle_10 : decode cX4_idle 10 = .ok (.invokevirtual 72, 3) := by decide +kernel
theorem dX4_idle_13 : decode cX4_idle 13 = .ok (.istore_n 1, 1) := by decide +kernel
theorem dX4_idle_14 : decode cX4_idle 14 = .ok (.iload_n 1, 1) := by decide +kernel
theorem dX4_idle_15 : decode cX4_idle 15 = .ok (.iconst (-1), 1) := by decide +kernel
theorem dX4_idle_16 : decode cX4_idle 16 = .ok (.if_icmp .ne 11, 3) := by decide +kernel
theorem dX4_idle_19 : decode cX4_idle 19 = .ok (.new 75, 3) := by decide +kernel
theorem dX4_idle_22 : decode cX4_idle 22 = .ok (.dup, 1) := by decide +kernel
theorem dX4_idle_23 : decode cX4_idle 23 = .ok (.invokespecial 77, 3) := by decide +kernel
theorem dX4_idle_26 : decode cX4_idle 26 = .ok (.athrow, 1) := by decide +kernel
theorem dX4_idle_27 : decode cX4_idle 27 = .ok (.aload_n 0, 1) := by decide +kernel
theorem dX4_idle_28 : decode cX4_idle 28 = .ok (.getfield 25, 3) := by decide +kernel
theorem dX4_idle_31 : decode cX4_idle 31 = .ok (.iload_n 1, 1) := by decide +kernel
theorem dX4_idle_32 : decode cX4_idle 32 = .ok (.invokevirtual 89, 3) := by decide +kernel
theorem dX4_idle_35 : decode cX4_idle 35 = .ok (.return_, 1) := by decide +kernel
set_option maxRecDepth 20000 in
theorem ggX4_sealed_X4_treeNumbered : GoodIn wsX4_sealed wsX4_treeNumbered := goodIn_r _ [7, 8, 9, 25, 26, 27, 28, 29, 30, 31] (by decide +kernel) (by decide +kernel)
set_option maxRecDepth 20000 in
theorem gX4_sealed_X4_treeNumbered : GoodIn wsX4_sealed (wsV RX4 104 RX4 yX4_treeNumbered wsX4_treeNumbered) := goodIn_app (goodIn_of _ (by decide +kernel)) ggX4_sealed_X4_treeNumbered
set_option maxRecDepth 20000 in
theorem ggX4_sealed_X3_hasStored : GoodIn wsX4_sealed wsX3_hasStored := goodIn_r _ [14, 15, 16, 17, 13, 18, 19, 32, 33, 34, 35, 36, 37, 38, 39, 40, 41, 42] (by decide +kernel) (by decide +kernel)
set_option maxRecDepth 20000 in
theorem gX4_sealed_X3_hasStored : GoodIn wsX4_sealed (wsV RX4 108 RX3 yX3_hasStored wsX3_hasStored) := goodIn_app (goodIn_of _ (by decide +kernel)) ggX4_sealed_X3_hasStored
set_option maxRecDepth 20000 in
theorem ggX4_sealed_X3_storedWord : GoodIn wsX4_sealed wsX3_storedWord := goodIn_r _ [23, 24, 32, 33, 34, 35, 36, 37, 38, 39, 40, 41, 42] (by decide +kernel) (by decide +kernel)
set_option maxRecDepth 20000 in
theorem gX4_sealed_X3_storedWord : GoodIn wsX4_sealed (wsV RX4 111 RX3 yX3_storedWord wsX3_storedWord) := goodIn_app (goodIn_of _ (by decide +kernel)) ggX4_sealed_X3_storedWord
theorem dX4_sealed_0 : decode cX4_sealed 0 = .ok (.aload_n 0, 1) := by decide +kernel
theorem dX4_sealed_1 : decode cX4_sealed 1 = .ok (.iload_n 1, 1) := by decide +kernel
theorem dX4_sealed_2 : decode cX4_sealed 2 = .ok (.invokevirtual 104, 3) := by decide +kernel
theorem dX4_sealed_5 : decode cX4_sealed 5 = .ok (.astore 4, 2) := by decide +kernel
theorem dX4_sealed_7 : decode cX4_sealed 7 = .ok (.aload 4, 2) := by decide +kernel
theorem dX4_sealed_9 : decode cX4_sealed 9 = .ok (.ifnull 13, 3) := by decide +kernel
theorem dX4_sealed_12 : decode cX4_sealed 12 = .ok (.aload 4, 2) := by decide +kernel
theorem dX4_sealed_14 : decode cX4_sealed 14 = .ok (.iload_n 2, 1) := by decide +kernel
theorem dX4_sealed_15 : decode cX4_sealed 15 = .ok (.iload_n 3, 1) := by decide +kernel
theorem dX4_sealed_16 : decode cX4_sealed 16 = .ok (.invokevirtual 108, 3) := by decide +kernel
theorem dX4_sealed_19 : decode cX4_sealed 19 = .ok (.ifCond .ne 11, 3) := by decide +kernel
theorem dX4_sealed_22 : decode cX4_sealed 22 = .ok (.new 69, 3) := by decide +kernel
theorem dX4_sealed_25 : decode cX4_sealed 25 = .ok (.dup, 1) := by decide +kernel
theorem dX4_sealed_26 : decode cX4_sealed 26 = .ok (.invokespecial 71, 3) := by decide +kernel
theorem dX4_sealed_29 : decode cX4_sealed 29 = .ok (.athrow, 1) := by decide +kernel
theorem dX4_sealed_30 : decode cX4_sealed 30 = .ok (.aload 4, 2) := by decide +kernel
theorem dX4_sealed_32 : decode cX4_sealed 32 = .ok (.iload_n 2, 1) := by decide +kernel
theorem dX4_sealed_33 : decode cX4_sealed 33 = .ok (.iload_n 3, 1) := by decide +kernel
theorem dX4_sealed_34 : decode cX4_sealed 34 = .ok (.invokevirtual 111, 3) := by decide +kernel
theorem dX4_sealed_37 : decode cX4_sealed 37 = .ok (.ireturn, 1) := by decide +kernel
set_option maxRecDepth 20000 in
theorem ggX4_alter_X4_treeNumbered : GoodIn wsX4_alter wsX4_treeNumbered := goodIn_r _ [5, 6, 7, 44, 45, 46, 47, 48, 49, 50] (by decide +kernel) (by decide +kernel)
set_option maxRecDepth 20000 in
theorem gX4_alter_X4_treeNumbered : GoodIn wsX4_alter (wsV RX4 104 RX4 yX4_treeNumbered wsX4_treeNumbered) := goodIn_app (goodIn_of _ (by decide +kernel)) ggX4_alter_X4_treeNumbered
set_option maxRecDepth 20000 in
theorem ggX4_alter_X3_hasStored : GoodIn wsX4_alter wsX3_hasStored := goodIn_r _ [12, 13, 14, 15, 11, 16, 17, 51, 52, 53, 54, 55, 56, 57, 58, 59, 60, 61] (by decide +kernel) (by decide +kernel)
set_option maxRecDepth 20000 in
theorem gX4_alter_X3_hasStored : GoodIn wsX4_alter (wsV RX4 108 RX3 yX3_hasStored wsX3_hasStored) := goodIn_app (goodIn_of _ (by decide +kernel)) ggX4_alter_X3_hasStored
set_option maxRecDepth 20000 in
theorem ggX4_alter_X3_spoil : GoodIn wsX4_alter wsX3_spoil := goodIn_r _ [21, 22, 23, 24, 25, 11, 26, 27, 28, 29, 30, 31, 32, 33, 34, 35, 36, 37, 38, 39, 40, 41, 42, 43, 51, 52, 53, 54, 55, 56, 57, 58, 59, 60, 61] (by decide +kernel) (by decide +kernel)
set_option maxRecDepth 20000 in
theorem gX4_alter_X3_spoil : GoodIn wsX4_alter (wsV RX4 114 RX3 yX3_spoil wsX3_spoil) := goodIn_app (goodIn_of _ (by decide +kernel)) ggX4_alter_X3_spoil
theorem dX4_alter_0 : decode cX4_alter 0 = .ok (.aload_n 0, 1) := by decide +kernel
theorem dX4_alter_1 : decode cX4_alter 1 = .ok (.iload_n 1, 1) := by decide +kernel
theorem dX4_alter_2 : decode cX4_alter 2 = .ok (.invokevirtual 104, 3) := by decide +kernel
theorem dX4_alter_5 : decode cX4_alter 5 = .ok (.astore 5, 2) := by decide +kernel
theorem dX4_alter_7 : decode cX4_alter 7 = .ok (.aload 5, 2) := by decide +kernel
theorem dX4_alter_9 : decode cX4_alter 9 = .ok (.ifnull 29, 3) := by decide +kernel
theorem dX4_alter_12 : decode cX4_alter 12 = .ok (.aload 5, 2) := by decide +kernel
theorem dX4_alter_14 : decode cX4_alter 14 = .ok (.iload_n 2, 1) := by decide +kernel
theorem dX4_alter_15 : decode cX4_alter 15 = .ok (.iload_n 3, 1) := by decide +kernel
theorem dX4_alter_16 : decode cX4_alter 16 = .ok (.invokevirtual 108, 3) := by decide +kernel
theorem dX4_alter_19 : decode cX4_alter 19 = .ok (.ifCond .eq 19, 3) := by decide +kernel
theorem dX4_alter_22 : decode cX4_alter 22 = .ok (.aload 5, 2) := by decide +kernel
theorem dX4_alter_24 : decode cX4_alter 24 = .ok (.iload_n 2, 1) := by decide +kernel
theorem dX4_alter_25 : decode cX4_alter 25 = .ok (.iload_n 3, 1) := by decide +kernel
theorem dX4_alter_26 : decode cX4_alter 26 = .ok (.iload 4, 2) := by decide +kernel
theorem dX4_alter_28 : decode cX4_alter 28 = .ok (.invokevirtual 114, 3) := by decide +kernel
theorem dX4_alter_31 : decode cX4_alter 31 = .ok (.ifCond .eq 7, 3) := by decide +kernel
theorem dX4_alter_34 : decode cX4_alter 34 = .ok (.iconst 1, 1) := by decide +kernel
theorem dX4_alter_35 : decode cX4_alter 35 = .ok (.goto 4, 3) := by decide +kernel
theorem dX4_alter_38 : decode cX4_alter 38 = .ok (.iconst 0, 1) := by decide +kernel
theorem dX4_alter_39 : decode cX4_alter 39 = .ok (.ireturn, 1) := by decide +kernel
set_option maxRecDepth 20000 in
theorem ggX4_counter_X4_treeNumbered : GoodIn wsX4_counter wsX4_treeNumbered := goodIn_r _ [5, 6, 7, 19, 20, 21, 22, 23, 24, 25] (by decide +kernel) (by decide +kernel)
set_option maxRecDepth 20000 in
theorem gX4_counter_X4_treeNumbered : GoodIn wsX4_counter (wsV RX4 104 RX4 yX4_treeNumbered wsX4_treeNumbered) := goodIn_app (goodIn_of _ (by decide +kernel)) ggX4_counter_X4_treeNumbered
set_option maxRecDepth 20000 in
theorem ggX4_counter_X3_hasBucket : GoodIn wsX4_counter wsX3_hasBucket := goodIn_r _ [12, 13, 26, 27, 28, 29, 30, 31, 32, 33, 34, 35, 36] (by decide +kernel) (by decide +kernel)
set_option maxRecDepth 20000 in
theorem gX4_counter_X3_hasBucket : GoodIn wsX4_counter (wsV RX4 118 RX3 yX3_hasBucket wsX3_hasBucket) := goodIn_app (goodIn_of _ (by decide +kernel)) ggX4_counter_X3_hasBucket
set_option maxRecDepth 20000 in
theorem ggX4_counter_X3_timesSealed : GoodIn wsX4_counter wsX3_timesSealed := goodIn_r _ [17, 18, 26, 27, 28, 29, 30, 31, 32, 33, 34, 35, 36] (by decide +kernel) (by decide +kernel)
set_option maxRecDepth 20000 in
theorem gX4_counter_X3_timesSealed : GoodIn wsX4_counter (wsV RX4 121 RX3 yX3_timesSealed wsX3_timesSealed) := goodIn_app (goodIn_of _ (by decide +kernel)) ggX4_counter_X3_timesSealed
theorem dX4_counter_0 : decode cX4_counter 0 = .ok (.aload_n 0, 1) := by decide +kernel
theorem dX4_counter_1 : decode cX4_counter 1 = .ok (.iload_n 1, 1) := by decide +kernel
theorem dX4_counter_2 : decode cX4_counter 2 = .ok (.invokevirtual 104, 3) := by decide +kernel
theorem dX4_counter_5 : decode cX4_counter 5 = .ok (.astore_n 3, 1) := by decide +kernel
theorem dX4_counter_6 : decode cX4_counter 6 = .ok (.aload_n 3, 1) := by decide +kernel
theorem dX4_counter_7 : decode cX4_counter 7 = .ok (.ifnull 11, 3) := by decide +kernel
theorem dX4_counter_10 : decode cX4_counter 10 = .ok (.aload_n 3, 1) := by decide +kernel
theorem dX4_counter_11 : decode cX4_counter 11 = .ok (.iload_n 2, 1) := by decide +kernel
theorem dX4_counter_12 : decode cX4_counter 12 = .ok (.invokevirtual 118, 3) := by decide +kernel
theorem dX4_counter_15 : decode cX4_counter 15 = .ok (.ifCond .ne 7, 3) := by decide +kernel
theorem dX4_counter_18 : decode cX4_counter 18 = .ok (.iconst (-1), 1) := by decide +kernel
theorem dX4_counter_19 : decode cX4_counter 19 = .ok (.goto 8, 3) := by decide +kernel
theorem dX4_counter_22 : decode cX4_counter 22 = .ok (.aload_n 3, 1) := by decide +kernel
theorem dX4_counter_23 : decode cX4_counter 23 = .ok (.iload_n 2, 1) := by decide +kernel
theorem dX4_counter_24 : decode cX4_counter 24 = .ok (.invokevirtual 121, 3) := by decide +kernel
theorem dX4_counter_27 : decode cX4_counter 27 = .ok (.ireturn, 1) := by decide +kernel
set_option maxRecDepth 20000 in
theorem ggX4_trace_X2_leafOf : GoodIn wsX4_trace wsX2_leafOf := goodIn_r _ [6, 7, 8, 9, 17, 18, 19] (by decide +kernel) (by decide +kernel)
set_option maxRecDepth 20000 in
theorem gX4_trace_X2_leafOf : GoodIn wsX4_trace (wsV RX4 124 RX2 yX2_leafOf wsX2_leafOf) := goodIn_app (goodIn_of _ (by decide +kernel)) ggX4_trace_X2_leafOf
theorem dX4_trace_0 : decode cX4_trace 0 = .ok (.aload_n 0, 1) := by decide +kernel
theorem dX4_trace_1 : decode cX4_trace 1 = .ok (.getfield 42, 3) := by decide +kernel
theorem dX4_trace_4 : decode cX4_trace 4 = .ok (.iload_n 1, 1) := by decide +kernel
theorem dX4_trace_5 : decode cX4_trace 5 = .ok (.iload_n 2, 1) := by decide +kernel
theorem dX4_trace_6 : decode cX4_trace 6 = .ok (.invokevirtual 124, 3) := by decide +kernel
theorem dX4_trace_9 : decode cX4_trace 9 = .ok (.ireturn, 1) := by decide +kernel
set_option maxRecDepth 20000 in
theorem ggX4_stash_X4_treeNumbered : GoodIn wsX4_stash wsX4_treeNumbered := goodIn_r _ [5, 6, 7, 15, 16, 17, 18, 19, 20, 21] (by decide +kernel) (by decide +kernel)
set_option maxRecDepth 20000 in
theorem gX4_stash_X4_treeNumbered : GoodIn wsX4_stash (wsV RX4 104 RX4 yX4_treeNumbered wsX4_treeNumbered) := goodIn_app (goodIn_of _ (by decide +kernel)) ggX4_stash_X4_treeNumbered
set_option maxRecDepth 20000 in
theorem ggX4_stash_X3_countHeld : GoodIn wsX4_stash wsX3_countHeld := goodIn_r _ [12, 13, 14, 22, 23, 24, 25, 26, 27, 28, 29, 30, 31, 32] (by decide +kernel) (by decide +kernel)
set_option maxRecDepth 20000 in
theorem gX4_stash_X3_countHeld : GoodIn wsX4_stash (wsV RX4 127 RX3 yX3_countHeld wsX3_countHeld) := goodIn_app (goodIn_of _ (by decide +kernel)) ggX4_stash_X3_countHeld
theorem dX4_stash_0 : decode cX4_stash 0 = .ok (.aload_n 0, 1) := by decide +kernel
theorem dX4_stash_1 : decode cX4_stash 1 = .ok (.iload_n 1, 1) := by decide +kernel
theorem dX4_stash_2 : decode cX4_stash 2 = .ok (.invokevirtual 104, 3) := by decide +kernel
theorem dX4_stash_5 : decode cX4_stash 5 = .ok (.astore_n 2, 1) := by decide +kernel
theorem dX4_stash_6 : decode cX4_stash 6 = .ok (.aload_n 2, 1) := by decide +kernel
theorem dX4_stash_7 : decode cX4_stash 7 = .ok (.ifnonnull 7, 3) := by decide +kernel
theorem dX4_stash_10 : decode cX4_stash 10 = .ok (.iconst (-1), 1) := by decide +kernel
theorem dX4_stash_11 : decode cX4_stash 11 = .ok (.goto 7, 3) := by decide +kernel
theorem dX4_stash_14 : decode cX4_stash 14 = .ok (.aload_n 2, 1) := by decide +kernel
theorem dX4_stash_15 : decode cX4_stash 15 = .ok (.invokevirtual 127, 3) := by decide +kernel
theorem dX4_stash_18 : decode cX4_stash 18 = .ok (.ireturn, 1) := by decide +kernel
set_option maxRecDepth 20000 in
theorem ggX4_state_X2_countAll : GoodIn wsX4_state wsX2_countAll := goodIn_r _ [8, 9, 28, 29, 30] (by decide +kernel) (by decide +kernel)
set_option maxRecDepth 20000 in
theorem gX4_state_X2_countAll : GoodIn wsX4_state (wsV RX4 131 RX2 yX2_countAll wsX2_countAll) := goodIn_app (goodIn_of _ (by decide +kernel)) ggX4_state_X2_countAll
set_option maxRecDepth 20000 in
theorem ggX4_state_X0_countFiles : GoodIn wsX4_state wsX0_countFiles := goodIn_r _ [14, 15, 31, 32, 33, 34] (by decide +kernel) (by decide +kernel)
set_option maxRecDepth 20000 in
theorem gX4_state_X0_countFiles : GoodIn wsX4_state (wsV RX4 134 RX0 yX0_countFiles wsX0_countFiles) := goodIn_app (goodIn_of _ (by decide +kernel)) ggX4_state_X0_countFiles
set_option maxRecDepth 20000 in
theorem ggX4_state_X0_countFreeBlocks : GoodIn wsX4_state wsX0_countFreeBlocks := goodIn_r _ [19, 20, 31, 32, 33, 34] (by decide +kernel) (by decide +kernel)
set_option maxRecDepth 20000 in
theorem gX4_state_X0_countFreeBlocks : GoodIn wsX4_state (wsV RX4 137 RX0 yX0_countFreeBlocks wsX0_countFreeBlocks) := goodIn_app (goodIn_of _ (by decide +kernel)) ggX4_state_X0_countFreeBlocks
theorem dX4_state_0 : decode cX4_state 0 = .ok (.iload_n 1, 1) := by decide +kernel
theorem dX4_state_1 : decode cX4_state 1 = .ok (.tableswitch 68 0 3 #[31, 39, 47, 55], 31) := by decide +kernel
theorem dX4_state_32 : decode cX4_state 32 = .ok (.aload_n 0, 1) := by decide +kernel
theorem dX4_state_33 : decode cX4_state 33 = .ok (.getfield 42, 3) := by decide +kernel
theorem dX4_state_36 : decode cX4_state 36 = .ok (.invokevirtual 131, 3) := by decide +kernel
theorem dX4_state_39 : decode cX4_state 39 = .ok (.ireturn, 1) := by decide +kernel
theorem dX4_state_40 : decode cX4_state 40 = .ok (.aload_n 0, 1) := by decide +kernel
theorem dX4_state_41 : decode cX4_state 41 = .ok (.getfield 35, 3) := by decide +kernel
theorem dX4_state_44 : decode cX4_state 44 = .ok (.invokevirtual 134, 3) := by decide +kernel
theorem dX4_state_47 : decode cX4_state 47 = .ok (.ireturn, 1) := by decide +kernel
theorem dX4_state_48 : decode cX4_state 48 = .ok (.aload_n 0, 1) := by decide +kernel
theorem dX4_state_49 : decode cX4_state 49 = .ok (.getfield 35, 3) := by decide +kernel
theorem dX4_state_52 : decode cX4_state 52 = .ok (.invokevirtual 137, 3) := by decide +kernel
theorem dX4_state_55 : decode cX4_state 55 = .ok (.ireturn, 1) := by decide +kernel
theorem dX4_state_56 : decode cX4_state 56 = .ok (.aload_n 0, 1) := by decide +kernel
theorem dX4_state_57 : decode cX4_state 57 = .ok (.getfield 140, 3) := by decide +kernel
theorem dX4_state_60 : decode cX4_state 60 = .ok (.ifCond .eq 7, 3) := by decide +kernel
theorem dX4_state_63 : decode cX4_state 63 = .ok (.iconst 1, 1) := by decide +kernel
theorem dX4_state_64 : decode cX4_state 64 = .ok (.goto 4, 3) := by decide +kernel
theorem dX4_state_67 : decode cX4_state 67 = .ok (.iconst 0, 1) := by decide +kernel
theorem dX4_state_68 : decode cX4_state 68 = .ok (.ireturn, 1) := by decide +kernel
theorem dX4_state_69 : decode cX4_state 69 = .ok (.iconst (-1), 1) := by decide +kernel
theorem dX4_state_70 : decode cX4_state 70 = .ok (.ireturn, 1) := by decide +kernel
theorem dX4_treeNumbered_0 : decode cX4_treeNumbered 0 = .ok (.iload_n 1, 1) := by decide +kernel
theorem dX4_treeNumbered_1 : decode cX4_treeNumbered 1 = .ok (.ifCond .ne 8, 3) := by decide +kernel
theorem dX4_treeNumbered_4 : decode cX4_treeNumbered 4 = .ok (.aload_n 0, 1) := by decide +kernel
theorem dX4_treeNumbered_5 : decode cX4_treeNumbered 5 = .ok (.getfield 21, 3) := by decide +kernel
theorem dX4_treeNumbered_8 : decode cX4_treeNumbered 8 = .ok (.areturn, 1) := by decide +kernel
theorem dX4_treeNumbered_9 : decode cX4_treeNumbered 9 = .ok (.iload_n 1, 1) := by decide +kernel
theorem dX4_treeNumbered_10 : decode cX4_treeNumbered 10 = .ok (.iconst 1, 1) := by decide +kernel
theorem dX4_treeNumbered_11 : decode cX4_treeNumbered 11 = .ok (.if_icmp .ne 10, 3) := by decide +kernel
theorem dX4_treeNumbered_14 : decode cX4_treeNumbered 14 = .ok (.aload_n 0, 1) := by decide +kernel
theorem dX4_treeNumbered_15 : decode cX4_treeNumbered 15 = .ok (.getfield 25, 3) := by decide +kernel
theorem dX4_treeNumbered_18 : decode cX4_treeNumbered 18 = .ok (.goto 4, 3) := by decide +kernel
theorem dX4_treeNumbered_21 : decode cX4_treeNumbered 21 = .ok (.aconst_null, 1) := by decide +kernel
theorem dX4_treeNumbered_22 : decode cX4_treeNumbered 22 = .ok (.areturn, 1) := by decide +kernel
set_option maxRecDepth 20000 in
theorem ggX4_beginAnew_X1_begin : GoodIn wsX4_beginAnew wsX1_begin := goodIn_r _ [11, 12, 125] (by decide +kernel) (by decide +kernel)
set_option maxRecDepth 20000 in
theorem gX4_beginAnew_X1_begin : GoodIn wsX4_beginAnew (wsV RX4 144 RX1 yX1_begin wsX1_begin) := goodIn_app (goodIn_of _ (by decide +kernel)) ggX4_beginAnew_X1_begin
set_option maxRecDepth 20000 in
theorem ggX4_beginAnew_X3_empty : GoodIn wsX4_beginAnew wsX3_empty := goodIn_r _ [17, 18, 19, 20, 21, 22, 23, 24, 25, 26, 27, 126, 127, 128, 129, 130, 131, 132, 133, 134, 135, 136] (by decide +kernel) (by decide +kernel)
set_option maxRecDepth 20000 in
theorem gX4_beginAnew_X3_empty : GoodIn wsX4_beginAnew (wsV RX4 147 RX3 yX3_empty wsX3_empty) := goodIn_app (goodIn_of _ (by decide +kernel)) ggX4_beginAnew_X3_empty
set_option maxRecDepth 20000 in
theorem ggX4_beginAnew_X0_empty : GoodIn wsX4_beginAnew wsX0_empty := goodIn_r _ [32, 33, 34, 35, 25, 26, 27, 137, 138, 139, 140] (by decide +kernel) (by decide +kernel)
set_option maxRecDepth 20000 in
theorem gX4_beginAnew_X0_empty : GoodIn wsX4_beginAnew (wsV RX4 150 RX0 yX0_empty wsX0_empty) := goodIn_app (goodIn_of _ (by decide +kernel)) ggX4_beginAnew_X0_empty
set_option maxRecDepth 20000 in
theorem ggX4_beginAnew_X2_empty : GoodIn wsX4_beginAnew wsX2_empty := goodIn_r _ [40, 41, 141, 142, 143] (by decide +kernel) (by decide +kernel)
set_option maxRecDepth 20000 in
theorem gX4_beginAnew_X2_empty : GoodIn wsX4_beginAnew (wsV RX4 152 RX2 yX2_empty wsX2_empty) := goodIn_app (goodIn_of _ (by decide +kernel)) ggX4_beginAnew_X2_empty
set_option maxRecDepth 20000 in
theorem ggX4_beginAnew_X4_drawAllLeaves : GoodIn wsX4_beginAnew wsX4_drawAllLeaves := goodIn_r _ [46, 47, 1, 2, 3, 48, 49, 50, 10, 51, 12, 52, 53, 54, 16, 55, 56, 57, 58, 59, 45, 60, 61, 62, 63, 64, 65, 66, 67, 21, 68, 69, 70, 71, 118, 119, 120, 121, 122, 123, 124, 125, 126, 127, 128, 129, 130, 131, 132, 133, 134, 135, 136] (by decide +kernel) (by decide +kernel)
set_option maxRecDepth 20000 in
theorem gX4_beginAnew_X4_drawAllLeaves : GoodIn wsX4_beginAnew (wsV RX4 153 RX4 yX4_drawAllLeaves wsX4_drawAllLeaves) := goodIn_app (goodIn_of _ (by decide +kernel)) ggX4_beginAnew_X4_drawAllLeaves
set_option maxRecDepth 20000 in
theorem ggX4_beginAnew_X3_settleAll : GoodIn wsX4_beginAnew wsX3_settleAll := goodIn_r _ [75, 22, 76, 77, 78, 79, 16, 80, 81, 56, 19, 82, 83, 84, 85, 86, 87, 88, 89, 90, 91, 92, 93, 23, 94, 65, 66, 67, 21, 95, 96, 97, 98, 99, 100, 101, 102, 103, 104, 105, 106, 18, 107, 108, 20, 109, 110, 111, 112, 113, 114, 115, 116, 117, 126, 127, 128, 129, 130, 131, 132, 133, 134, 135, 136] (by decide +kernel) (by decide +kernel)
set_option maxRecDepth 20000 in
theorem gX4_beginAnew_X3_settleAll : GoodIn wsX4_beginAnew (wsV RX4 156 RX3 yX3_settleAll wsX3_settleAll) := goodIn_app (goodIn_of _ (by decide +kernel)) ggX4_beginAnew_X3_settleAll
theorem dX4_beginAnew_0 : decode cX4_beginAnew 0 = .ok (.aload_n 0, 1) := by decide +kernel
theorem dX4_beginAnew_1 : decode cX4_beginAnew 1 = .ok (.getfield 10, 3) := by decide +kernel
theorem dX4_beginAnew_4 : decode cX4_beginAnew 4 = .ok (.iload_n 1, 1) := by decide +kernel
theorem dX4_beginAnew_5 : decode cX4_beginAnew 5 = .ok (.invokevirtual 144, 3) := by decide +kernel
theorem dX4_beginAnew_8 : decode cX4_beginAnew 8 = .ok (.aload_n 0, 1) := by decide +kernel
theorem dX4_beginAnew_9 : decode cX4_beginAnew 9 = .ok (.getfield 21, 3) := by decide +kernel
theorem dX4_beginAnew_12 : decode cX4_beginAnew 12 = .ok (.iload_n 2, 1) := by decide +kernel
theorem dX4_beginAnew_13 : decode cX4_beginAnew 13 = .ok (.invokevirtual 147, 3) := by decide +kernel
theorem dX4_beginAnew_16 : decode cX4_beginAnew 16 = .ok (.aload_n 0, 1) := by decide +kernel
theorem dX4_beginAnew_17 : decode cX4_beginAnew 17 = .ok (.getfield 25, 3) := by decide +kernel
theorem dX4_beginAnew_20 : decode cX4_beginAnew 20 = .ok (.iload_n 2, 1) := by decide +kernel
theorem dX4_beginAnew_21 : decode cX4_beginAnew 21 = .ok (.invokevirtual 147, 3) := by decide +kernel
theorem dX4_beginAnew_24 : decode cX4_beginAnew 24 = .ok (.aload_n 0, 1) := by decide +kernel
theorem dX4_beginAnew_25 : decode cX4_beginAnew 25 = .ok (.getfield 35, 3) := by decide +kernel
theorem dX4_beginAnew_28 : decode cX4_beginAnew 28 = .ok (.invokevirtual 150, 3) := by decide +kernel
theorem dX4_beginAnew_31 : decode cX4_beginAnew 31 = .ok (.aload_n 0, 1) := by decide +kernel
theorem dX4_beginAnew_32 : decode cX4_beginAnew 32 = .ok (.getfield 42, 3) := by decide +kernel
theorem dX4_beginAnew_35 : decode cX4_beginAnew 35 = .ok (.invokevirtual 152, 3) := by decide +kernel
theorem dX4_beginAnew_38 : decode cX4_beginAnew 38 = .ok (.aload_n 0, 1) := by decide +kernel
theorem dX4_beginAnew_39 : decode cX4_beginAnew 39 = .ok (.iconst 0, 1) := by decide +kernel
theorem dX4_beginAnew_40 : decode cX4_beginAnew 40 = .ok (.putfield 140, 3) := by decide +kernel
theorem dX4_beginAnew_43 : decode cX4_beginAnew 43 = .ok (.aload_n 0, 1) := by decide +kernel
theorem dX4_beginAnew_44 : decode cX4_beginAnew 44 = .ok (.invokevirtual 153, 3) := by decide +kernel
theorem dX4_beginAnew_47 : decode cX4_beginAnew 47 = .ok (.aload_n 0, 1) := by decide +kernel
theorem dX4_beginAnew_48 : decode cX4_beginAnew 48 = .ok (.getfield 21, 3) := by decide +kernel
theorem dX4_beginAnew_51 : decode cX4_beginAnew 51 = .ok (.invokevirtual 156, 3) := by decide +kernel
theorem dX4_beginAnew_54 : decode cX4_beginAnew 54 = .ok (.aload_n 0, 1) := by decide +kernel
theorem dX4_beginAnew_55 : decode cX4_beginAnew 55 = .ok (.getfield 25, 3) := by decide +kernel
theorem dX4_beginAnew_58 : decode cX4_beginAnew 58 = .ok (.invokevirtual 156, 3) := by decide +kernel
theorem dX4_beginAnew_61 : decode cX4_beginAnew 61 = .ok (.return_, 1) := by decide +kernel
set_option maxRecDepth 20000 in
theorem ggX4_drawAllLeaves_X1_draw : GoodIn wsX4_drawAllLeaves wsX1_draw := goodIn_r _ [9, 10, 41] (by decide +kernel) (by decide +kernel)
set_option maxRecDepth 20000 in
theorem gX4_drawAllLeaves_X1_draw : GoodIn wsX4_drawAllLeaves (wsV RX4 101 RX1 yX1_draw wsX1_draw) := goodIn_app (goodIn_of _ (by decide +kernel)) ggX4_drawAllLeaves_X1_draw
set_option maxRecDepth 20000 in
theorem ggX4_drawAllLeaves_X3_moveTo : GoodIn wsX4_drawAllLeaves wsX3_moveTo := goodIn_r _ [15, 16, 42, 43, 44, 45, 46, 47, 48, 49, 50, 51, 52] (by decide +kernel) (by decide +kernel)
set_option maxRecDepth 20000 in
theorem gX4_drawAllLeaves_X3_moveTo : GoodIn wsX4_drawAllLeaves (wsV RX4 159 RX3 yX3_moveTo wsX3_moveTo) := goodIn_app (goodIn_of _ (by decide +kernel)) ggX4_drawAllLeaves_X3_moveTo
set_option maxRecDepth 20000 in
theorem ggX4_drawAllLeaves_X4_setEntry : GoodIn wsX4_drawAllLeaves wsX4_setEntry := goodIn_r _ [21, 3, 22, 23, 20, 24, 25, 26, 27, 14, 28, 29, 30, 31, 32, 33, 34, 35, 36, 37, 38, 39, 40, 42, 43, 44, 45, 46, 47, 48, 49, 50, 51, 52] (by decide +kernel) (by decide +kernel)
set_option maxRecDepth 20000 in
theorem gX4_drawAllLeaves_X4_setEntry : GoodIn wsX4_drawAllLeaves (wsV RX4 162 RX4 yX4_setEntry wsX4_setEntry) := goodIn_app (goodIn_of _ (by decide +kernel)) ggX4_drawAllLeaves_X4_setEntry
theorem dX4_drawAllLeaves_0 : decode cX4_drawAllLeaves 0 = .ok (.iconst 0, 1) := by decide +kernel
theorem dX4_drawAllLeaves_1 : decode cX4_drawAllLeaves 1 = .ok (.istore_n 1, 1) := by decide +kernel
theorem dX4_drawAllLeaves_2 : decode cX4_drawAllLeaves 2 = .ok (.iload_n 1, 1) := by decide +kernel
theorem dX4_drawAllLeaves_3 : decode cX4_drawAllLeaves 3 = .ok (.bipush 8, 2) := by decide +kernel
theorem dX4_drawAllLeaves_5 : decode cX4_drawAllLeaves 5 = .ok (.if_icmp .ge 37, 3) := by decide +kernel
theorem dX4_drawAllLeaves_8 : decode cX4_drawAllLeaves 8 = .ok (.aload_n 0, 1) := by decide +kernel
theorem dX4_drawAllLeaves_9 : decode cX4_drawAllLeaves 9 = .ok (.getfield 28, 3) := by decide +kernel
theorem dX4_drawAllLeaves_12 : decode cX4_drawAllLeaves 12 = .ok (.iload_n 1, 1) := by decide +kernel
theorem dX4_drawAllLeaves_13 : decode cX4_drawAllLeaves 13 = .ok (.aload_n 0, 1) := by decide +kernel
theorem dX4_drawAllLeaves_14 : decode cX4_drawAllLeaves 14 = .ok (.getfield 10, 3) := by decide +kernel
theorem dX4_drawAllLeaves_17 : decode cX4_drawAllLeaves 17 = .ok (.iconst 2, 1) := by decide +kernel
theorem dX4_drawAllLeaves_18 : decode cX4_drawAllLeaves 18 = .ok (.invokevirtual 101, 3) := by decide +kernel
theorem dX4_drawAllLeaves_21 : decode cX4_drawAllLeaves 21 = .ok (.iastore, 1) := by decide +kernel
theorem dX4_drawAllLeaves_22 : decode cX4_drawAllLeaves 22 = .ok (.aload_n 0, 1) := by decide +kernel
theorem dX4_drawAllLeaves_23 : decode cX4_drawAllLeaves 23 = .ok (.getfield 21, 3) := by decide +kernel
theorem dX4_drawAllLeaves_26 : decode cX4_drawAllLeaves 26 = .ok (.iload_n 1, 1) := by decide +kernel
theorem dX4_drawAllLeaves_27 : decode cX4_drawAllLeaves 27 = .ok (.aload_n 0, 1) := by decide +kernel
theorem dX4_drawAllLeaves_28 : decode cX4_drawAllLeaves 28 = .ok (.getfield 28, 3) := by decide +kernel
theorem dX4_drawAllLeaves_31 : decode cX4_drawAllLeaves 31 = .ok (.iload_n 1, 1) := by decide +kernel
theorem dX4_drawAllLeaves_32 : decode cX4_drawAllLeaves 32 = .ok (.iaload, 1) := by decide +kernel
theorem dX4_drawAllLeaves_33 : decode cX4_drawAllLeaves 33 = .ok (.invokevirtual 159, 3) := by decide +kernel
theorem dX4_drawAllLeaves_36 : decode cX4_drawAllLeaves 36 = .ok (.iinc 1 1, 3) := by decide +kernel
theorem dX4_drawAllLeaves_39 : decode cX4_drawAllLeaves 39 = .ok (.goto (-37), 3) := by decide +kernel
theorem dX4_drawAllLeaves_42 : decode cX4_drawAllLeaves 42 = .ok (.iconst 0, 1) := by decide +kernel
theorem dX4_drawAllLeaves_43 : decode cX4_drawAllLeaves 43 = .ok (.istore_n 1, 1) := by decide +kernel
theorem dX4_drawAllLeaves_44 : decode cX4_drawAllLeaves 44 = .ok (.iload_n 1, 1) := by decide +kernel
theorem dX4_drawAllLeaves_45 : decode cX4_drawAllLeaves 45 = .ok (.bipush 64, 2) := by decide +kernel
theorem dX4_drawAllLeaves_47 : decode cX4_drawAllLeaves 47 = .ok (.if_icmp .ge 33, 3) := by decide +kernel
theorem dX4_drawAllLeaves_50 : decode cX4_drawAllLeaves 50 = .ok (.aload_n 0, 1) := by decide +kernel
theorem dX4_drawAllLeaves_51 : decode cX4_drawAllLeaves 51 = .ok (.getfield 10, 3) := by decide +kernel
theorem dX4_drawAllLeaves_54 : decode cX4_drawAllLeaves 54 = .ok (.iconst 5, 1) := by decide +kernel
theorem dX4_drawAllLeaves_55 : decode cX4_drawAllLeaves 55 = .ok (.invokevirtual 101, 3) := by decide +kernel
theorem dX4_drawAllLeaves_58 : decode cX4_drawAllLeaves 58 = .ok (.istore_n 2, 1) := by decide +kernel
theorem dX4_drawAllLeaves_59 : decode cX4_drawAllLeaves 59 = .ok (.aload_n 0, 1) := by decide +kernel
theorem dX4_drawAllLeaves_60 : decode cX4_drawAllLeaves 60 = .ok (.getfield 25, 3) := by decide +kernel
theorem dX4_drawAllLeaves_63 : decode cX4_drawAllLeaves 63 = .ok (.iload_n 1, 1) := by decide +kernel
theorem dX4_drawAllLeaves_64 : decode cX4_drawAllLeaves 64 = .ok (.iload_n 2, 1) := by decide +kernel
theorem dX4_drawAllLeaves_65 : decode cX4_drawAllLeaves 65 = .ok (.invokevirtual 159, 3) := by decide +kernel
theorem dX4_drawAllLeaves_68 : decode cX4_drawAllLeaves 68 = .ok (.aload_n 0, 1) := by decide +kernel
theorem dX4_drawAllLeaves_69 : decode cX4_drawAllLeaves 69 = .ok (.iload_n 1, 1) := by decide +kernel
theorem dX4_drawAllLeaves_70 : decode cX4_drawAllLeaves 70 = .ok (.iload_n 2, 1) := by decide +kernel
theorem dX4_drawAllLeaves_71 : decode cX4_drawAllLeaves 71 = .ok (.invokevirtual 162, 3) := by decide +kernel
theorem dX4_drawAllLeaves_74 : decode cX4_drawAllLeaves 74 = .ok (.iinc 1 1, 3) := by decide +kernel
theorem dX4_drawAllLeaves_77 : decode cX4_drawAllLeaves 77 = .ok (.goto (-33), 3) := by decide +kernel
theorem dX4_drawAllLeaves_80 : decode cX4_drawAllLeaves 80 = .ok (.return_, 1) := by decide +kernel
set_option maxRecDepth 20000 in
theorem ggX4_openPathOf_X1_draw : GoodIn wsX4_openPathOf wsX1_draw := goodIn_r _ [11, 12, 126] (by decide +kernel) (by decide +kernel)
set_option maxRecDepth 20000 in
theorem gX4_openPathOf_X1_draw : GoodIn wsX4_openPathOf (wsV RX4 101 RX1 yX1_draw wsX1_draw) := goodIn_app (goodIn_of _ (by decide +kernel)) ggX4_openPathOf_X1_draw
set_option maxRecDepth 20000 in
theorem ggX4_openPathOf_X2_add : GoodIn wsX4_openPathOf wsX2_add := goodIn_r _ [17, 18, 19, 20, 127, 128, 129] (by decide +kernel) (by decide +kernel)
set_option maxRecDepth 20000 in
theorem gX4_openPathOf_X2_add : GoodIn wsX4_openPathOf (wsV RX4 165 RX2 yX2_add wsX2_add) := goodIn_app (goodIn_of _ (by decide +kernel)) ggX4_openPathOf_X2_add
set_option maxRecDepth 20000 in
theorem ggX4_openPathOf_X3_take : GoodIn wsX4_openPathOf wsX3_take := goodIn_r _ [25, 26, 27, 28, 29, 24, 30, 31, 32, 33, 34, 35, 36, 37, 38, 39, 40, 41, 42, 43, 44, 45, 46, 47, 48, 49, 50, 51, 52, 53, 54, 55, 56, 57, 58, 59, 60, 61, 62, 63, 64, 65, 66, 67, 68, 69, 70, 71, 72, 73, 74, 75, 76, 130, 131, 132, 133, 134, 135, 136, 137, 138, 139, 140] (by decide +kernel) (by decide +kernel)
set_option maxRecDepth 20000 in
theorem gX4_openPathOf_X3_take : GoodIn wsX4_openPathOf (wsV RX4 167 RX3 yX3_take wsX3_take) := goodIn_app (goodIn_of _ (by decide +kernel)) ggX4_openPathOf_X3_take
set_option maxRecDepth 20000 in
theorem ggX4_openPathOf_X3_moveTo : GoodIn wsX4_openPathOf wsX3_moveTo := goodIn_r _ [80, 71, 130, 131, 132, 133, 134, 135, 136, 137, 138, 139, 140] (by decide +kernel) (by decide +kernel)
set_option maxRecDepth 20000 in
theorem gX4_openPathOf_X3_moveTo : GoodIn wsX4_openPathOf (wsV RX4 159 RX3 yX3_moveTo wsX3_moveTo) := goodIn_app (goodIn_of _ (by decide +kernel)) ggX4_openPathOf_X3_moveTo
set_option maxRecDepth 20000 in
theorem ggX4_openPathOf_X4_entryOf : GoodIn wsX4_openPathOf wsX4_entryOf := goodIn_r _ [85, 5, 86, 87, 88, 24, 89, 76, 90, 91, 84, 92, 119, 120, 121, 122, 123, 124, 125, 130, 131, 132, 133, 134, 135, 136, 137, 138, 139, 140] (by decide +kernel) (by decide +kernel)
set_option maxRecDepth 20000 in
theorem gX4_openPathOf_X4_entryOf : GoodIn wsX4_openPathOf (wsV RX4 170 RX4 yX4_entryOf wsX4_entryOf) := goodIn_app (goodIn_of _ (by decide +kernel)) ggX4_openPathOf_X4_entryOf
set_option maxRecDepth 20000 in
theorem ggX4_openPathOf_X4_setEntry : GoodIn wsX4_openPathOf wsX4_setEntry := goodIn_r _ [96, 5, 90, 91, 84, 92, 86, 87, 88, 24, 89, 76, 97, 73, 74, 75, 119, 120, 121, 122, 123, 124, 125, 130, 131, 132, 133, 134, 135, 136, 137, 138, 139, 140] (by decide +kernel) (by decide +kernel)
set_option maxRecDepth 20000 in
theorem gX4_openPathOf_X4_setEntry : GoodIn wsX4_openPathOf (wsV RX4 162 RX4 yX4_setEntry wsX4_setEntry) := goodIn_app (goodIn_of _ (by decide +kernel)) ggX4_openPathOf_X4_setEntry
set_option maxRecDepth 20000 in
theorem ggX4_openPathOf_X3_putBack : GoodIn wsX4_openPathOf wsX3_putBack := goodIn_r _ [101, 26, 49, 27, 28, 29, 24, 30, 31, 102, 103, 104, 105, 69, 70, 71, 106, 107, 108, 109, 36, 62, 63, 64, 110, 87, 88, 89, 76, 111, 112, 113, 114, 58, 59, 60, 61, 42, 43, 44, 45, 46, 47, 48, 50, 51, 52, 53, 37, 38, 39, 40, 41, 130, 131, 132, 133, 134, 135, 136, 137, 138, 139, 140] (by decide +kernel) (by decide +kernel)
set_option maxRecDepth 20000 in
theorem gX4_openPathOf_X3_putBack : GoodIn wsX4_openPathOf (wsV RX4 89 RX3 yX3_putBack wsX3_putBack) := goodIn_app (goodIn_of _ (by decide +kernel)) ggX4_openPathOf_X3_putBack
set_option maxRecDepth 20000 in
theorem ggX4_openPathOf_X2_setDataLeaf : GoodIn wsX4_openPathOf wsX2_setDataLeaf := goodIn_r _ [118, 19, 20, 127, 128, 129] (by decide +kernel) (by decide +kernel)
set_option maxRecDepth 20000 in
theorem gX4_openPathOf_X2_setDataLeaf : GoodIn wsX4_openPathOf (wsV RX4 173 RX2 yX2_setDataLeaf wsX2_setDataLeaf) := goodIn_app (goodIn_of _ (by decide +kernel)) ggX4_openPathOf_X2_setDataLeaf
theorem dX4_openPathOf_0 : decode cX4_openPathOf 0 = .ok (.aload_n 0, 1) := by decide +kernel
theorem dX4_openPathOf_1 : decode cX4_openPathOf 1 = .ok (.getfield 140, 3) := by decide +kernel
theorem dX4_openPathOf_4 : decode cX4_openPathOf 4 = .ok (.ifCond .eq 5, 3) := by decide +kernel
theorem dX4_openPathOf_7 : decode cX4_openPathOf 7 = .ok (.iconst (-1), 1) := by decide +kernel
theorem dX4_openPathOf_8 : decode cX4_openPathOf 8 = .ok (.ireturn, 1) := by decide +kernel
theorem dX4_openPathOf_9 : decode cX4_openPathOf 9 = .ok (.iload_n 1, 1) := by decide +kernel
theorem dX4_openPathOf_10 : decode cX4_openPathOf 10 = .ok (.bipush 8, 2) := by decide +kernel
theorem dX4_openPathOf_12 : decode cX4_openPathOf 12 = .ok (.idiv, 1) := by decide +kernel
theorem dX4_openPathOf_13 : decode cX4_openPathOf 13 = .ok (.istore_n 2, 1) := by decide +kernel
theorem dX4_openPathOf_14 : decode cX4_openPathOf 14 = .ok (.aload_n 0, 1) := by decide +kernel
theorem dX4_openPathOf_15 : decode cX4_openPathOf 15 = .ok (.getfield 28, 3) := by decide +kernel
theorem dX4_openPathOf_18 : decode cX4_openPathOf 18 = .ok (.iload_n 2, 1) := by decide +kernel
theorem dX4_openPathOf_19 : decode cX4_openPathOf 19 = .ok (.iaload, 1) := by decide +kernel
theorem dX4_openPathOf_20 : decode cX4_openPathOf 20 = .ok (.istore_n 3, 1) := by decide +kernel
theorem dX4_openPathOf_21 : decode cX4_openPathOf 21 = .ok (.aload_n 0, 1) := by decide +kernel
theorem dX4_openPathOf_22 : decode cX4_openPathOf 22 = .ok (.getfield 28, 3) := by decide +kernel
theorem dX4_openPathOf_25 : decode cX4_openPathOf 25 = .ok (.iload_n 2, 1) := by decide +kernel
theorem dX4_openPathOf_26 : decode cX4_openPathOf 26 = .ok (.aload_n 0, 1) := by decide +kernel
theorem dX4_openPathOf_27 : decode cX4_openPathOf 27 = .ok (.getfield 10, 3) := by decide +kernel
theorem dX4_openPathOf_30 : decode cX4_openPathOf 30 = .ok (.iconst 2, 1) := by decide +kernel
theorem dX4_openPathOf_31 : decode cX4_openPathOf 31 = .ok (.invokevirtual 101, 3) := by decide +kernel
theorem dX4_openPathOf_34 : decode cX4_openPathOf 34 = .ok (.iastore, 1) := by decide +kernel
theorem dX4_openPathOf_35 : decode cX4_openPathOf 35 = .ok (.aload_n 0, 1) := by decide +kernel
theorem dX4_openPathOf_36 : decode cX4_openPathOf 36 = .ok (.getfield 42, 3) := by decide +kernel
theorem dX4_openPathOf_39 : decode cX4_openPathOf 39 = .ok (.iload_n 3, 1) := by decide +kernel
theorem dX4_openPathOf_40 : decode cX4_openPathOf 40 = .ok (.invokevirtual 165, 3) := by decide +kernel
theorem dX4_openPathOf_43 : decode cX4_openPathOf 43 = .ok (.aload_n 0, 1) := by decide +kernel
theorem dX4_openPathOf_44 : decode cX4_openPathOf 44 = .ok (.getfield 21, 3) := by decide +kernel
theorem dX4_openPathOf_47 : decode cX4_openPathOf 47 = .ok (.iload_n 3, 1) := by decide +kernel
theorem dX4_openPathOf_48 : decode cX4_openPathOf 48 = .ok (.invokevirtual 167, 3) := by decide +kernel
theorem dX4_openPathOf_51 : decode cX4_openPathOf 51 = .ok (.ifCond .ne 10, 3) := by decide +kernel
theorem dX4_openPathOf_54 : decode cX4_openPathOf 54 = .ok (.aload_n 0, 1) := by decide +kernel
theorem dX4_openPathOf_55 : decode cX4_openPathOf 55 = .ok (.iconst 1, 1) := by decide +kernel
theorem dX4_openPathOf_56 : decode cX4_openPathOf 56 = .ok (.putfield 140, 3) := by decide +kernel
theorem dX4_openPathOf_59 : decode cX4_openPathOf 59 = .ok (.iconst (-1), 1) := by decide +kernel
theorem dX4_openPathOf_60 : decode cX4_openPathOf 60 = .ok (.ireturn, 1) := by decide +kernel
theorem dX4_openPathOf_61 : decode cX4_openPathOf 61 = .ok (.aload_n 0, 1) := by decide +kernel
theorem dX4_openPathOf_62 : decode cX4_openPathOf 62 = .ok (.getfield 21, 3) := by decide +kernel
theorem dX4_openPathOf_65 : decode cX4_openPathOf 65 = .ok (.iload_n 2, 1) := by decide +kernel
theorem dX4_openPathOf_66 : decode cX4_openPathOf 66 = .ok (.aload_n 0, 1) := by decide +kernel
theorem dX4_openPathOf_67 : decode cX4_openPathOf 67 = .ok (.getfield 28, 3) := by decide +kernel
theorem dX4_openPathOf_70 : decode cX4_openPathOf 70 = .ok (.iload_n 2, 1) := by decide +kernel
theorem dX4_openPathOf_71 : decode cX4_openPathOf 71 = .ok (.iaload, 1) := by decide +kernel
theorem dX4_openPathOf_72 : decode cX4_openPathOf 72 = .ok (.invokevirtual 159, 3) := by decide +kernel
theorem dX4_openPathOf_75 : decode cX4_openPathOf 75 = .ok (.aload_n 0, 1) := by decide +kernel
theorem dX4_openPathOf_76 : decode cX4_openPathOf 76 = .ok (.iload_n 1, 1) := by decide +kernel
theorem dX4_openPathOf_77 : decode cX4_openPathOf 77 = .ok (.invokevirtual 170, 3) := by decide +kernel
theorem dX4_openPathOf_80 : decode cX4_openPathOf 80 = .ok (.istore 4, 2) := by decide +kernel
theorem dX4_openPathOf_82 : decode cX4_openPathOf 82 = .ok (.aload_n 0, 1) := by decide +kernel
theorem dX4_openPathOf_83 : decode cX4_openPathOf 83 = .ok (.getfield 10, 3) := by decide +kernel
theorem dX4_openPathOf_86 : decode cX4_openPathOf 86 = .ok (.iconst 5, 1) := by decide +kernel
theorem dX4_openPathOf_87 : decode cX4_openPathOf 87 = .ok (.invokevirtual 101, 3) := by decide +kernel
theorem dX4_openPathOf_90 : decode cX4_openPathOf 90 = .ok (.istore 5, 2) := by decide +kernel
theorem dX4_openPathOf_92 : decode cX4_openPathOf 92 = .ok (.aload_n 0, 1) := by decide +kernel
theorem dX4_openPathOf_93 : decode cX4_openPathOf 93 = .ok (.iload_n 1, 1) := by decide +kernel
theorem dX4_openPathOf_94 : decode cX4_openPathOf 94 = .ok (.iload 5, 2) := by decide +kernel
theorem dX4_openPathOf_96 : decode cX4_openPathOf 96 = .ok (.invokevirtual 162, 3) := by decide +kernel
theorem dX4_openPathOf_99 : decode cX4_openPathOf 99 = .ok (.aload_n 0, 1) := by decide +kernel
theorem dX4_openPathOf_100 : decode cX4_openPathOf 100 = .ok (.getfield 21, 3) := by decide +kernel
theorem dX4_openPathOf_103 : decode cX4_openPathOf 103 = .ok (.iload_n 3, 1) := by decide +kernel
theorem dX4_openPathOf_104 : decode cX4_openPathOf 104 = .ok (.invokevirtual 89, 3) := by decide +kernel
theorem dX4_openPathOf_107 : decode cX4_openPathOf 107 = .ok (.aload_n 0, 1) := by decide +kernel
theorem dX4_openPathOf_108 : decode cX4_openPathOf 108 = .ok (.getfield 42, 3) := by decide +kernel
theorem dX4_openPathOf_111 : decode cX4_openPathOf 111 = .ok (.iload 4, 2) := by decide +kernel
theorem dX4_openPathOf_113 : decode cX4_openPathOf 113 = .ok (.invokevirtual 173, 3) := by decide +kernel
theorem dX4_openPathOf_116 : decode cX4_openPathOf 116 = .ok (.aload_n 0, 1) := by decide +kernel
theorem dX4_openPathOf_117 : decode cX4_openPathOf 117 = .ok (.getfield 25, 3) := by decide +kernel
theorem dX4_openPathOf_120 : decode cX4_openPathOf 120 = .ok (.iload 4, 2) := by decide +kernel
theorem dX4_openPathOf_122 : decode cX4_openPathOf 122 = .ok (.invokevirtual 167, 3) := by decide +kernel
theorem dX4_openPathOf_125 : decode cX4_openPathOf 125 = .ok (.ifCond .ne 10, 3) := by decide +kernel
theorem dX4_openPathOf_128 : decode cX4_openPathOf 128 = .ok (.aload_n 0, 1) := by decide +kernel
theorem dX4_openPathOf_129 : decode cX4_openPathOf 129 = .ok (.iconst 1, 1) := by decide +kernel
theorem dX4_openPathOf_130 : decode cX4_openPathOf 130 = .ok (.putfield 140, 3) := by decide +kernel
theorem dX4_openPathOf_133 : decode cX4_openPathOf 133 = .ok (.iconst (-1), 1) := by decide +kernel
theorem dX4_openPathOf_134 : decode cX4_openPathOf 134 = .ok (.ireturn, 1) := by decide +kernel
theorem dX4_openPathOf_135 : decode cX4_openPathOf 135 = .ok (.aload_n 0, 1) := by decide +kernel
theorem dX4_openPathOf_136 : decode cX4_openPathOf 136 = .ok (.getfield 25, 3) := by decide +kernel
theorem dX4_openPathOf_139 : decode cX4_openPathOf 139 = .ok (.iload_n 1, 1) := by decide +kernel
theorem dX4_openPathOf_140 : decode cX4_openPathOf 140 = .ok (.iload 5, 2) := by decide +kernel
theorem dX4_openPathOf_142 : decode cX4_openPathOf 142 = .ok (.invokevirtual 159, 3) := by decide +kernel
theorem dX4_openPathOf_145 : decode cX4_openPathOf 145 = .ok (.iload 4, 2) := by decide +kernel
theorem dX4_openPathOf_147 : decode cX4_openPathOf 147 = .ok (.ireturn, 1) := by decide +kernel
set_option maxRecDepth 20000 in
theorem ggX4_entryOf_X3_wordOf : GoodIn wsX4_entryOf wsX3_wordOf := goodIn_r _ [6, 7, 19, 20, 21, 22, 23, 24, 25, 26, 27, 28, 29] (by decide +kernel) (by decide +kernel)
set_option maxRecDepth 20000 in
theorem gX4_entryOf_X3_wordOf : GoodIn wsX4_entryOf (wsV RX4 98 RX3 yX3_wordOf wsX3_wordOf) := goodIn_app (goodIn_of _ (by decide +kernel)) ggX4_entryOf_X3_wordOf
set_option maxRecDepth 20000 in
theorem ggX4_entryOf_X4_entryShift : GoodIn wsX4_entryOf wsX4_entryShift := goodIn_r _ [11] (by decide +kernel) (by decide +kernel)
set_option maxRecDepth 20000 in
theorem gX4_entryOf_X4_entryShift : GoodIn wsX4_entryOf (va_wsS RX4 176 yX4_entryShift wsX4_entryShift) := goodIn_app (goodIn_of _ (by decide +kernel)) ggX4_entryOf_X4_entryShift
theorem dX4_entryOf_0 : decode cX4_entryOf 0 = .ok (.iload_n 1, 1) := by decide +kernel
theorem dX4_entryOf_1 : decode cX4_entryOf 1 = .ok (.bipush 8, 2) := by decide +kernel
theorem dX4_entryOf_3 : decode cX4_entryOf 3 = .ok (.irem, 1) := by decide +kernel
theorem dX4_entryOf_4 : decode cX4_entryOf 4 = .ok (.istore_n 2, 1) := by decide +kernel
theorem dX4_entryOf_5 : decode cX4_entryOf 5 = .ok (.aload_n 0, 1) := by decide +kernel
theorem dX4_entryOf_6 : decode cX4_entryOf 6 = .ok (.getfield 21, 3) := by decide +kernel
theorem dX4_entryOf_9 : decode cX4_entryOf 9 = .ok (.iload_n 1, 1) := by decide +kernel
theorem dX4_entryOf_10 : decode cX4_entryOf 10 = .ok (.bipush 8, 2) := by decide +kernel
theorem dX4_entryOf_12 : decode cX4_entryOf 12 = .ok (.idiv, 1) := by decide +kernel
theorem dX4_entryOf_13 : decode cX4_entryOf 13 = .ok (.iload_n 2, 1) := by decide +kernel
theorem dX4_entryOf_14 : decode cX4_entryOf 14 = .ok (.iconst 2, 1) := by decide +kernel
theorem dX4_entryOf_15 : decode cX4_entryOf 15 = .ok (.idiv, 1) := by decide +kernel
theorem dX4_entryOf_16 : decode cX4_entryOf 16 = .ok (.invokevirtual 98, 3) := by decide +kernel
theorem dX4_entryOf_19 : decode cX4_entryOf 19 = .ok (.istore_n 3, 1) := by decide +kernel
theorem dX4_entryOf_20 : decode cX4_entryOf 20 = .ok (.iload_n 3, 1) := by decide +kernel
theorem dX4_entryOf_21 : decode cX4_entryOf 21 = .ok (.iload_n 2, 1) := by decide +kernel
theorem dX4_entryOf_22 : decode cX4_entryOf 22 = .ok (.invokestatic 176, 3) := by decide +kernel
theorem dX4_entryOf_25 : decode cX4_entryOf 25 = .ok (.iushr, 1) := by decide +kernel
theorem dX4_entryOf_26 : decode cX4_entryOf 26 = .ok (.bipush 31, 2) := by decide +kernel
theorem dX4_entryOf_28 : decode cX4_entryOf 28 = .ok (.iand, 1) := by decide +kernel
theorem dX4_entryOf_29 : decode cX4_entryOf 29 = .ok (.ireturn, 1) := by decide +kernel
set_option maxRecDepth 20000 in
theorem ggX4_setEntry_X4_entryShift : GoodIn wsX4_setEntry wsX4_entryShift := goodIn_r _ [5] (by decide +kernel) (by decide +kernel)
set_option maxRecDepth 20000 in
theorem gX4_setEntry_X4_entryShift : GoodIn wsX4_setEntry (va_wsS RX4 176 yX4_entryShift wsX4_entryShift) := goodIn_app (goodIn_of _ (by decide +kernel)) ggX4_setEntry_X4_entryShift
set_option maxRecDepth 20000 in
theorem ggX4_setEntry_X3_wordOf : GoodIn wsX4_setEntry wsX3_wordOf := goodIn_r _ [10, 11, 23, 24, 25, 26, 27, 28, 29, 30, 31, 32, 33] (by decide +kernel) (by decide +kernel)
set_option maxRecDepth 20000 in
theorem gX4_setEntry_X3_wordOf : GoodIn wsX4_setEntry (wsV RX4 98 RX3 yX3_wordOf wsX3_wordOf) := goodIn_app (goodIn_of _ (by decide +kernel)) ggX4_setEntry_X3_wordOf
set_option maxRecDepth 20000 in
theorem ggX4_setEntry_X3_setWord : GoodIn wsX4_setEntry wsX3_setWord := goodIn_r _ [15, 11, 23, 24, 25, 26, 27, 28, 29, 30, 31, 32, 33] (by decide +kernel) (by decide +kernel)
set_option maxRecDepth 20000 in
theorem gX4_setEntry_X3_setWord : GoodIn wsX4_setEntry (wsV RX4 86 RX3 yX3_setWord wsX3_setWord) := goodIn_app (goodIn_of _ (by decide +kernel)) ggX4_setEntry_X3_setWord
theorem dX4_setEntry_0 : decode cX4_setEntry 0 = .ok (.iload_n 1, 1) := by decide +kernel
theorem dX4_setEntry_1 : decode cX4_setEntry 1 = .ok (.bipush 8, 2) := by decide +kernel
theorem dX4_setEntry_3 : decode cX4_setEntry 3 = .ok (.irem, 1) := by decide +kernel
theorem dX4_setEntry_4 : decode cX4_setEntry 4 = .ok (.istore_n 3, 1) := by decide +kernel
theorem dX4_setEntry_5 : decode cX4_setEntry 5 = .ok (.iload_n 3, 1) := by decide +kernel
theorem dX4_setEntry_6 : decode cX4_setEntry 6 = .ok (.invokestatic 176, 3) := by decide +kernel
theorem dX4_setEntry_9 : decode cX4_setEntry 9 = .ok (.istore 4, 2) := by decide +kernel
theorem dX4_setEntry_11 : decode cX4_setEntry 11 = .ok (.aload_n 0, 1) := by decide +kernel
theorem dX4_setEntry_12 : decode cX4_setEntry 12 = .ok (.getfield 21, 3) := by decide +kernel
theorem dX4_setEntry_15 : decode cX4_setEntry 15 = .ok (.iload_n 1, 1) := by decide +kernel
theorem dX4_setEntry_16 : decode cX4_setEntry 16 = .ok (.bipush 8, 2) := by decide +kernel
theorem dX4_setEntry_18 : decode cX4_setEntry 18 = .ok (.idiv, 1) := by decide +kernel
theorem dX4_setEntry_19 : decode cX4_setEntry 19 = .ok (.iload_n 3, 1) := by decide +kernel
theorem dX4_setEntry_20 : decode cX4_setEntry 20 = .ok (.iconst 2, 1) := by decide +kernel
theorem dX4_setEntry_21 : decode cX4_setEntry 21 = .ok (.idiv, 1) := by decide +kernel
theorem dX4_setEntry_22 : decode cX4_setEntry 22 = .ok (.invokevirtual 98, 3) := by decide +kernel
theorem dX4_setEntry_25 : decode cX4_setEntry 25 = .ok (.bipush 31, 2) := by decide +kernel
theorem dX4_setEntry_27 : decode cX4_setEntry 27 = .ok (.iload 4, 2) := by decide +kernel
theorem dX4_setEntry_29 : decode cX4_setEntry 29 = .ok (.ishl, 1) := by decide +kernel
theorem dX4_setEntry_30 : decode cX4_setEntry 30 = .ok (.iconst (-1), 1) := by decide +kernel
theorem dX4_setEntry_31 : decode cX4_setEntry 31 = .ok (.ixor, 1) := by decide +kernel
theorem dX4_setEntry_32 : decode cX4_setEntry 32 = .ok (.iand, 1) := by decide +kernel
theorem dX4_setEntry_33 : decode cX4_setEntry 33 = .ok (.istore 5, 2) := by decide +kernel
theorem dX4_setEntry_35 : decode cX4_setEntry 35 = .ok (.aload_n 0, 1) := by decide +kernel
theorem dX4_setEntry_36 : decode cX4_setEntry 36 = .ok (.getfield 21, 3) := by decide +kernel
theorem dX4_setEntry_39 : decode cX4_setEntry 39 = .ok (.iload_n 1, 1) := by decide +kernel
theorem dX4_setEntry_40 : decode cX4_setEntry 40 = .ok (.bipush 8, 2) := by decide +kernel
theorem dX4_setEntry_42 : decode cX4_setEntry 42 = .ok (.idiv, 1) := by decide +kernel
theorem dX4_setEntry_43 : decode cX4_setEntry 43 = .ok (.iload_n 3, 1) := by decide +kernel
theorem dX4_setEntry_44 : decode cX4_setEntry 44 = .ok (.iconst 2, 1) := by decide +kernel
theorem dX4_setEntry_45 : decode cX4_setEntry 45 = .ok (.idiv, 1) := by decide +kernel
theorem dX4_setEntry_46 : decode cX4_setEntry 46 = .ok (.iload 5, 2) := by decide +kernel
theorem dX4_setEntry_48 : decode cX4_setEntry 48 = .ok (.iload_n 2, 1) := by decide +kernel
theorem dX4_setEntry_49 : decode cX4_setEntry 49 = .ok (.iload 4, 2) := by decide +kernel
theorem dX4_setEntry_51 : decode cX4_setEntry 51 = .ok (.ishl, 1) := by decide +kernel
theorem dX4_setEntry_52 : decode cX4_setEntry 52 = .ok (.ior, 1) := by decide +kernel
theorem dX4_setEntry_53 : decode cX4_setEntry 53 = .ok (.invokevirtual 86, 3) := by decide +kernel
theorem dX4_setEntry_56 : decode cX4_setEntry 56 = .ok (.return_, 1) := by decide +kernel
theorem dX4_entryShift_0 : decode cX4_entryShift 0 = .ok (.bipush 16, 2) := by decide +kernel
theorem dX4_entryShift_2 : decode cX4_entryShift 2 = .ok (.iload_n 0, 1) := by decide +kernel
theorem dX4_entryShift_3 : decode cX4_entryShift 3 = .ok (.iconst 2, 1) := by decide +kernel
theorem dX4_entryShift_4 : decode cX4_entryShift 4 = .ok (.irem, 1) := by decide +kernel
theorem dX4_entryShift_5 : decode cX4_entryShift 5 = .ok (.imul, 1) := by decide +kernel
theorem dX4_entryShift_6 : decode cX4_entryShift 6 = .ok (.ireturn, 1) := by decide +kernel
set_option maxRecDepth 20000 in
theorem ggX5_init_X5_begin : GoodIn wsX5_init wsX5_begin := goodIn_r _ [25, 26, 27, 28, 29, 15, 20, 6, 10, 9, 11, 8, 5, 12, 30, 31, 32, 24, 33, 34, 35, 36, 37, 38, 39, 40, 41, 42, 43, 44, 45, 46, 47, 48, 49, 50, 51, 52, 53, 54, 55, 56, 57, 58, 59, 60, 61, 62, 63, 64, 65, 66, 67, 68, 69, 70, 71, 72, 73, 74, 75, 76, 77, 78, 79, 80, 81, 82, 83, 84, 85, 86, 87, 88, 89, 90, 91, 92, 93] (by decide +kernel) (by decide +kernel)
set_option maxRecDepth 20000 in
theorem gX5_init_X5_begin : GoodIn wsX5_init (wsV RX5 54 RX5 yX5_begin wsX5_begin) := goodIn_app (goodIn_of _ (by decide +kernel)) ggX5_init_X5_begin
theorem dX5_init_0 : decode cX5_init 0 = .ok (.aload_n 0, 1) := by decide +kernel
theorem dX5_init_1 : decode cX5_init 1 = .ok (.invokespecial 1, 3) := by decide +kernel
theorem dX5_init_4 : decode cX5_init 4 = .ok (.aload_n 0, 1) := by decide +kernel
theorem dX5_init_5 : decode cX5_init 5 = .ok (.sipush 1750, 3) := by decide +kernel
theorem dX5_init_8 : decode cX5_init 8 = .ok (.newarray .int, 2) := by decide +kernel
theorem dX5_init_10 : decode cX5_init 10 = .ok (.putfield 7, 3) := by decide +kernel
theorem dX5_init_13 : decode cX5_init 13 = .ok (.aload_n 0, 1) := by decide +kernel
theorem dX5_init_14 : decode cX5_init 14 = .ok (.bipush 70, 2) := by decide +kernel
theorem dX5_init_16 : decode cX5_init 16 = .ok (.newarray .int, 2) := by decide +kernel
theorem dX5_init_18 : decode cX5_init 18 = .ok (.putfield 13, 3) := by decide +kernel
theorem dX5_init_21 : decode cX5_init 21 = .ok (.aload_n 0, 1) := by decide +kernel
theorem dX5_init_22 : decode cX5_init 22 = .ok (.bipush 72, 2) := by decide +kernel
theorem dX5_init_24 : decode cX5_init 24 = .ok (.newarray .boolean, 2) := by decide +kernel
theorem dX5_init_26 : decode cX5_init 26 = .ok (.putfield 16, 3) := by decide +kernel
theorem dX5_init_29 : decode cX5_init 29 = .ok (.aload_n 0, 1) := by decide +kernel
theorem dX5_init_30 : decode cX5_init 30 = .ok (.bipush 72, 2) := by decide +kernel
theorem dX5_init_32 : decode cX5_init 32 = .ok (.newarray .int, 2) := by decide +kernel
theorem dX5_init_34 : decode cX5_init 34 = .ok (.putfield 20, 3) := by decide +kernel
theorem dX5_init_37 : decode cX5_init 37 = .ok (.aload_n 0, 1) := by decide +kernel
theorem dX5_init_38 : decode cX5_init 38 = .ok (.sipush 288, 3) := by decide +kernel
theorem dX5_init_41 : decode cX5_init 41 = .ok (.newarray .int, 2) := by decide +kernel
theorem dX5_init_43 : decode cX5_init 43 = .ok (.putfield 23, 3) := by decide +kernel
theorem dX5_init_46 : decode cX5_init 46 = .ok (.aload_n 0, 1) := by decide +kernel
theorem dX5_init_47 : decode cX5_init 47 = .ok (.bipush 8, 2) := by decide +kernel
theorem dX5_init_49 : decode cX5_init 49 = .ok (.newarray .int, 2) := by decide +kernel
theorem dX5_init_51 : decode cX5_init 51 = .ok (.putfield 26, 3) := by decide +kernel
theorem dX5_init_54 : decode cX5_init 54 = .ok (.aload_n 0, 1) := by decide +kernel
theorem dX5_init_55 : decode cX5_init 55 = .ok (.bipush 24, 2) := by decide +kernel
theorem dX5_init_57 : decode cX5_init 57 = .ok (.newarray .int, 2) := by decide +kernel
theorem dX5_init_59 : decode cX5_init 59 = .ok (.putfield 29, 3) := by decide +kernel
theorem dX5_init_62 : decode cX5_init 62 = .ok (.aload_n 0, 1) := by decide +kernel
theorem dX5_init_63 : decode cX5_init 63 = .ok (.bipush 64, 2) := by decide +kernel
theorem dX5_init_65 : decode cX5_init 65 = .ok (.newarray .int, 2) := by decide +kernel
theorem dX5_init_67 : decode cX5_init 67 = .ok (.putfield 32, 3) := by decide +kernel
theorem dX5_init_70 : decode cX5_init 70 = .ok (.aload_n 0, 1) := by decide +kernel
theorem dX5_init_71 : decode cX5_init 71 = .ok (.bipush 64, 2) := by decide +kernel
theorem dX5_init_73 : decode cX5_init 73 = .ok (.newarray .int, 2) := by decide +kernel
theorem dX5_init_75 : decode cX5_init 75 = .ok (.putfield 35, 3) := by decide +kernel
theorem dX5_init_78 : decode cX5_init 78 = .ok (.aload_n 0, 1) := by decide +kernel
theorem dX5_init_79 : decode cX5_init 79 = .ok (.bipush 8, 2) := by decide +kernel
theorem dX5_init_81 : decode cX5_init 81 = .ok (.newarray .boolean, 2) := by decide +kernel
theorem dX5_init_83 : decode cX5_init 83 = .ok (.putfield 38, 3) := by decide +kernel
theorem dX5_init_86 : decode cX5_init 86 = .ok (.aload_n 0, 1) := by decide +kernel
theorem dX5_init_87 : decode cX5_init 87 = .ok (.bipush 8, 2) := by decide +kernel
theorem dX5_init_89 : decode cX5_init 89 = .ok (.newarray .long, 2) := by decide +kernel
theorem dX5_init_91 : decode cX5_init 91 = .ok (.putfield 41, 3) := by decide +kernel
theorem dX5_init_94 : decode cX5_init 94 = .ok (.aload_n 0, 1) := by decide +kernel
theorem dX5_init_95 : decode cX5_init 95 = .ok (.bipush 8, 2) := by decide +kernel
theorem dX5_init_97 : decode cX5_init 97 = .ok (.newarray .int, 2) := by decide +kernel
theorem dX5_init_99 : decode cX5_init 99 = .ok (.putfield 45, 3) := by decide +kernel
theorem dX5_init_102 : decode cX5_init 102 = .ok (.aload_n 0, 1) := by decide +kernel
theorem dX5_init_103 : decode cX5_init 103 = .ok (.bipush 48, 2) := by decide +kernel
theorem dX5_init_105 : decode cX5_init 105 = .ok (.newarray .int, 2) := by decide +kernel
theorem dX5_init_107 : decode cX5_init 107 = .ok (.putfield 48, 3) := by decide +kernel
theorem dX5_init_110 : decode cX5_init 110 = .ok (.aload_n 0, 1) := by decide +kernel
theorem dX5_init_111 : decode cX5_init 111 = .ok (.bipush 64, 2) := by decide +kernel
theorem dX5_init_113 : decode cX5_init 113 = .ok (.newarray .boolean, 2) := by decide +kernel
theorem dX5_init_115 : decode cX5_init 115 = .ok (.putfield 51, 3) := by decide +kernel
theorem dX5_init_118 : decode cX5_init 118 = .ok (.aload_n 0, 1) := by decide +kernel
theorem dX5_init_119 : decode cX5_init 119 = .ok (.iconst 1, 1) := by decide +kernel
theorem dX5_init_120 : decode cX5_init 120 = .ok (.iconst 0, 1) := by decide +kernel
theorem dX5_init_121 : decode cX5_init 121 = .ok (.invokevirtual 54, 3) := by decide +kernel
theorem dX5_init_124 : decode cX5_init 124 = .ok (.return_, 1) := by decide +kernel
theorem dX5_thrown_0 : decode cX5_thrown 0 = .ok (.aload_n 0, 1) := by decide +kernel
theorem dX5_thrown_1 : decode cX5_thrown 1 = .ok (.getfield 58, 3) := by decide +kernel
theorem dX5_thrown_4 : decode cX5_thrown 4 = .ok (.ireturn, 1) := by decide +kernel
theorem dX5_raise_0 : decode cX5_raise 0 = .ok (.aload_n 0, 1) := by decide +kernel
theorem dX5_raise_1 : decode cX5_raise 1 = .ok (.iload_n 1, 1) := by decide +kernel
theorem dX5_raise_2 : decode cX5_raise 2 = .ok (.putfield 58, 3) := by decide +kernel
theorem dX5_raise_5 : decode cX5_raise 5 = .ok (.iconst 0, 1) := by decide +kernel
theorem dX5_raise_6 : decode cX5_raise 6 = .ok (.ireturn, 1) := by decide +kernel
theorem dX5_draw_0 : decode cX5_draw 0 = .ok (.aload_n 0, 1) := by decide +kernel
theorem dX5_draw_1 : decode cX5_draw 1 = .ok (.dup, 1) := by decide +kernel
theorem dX5_draw_2 : decode cX5_draw 2 = .ok (.getfield 62, 3) := by decide +kernel
theorem dX5_draw_5 : decode cX5_draw 5 = .ok (.aload_n 0, 1) := by decide +kernel
theorem dX5_draw_6 : decode cX5_draw 6 = .ok (.getfield 62, 3) := by decide +kernel
theorem dX5_draw_9 : decode cX5_draw 9 = .ok (.bipush 13, 2) := by decide +kernel
theorem dX5_draw_11 : decode cX5_draw 11 = .ok (.ishl, 1) := by decide +kernel
theorem dX5_draw_12 : decode cX5_draw 12 = .ok (.ixor, 1) := by decide +kernel
theorem dX5_draw_13 : decode cX5_draw 13 = .ok (.putfield 62, 3) := by decide +kernel
theorem dX5_draw_16 : decode cX5_draw 16 = .ok (.aload_n 0, 1) := by decide +kernel
theorem dX5_draw_17 : decode cX5_draw 17 = .ok (.dup, 1) := by decide +kernel
theorem dX5_draw_18 : decode cX5_draw 18 = .ok (.getfield 62, 3) := by decide +kernel
theorem dX5_draw_21 : decode cX5_draw 21 = .ok (.aload_n 0, 1) := by decide +kernel
theorem dX5_draw_22 : decode cX5_draw 22 = .ok (.getfield 62, 3) := by decide +kernel
theorem dX5_draw_25 : decode cX5_draw 25 = .ok (.bipush 17, 2) := by decide +kernel
theorem dX5_draw_27 : decode cX5_draw 27 = .ok (.iushr, 1) := by decide +kernel
theorem dX5_draw_28 : decode cX5_draw 28 = .ok (.ixor, 1) := by decide +kernel
theorem dX5_draw_29 : decode cX5_draw 29 = .ok (.putfield 62, 3) := by decide +kernel
theorem dX5_draw_32 : decode cX5_draw 32 = .ok (.aload_n 0, 1) := by decide +kernel
theorem dX5_draw_33 : decode cX5_draw 33 = .ok (.dup, 1) := by decide +kernel
theorem dX5_draw_34 : decode cX5_draw 34 = .ok (.getfield 62, 3) := by decide +kernel
theorem dX5_draw_37 : decode cX5_draw 37 = .ok (.aload_n 0, 1) := by decide +kernel
theorem dX5_draw_38 : decode cX5_draw 38 = .ok (.getfield 62, 3) := by decide +kernel
theorem dX5_draw_41 : decode cX5_draw 41 = .ok (.iconst 5, 1) := by decide +kernel
theorem dX5_draw_42 : decode cX5_draw 42 = .ok (.ishl, 1) := by decide +kernel
theorem dX5_draw_43 : decode cX5_draw 43 = .ok (.ixor, 1) := by decide +kernel
theorem dX5_draw_44 : decode cX5_draw 44 = .ok (.putfield 62, 3) := by decide +kernel
theorem dX5_draw_47 : decode cX5_draw 47 = .ok (.aload_n 0, 1) := by decide +kernel
theorem dX5_draw_48 : decode cX5_draw 48 = .ok (.getfield 62, 3) := by decide +kernel
theorem dX5_draw_51 : decode cX5_draw 51 = .ok (.bipush 32, 2) := by decide +kernel
theorem dX5_draw_53 : decode cX5_draw 53 = .ok (.iload_n 1, 1) := by decide +kernel
theorem dX5_draw_54 : decode cX5_draw 54 = .ok (.isub, 1) := by decide +kernel
theorem dX5_draw_55 : decode cX5_draw 55 = .ok (.iushr, 1) := by decide +kernel
theorem dX5_draw_56 : decode cX5_draw 56 = .ok (.ireturn, 1) := by decide +kernel
theorem dX5_buckets_0 : decode cX5_buckets 0 = .ok (.iload_n 0, 1) := by decide +kernel
theorem dX5_buckets_1 : decode cX5_buckets 1 = .ok (.ifCond .ne 8, 3) := by decide +kernel
theorem dX5_buckets_4 : decode cX5_buckets 4 = .ok (.bipush 7, 2) := by decide +kernel
theorem dX5_buckets_6 : decode cX5_buckets 6 = .ok (.goto 5, 3) := by decide +kernel
theorem dX5_buckets_9 : decode cX5_buckets 9 = .ok (.bipush 63, 2) := by decide +kernel
theorem dX5_buckets_11 : decode cX5_buckets 11 = .ok (.ireturn, 1) := by decide +kernel
theorem dX5_levels_0 : decode cX5_levels 0 = .ok (.iload_n 0, 1) := by decide +kernel
theorem dX5_levels_1 : decode cX5_levels 1 = .ok (.ifCond .ne 7, 3) := by decide +kernel
theorem dX5_levels_4 : decode cX5_levels 4 = .ok (.iconst 3, 1) := by decide +kernel
theorem dX5_levels_5 : decode cX5_levels 5 = .ok (.goto 5, 3) := by decide +kernel
theorem dX5_levels_8 : decode cX5_levels 8 = .ok (.bipush 6, 2) := by decide +kernel
theorem dX5_levels_10 : decode cX5_levels 10 = .ok (.ireturn, 1) := by decide +kernel
theorem dX5_place_0 : decode cX5_place 0 = .ok (.iload_n 0, 1) := by decide +kernel
theorem dX5_place_1 : decode cX5_place 1 = .ok (.ifCond .ne 7, 3) := by decide +kernel
theorem dX5_place_4 : decode cX5_place 4 = .ok (.iload_n 1, 1) := by decide +kernel
theorem dX5_place_5 : decode cX5_place 5 = .ok (.goto 7, 3) := by decide +kernel
theorem dX5_place_8 : decode cX5_place 8 = .ok (.bipush 7, 2) := by decide +kernel
theorem dX5_place_10 : decode cX5_place 10 = .ok (.iload_n 1, 1) := by decide +kernel
theorem dX5_place_11 : decode cX5_place 11 = .ok (.iadd, 1) := by decide +kernel
theorem dX5_place_12 : decode cX5_place 12 = .ok (.ireturn, 1) := by decide +kernel
theorem dX5_first_0 : decode cX5_first 0 = .ok (.iload_n 0, 1) := by decide +kernel
theorem dX5_first_1 : decode cX5_first 1 = .ok (.ifCond .ne 7, 3) := by decide +kernel
theorem dX5_first_4 : decode cX5_first 4 = .ok (.iconst 0, 1) := by decide +kernel
theorem dX5_first_5 : decode cX5_first 5 = .ok (.goto 5, 3) := by decide +kernel
theorem dX5_first_8 : decode cX5_first 8 = .ok (.bipush 8, 2) := by decide +kernel
theorem dX5_first_10 : decode cX5_first 10 = .ok (.ireturn, 1) := by decide +kernel
theorem dX5_blocks_0 : decode cX5_blocks 0 = .ok (.iload_n 0, 1) := by decide +kernel
theorem dX5_blocks_1 : decode cX5_blocks 1 = .ok (.ifCond .ne 8, 3) := by decide +kernel
theorem dX5_blocks_4 : decode cX5_blocks 4 = .ok (.bipush 8, 2) := by decide +kernel
theorem dX5_blocks_6 : decode cX5_blocks 6 = .ok (.goto 5, 3) := by decide +kernel
theorem dX5_blocks_9 : decode cX5_blocks 9 = .ok (.bipush 64, 2) := by decide +kernel
theorem dX5_blocks_11 : decode cX5_blocks 11 = .ok (.ireturn, 1) := by decide +kernel
set_option maxRecDepth 20000 in
theorem ggX5_onPath_X5_buckets : GoodIn wsX5_onPath wsX5_buckets := goodIn_r _ [4] (by decide +kernel) (by decide +kernel)
set_option maxRecDepth 20000 in
theorem gX5_onPath_X5_buckets : GoodIn wsX5_onPath (va_wsS RX5 65 yX5_buckets wsX5_buckets) := goodIn_app (goodIn_of _ (by decide +kernel)) ggX5_onPath_X5_buckets
theorem dX5_onPath_0 : decode cX5_onPath 0 = .ok (.iload_n 0, 1) := by decide +kernel
theorem dX5_onPath_1 : decode cX5_onPath 1 = .ok (.invokestatic 65, 3) := by decide +kernel
theorem dX5_onPath_4 : decode cX5_onPath 4 = .ok (.iconst 2, 1) := by decide +kernel
theorem dX5_onPath_5 : decode cX5_onPath 5 = .ok (.idiv, 1) := by decide +kernel
theorem dX5_onPath_6 : decode cX5_onPath 6 = .ok (.iload_n 1, 1) := by decide +kernel
theorem dX5_onPath_7 : decode cX5_onPath 7 = .ok (.iadd, 1) := by decide +kernel
theorem dX5_onPath_8 : decode cX5_onPath 8 = .ok (.istore_n 3, 1) := by decide +kernel
theorem dX5_onPath_9 : decode cX5_onPath 9 = .ok (.iconst 0, 1) := by decide +kernel
theorem dX5_onPath_10 : decode cX5_onPath 10 = .ok (.istore 4, 2) := by decide +kernel
theorem dX5_onPath_12 : decode cX5_onPath 12 = .ok (.iload 4, 2) := by decide +kernel
theorem dX5_onPath_14 : decode cX5_onPath 14 = .ok (.iload_n 2, 1) := by decide +kernel
theorem dX5_onPath_15 : decode cX5_onPath 15 = .ok (.if_icmp .ge 15, 3) := by decide +kernel
theorem dX5_onPath_18 : decode cX5_onPath 18 = .ok (.iload_n 3, 1) := by decide +kernel
theorem dX5_onPath_19 : decode cX5_onPath 19 = .ok (.iconst 1, 1) := by decide +kernel
theorem dX5_onPath_20 : decode cX5_onPath 20 = .ok (.isub, 1) := by decide +kernel
theorem dX5_onPath_21 : decode cX5_onPath 21 = .ok (.iconst 2, 1) := by decide +kernel
theorem dX5_onPath_22 : decode cX5_onPath 22 = .ok (.idiv, 1) := by decide +kernel
theorem dX5_onPath_23 : decode cX5_onPath 23 = .ok (.istore_n 3, 1) := by decide +kernel
theorem dX5_onPath_24 : decode cX5_onPath 24 = .ok (.iinc 4 1, 3) := by decide +kernel
theorem dX5_onPath_27 : decode cX5_onPath 27 = .ok (.goto (-15), 3) := by decide +kernel
theorem dX5_onPath_30 : decode cX5_onPath 30 = .ok (.iload_n 3, 1) := by decide +kernel
theorem dX5_onPath_31 : decode cX5_onPath 31 = .ok (.ireturn, 1) := by decide +kernel
set_option maxRecDepth 20000 in
theorem ggX5_passes_X5_levels : GoodIn wsX5_passes wsX5_levels := goodIn_r _ [4] (by decide +kernel) (by decide +kernel)
set_option maxRecDepth 20000 in
theorem gX5_passes_X5_levels : GoodIn wsX5_passes (va_wsS RX5 69 yX5_levels wsX5_levels) := goodIn_app (goodIn_of _ (by decide +kernel)) ggX5_passes_X5_levels
set_option maxRecDepth 20000 in
theorem ggX5_passes_X5_onPath : GoodIn wsX5_passes wsX5_onPath := goodIn_r _ [7, 8, 9, 3, 10] (by decide +kernel) (by decide +kernel)
set_option maxRecDepth 20000 in
theorem gX5_passes_X5_onPath : GoodIn wsX5_passes (va_wsS RX5 72 yX5_onPath wsX5_onPath) := goodIn_app (goodIn_of _ (by decide +kernel)) ggX5_passes_X5_onPath
theorem dX5_passes_0 : decode cX5_passes 0 = .ok (.iconst 0, 1) := by decide +kernel
theorem dX5_passes_1 : decode cX5_passes 1 = .ok (.istore_n 3, 1) := by decide +kernel
theorem dX5_passes_2 : decode cX5_passes 2 = .ok (.iload_n 3, 1) := by decide +kernel
theorem dX5_passes_3 : decode cX5_passes 3 = .ok (.iload_n 0, 1) := by decide +kernel
theorem dX5_passes_4 : decode cX5_passes 4 = .ok (.invokestatic 69, 3) := by decide +kernel
theorem dX5_passes_7 : decode cX5_passes 7 = .ok (.if_icmp .ge 21, 3) := by decide +kernel
theorem dX5_passes_10 : decode cX5_passes 10 = .ok (.iload_n 0, 1) := by decide +kernel
theorem dX5_passes_11 : decode cX5_passes 11 = .ok (.iload_n 1, 1) := by decide +kernel
theorem dX5_passes_12 : decode cX5_passes 12 = .ok (.iload_n 3, 1) := by decide +kernel
theorem dX5_passes_13 : decode cX5_passes 13 = .ok (.invokestatic 72, 3) := by decide +kernel
theorem dX5_passes_16 : decode cX5_passes 16 = .ok (.iload_n 2, 1) := by decide +kernel
theorem dX5_passes_17 : decode cX5_passes 17 = .ok (.if_icmp .ne 5, 3) := by decide +kernel
theorem dX5_passes_20 : decode cX5_passes 20 = .ok (.iconst 1, 1) := by decide +kernel
theorem dX5_passes_21 : decode cX5_passes 21 = .ok (.ireturn, 1) := by decide +kernel
theorem dX5_passes_22 : decode cX5_passes 22 = .ok (.iinc 3 1, 3) := by decide +kernel
theorem dX5_passes_25 : decode cX5_passes 25 = .ok (.goto (-23), 3) := by decide +kernel
theorem dX5_passes_28 : decode cX5_passes 28 = .ok (.iconst 0, 1) := by decide +kernel
theorem dX5_passes_29 : decode cX5_passes 29 = .ok (.ireturn, 1) := by decide +kernel
set_option maxRecDepth 20000 in
theorem ggX5_pad_X5_place : GoodIn wsX5_pad wsX5_place := goodIn_r _ [11] (by decide +kernel) (by decide +kernel)
set_option maxRecDepth 20000 in
theorem gX5_pad_X5_place : GoodIn wsX5_pad (va_wsS RX5 80 yX5_place wsX5_place) := goodIn_app (goodIn_of _ (by decide +kernel)) ggX5_pad_X5_place
theorem dX5_pad_0 : decode cX5_pad 0 = .ok (.aload_n 0, 1) := by decide +kernel
theorem dX5_pad_1 : decode cX5_pad 1 = .ok (.getfield 76, 3) := by decide +kernel
theorem dX5_pad_4 : decode cX5_pad 4 = .ok (.bipush 64, 2) := by decide +kernel
theorem dX5_pad_6 : decode cX5_pad 6 = .ok (.iload_n 1, 1) := by decide +kernel
