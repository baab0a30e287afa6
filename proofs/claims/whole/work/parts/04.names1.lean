theorem dX0_init_0 : decode cX0_init 0 = .ok (.aload_n 0, 1) := by decide +kernel
theorem dX0_init_1 : decode cX0_init 1 = .ok (.invokespecial 5, 3) := by decide +kernel
theorem dX0_init_4 : decode cX0_init 4 = .ok (.aload_n 0, 1) := by decide +kernel
theorem dX0_init_5 : decode cX0_init 5 = .ok (.bipush 8, 2) := by decide +kernel
theorem dX0_init_7 : decode cX0_init 7 = .ok (.newarray .long, 2) := by decide +kernel
theorem dX0_init_9 : decode cX0_init 9 = .ok (.putfield 11, 3) := by decide +kernel
theorem dX0_init_12 : decode cX0_init 12 = .ok (.aload_n 0, 1) := by decide +kernel
theorem dX0_init_13 : decode cX0_init 13 = .ok (.bipush 8, 2) := by decide +kernel
theorem dX0_init_15 : decode cX0_init 15 = .ok (.newarray .int, 2) := by decide +kernel
theorem dX0_init_17 : decode cX0_init 17 = .ok (.putfield 15, 3) := by decide +kernel
theorem dX0_init_20 : decode cX0_init 20 = .ok (.aload_n 0, 1) := by decide +kernel
theorem dX0_init_21 : decode cX0_init 21 = .ok (.bipush 48, 2) := by decide +kernel
theorem dX0_init_23 : decode cX0_init 23 = .ok (.newarray .int, 2) := by decide +kernel
theorem dX0_init_25 : decode cX0_init 25 = .ok (.putfield 19, 3) := by decide +kernel
theorem dX0_init_28 : decode cX0_init 28 = .ok (.aload_n 0, 1) := by decide +kernel
theorem dX0_init_29 : decode cX0_init 29 = .ok (.bipush 64, 2) := by decide +kernel
theorem dX0_init_31 : decode cX0_init 31 = .ok (.newarray .boolean, 2) := by decide +kernel
theorem dX0_init_33 : decode cX0_init 33 = .ok (.putfield 22, 3) := by decide +kernel
theorem dX0_init_36 : decode cX0_init 36 = .ok (.return_, 1) := by decide +kernel
set_option maxRecDepth 20000 in
theorem ggX0_empty_J7_fill_53178 : GoodIn wsX0_empty wsJ7_fill_53178 := goodIn_r _ [6] (by decide +kernel) (by decide +kernel)
set_option maxRecDepth 20000 in
theorem gX0_empty_J7_fill_53178 : GoodIn wsX0_empty (va_wsS RX0 26 yJ7_fill_53178 wsJ7_fill_53178) := goodIn_app (goodIn_of _ (by decide +kernel)) ggX0_empty_J7_fill_53178
theorem dX0_empty_0 : decode cX0_empty 0 = .ok (.aload_n 0, 1) := by decide +kernel
theorem dX0_empty_1 : decode cX0_empty 1 = .ok (.getfield 15, 3) := by decide +kernel
theorem dX0_empty_4 : decode cX0_empty 4 = .ok (.iconst (-1), 1) := by decide +kernel
theorem dX0_empty_5 : decode cX0_empty 5 = .ok (.invokestatic 26, 3) := by decide +kernel
theorem dX0_empty_8 : decode cX0_empty 8 = .ok (.iconst 0, 1) := by decide +kernel
theorem dX0_empty_9 : decode cX0_empty 9 = .ok (.istore_n 1, 1) := by decide +kernel
theorem dX0_empty_10 : decode cX0_empty 10 = .ok (.iload_n 1, 1) := by decide +kernel
theorem dX0_empty_11 : decode cX0_empty 11 = .ok (.bipush 64, 2) := by decide +kernel
theorem dX0_empty_13 : decode cX0_empty 13 = .ok (.if_icmp .ge 16, 3) := by decide +kernel
theorem dX0_empty_16 : decode cX0_empty 16 = .ok (.aload_n 0, 1) := by decide +kernel
theorem dX0_empty_17 : decode cX0_empty 17 = .ok (.getfield 22, 3) := by decide +kernel
theorem dX0_empty_20 : decode cX0_empty 20 = .ok (.iload_n 1, 1) := by decide +kernel
theorem dX0_empty_21 : decode cX0_empty 21 = .ok (.iconst 0, 1) := by decide +kernel
theorem dX0_empty_22 : decode cX0_empty 22 = .ok (.bastore, 1) := by decide +kernel
theorem dX0_empty_23 : decode cX0_empty 23 = .ok (.iinc 1 1, 3) := by decide +kernel
theorem dX0_empty_26 : decode cX0_empty 26 = .ok (.goto (-16), 3) := by decide +kernel
theorem dX0_empty_29 : decode cX0_empty 29 = .ok (.return_, 1) := by decide +kernel
set_option maxRecDepth 20000 in
theorem ggX0_add_X0_leastFreeNumber : GoodIn wsX0_add wsX0_leastFreeNumber := goodIn_r _ [7, 2, 12, 13, 14, 15] (by decide +kernel) (by decide +kernel)
set_option maxRecDepth 20000 in
theorem gX0_add_X0_leastFreeNumber : GoodIn wsX0_add (wsV RX0 32 RX0 yX0_leastFreeNumber wsX0_leastFreeNumber) := goodIn_app (goodIn_of _ (by decide +kernel)) ggX0_add_X0_leastFreeNumber
set_option maxRecDepth 20000 in
theorem ggX0_add_X0_numberOf : GoodIn wsX0_add wsX0_numberOf := goodIn_r _ [11, 2, 1, 12, 13, 14, 15] (by decide +kernel) (by decide +kernel)
set_option maxRecDepth 20000 in
theorem gX0_add_X0_numberOf : GoodIn wsX0_add (wsV RX0 36 RX0 yX0_numberOf wsX0_numberOf) := goodIn_app (goodIn_of _ (by decide +kernel)) ggX0_add_X0_numberOf
theorem dX0_add_0 : decode cX0_add 0 = .ok (.aload_n 0, 1) := by decide +kernel
theorem dX0_add_1 : decode cX0_add 1 = .ok (.invokevirtual 32, 3) := by decide +kernel
theorem dX0_add_4 : decode cX0_add 4 = .ok (.istore_n 3, 1) := by decide +kernel
theorem dX0_add_5 : decode cX0_add 5 = .ok (.iload_n 3, 1) := by decide +kernel
theorem dX0_add_6 : decode cX0_add 6 = .ok (.iconst (-1), 1) := by decide +kernel
theorem dX0_add_7 : decode cX0_add 7 = .ok (.if_icmp .eq 12, 3) := by decide +kernel
theorem dX0_add_10 : decode cX0_add 10 = .ok (.aload_n 0, 1) := by decide +kernel
theorem dX0_add_11 : decode cX0_add 11 = .ok (.lload_n 1, 1) := by decide +kernel
theorem dX0_add_12 : decode cX0_add 12 = .ok (.invokevirtual 36, 3) := by decide +kernel
theorem dX0_add_15 : decode cX0_add 15 = .ok (.iconst (-1), 1) := by decide +kernel
theorem dX0_add_16 : decode cX0_add 16 = .ok (.if_icmp .eq 5, 3) := by decide +kernel
theorem dX0_add_19 : decode cX0_add 19 = .ok (.iconst (-1), 1) := by decide +kernel
theorem dX0_add_20 : decode cX0_add 20 = .ok (.ireturn, 1) := by decide +kernel
theorem dX0_add_21 : decode cX0_add 21 = .ok (.aload_n 0, 1) := by decide +kernel
theorem dX0_add_22 : decode cX0_add 22 = .ok (.getfield 11, 3) := by decide +kernel
theorem dX0_add_25 : decode cX0_add 25 = .ok (.iload_n 3, 1) := by decide +kernel
theorem dX0_add_26 : decode cX0_add 26 = .ok (.lload_n 1, 1) := by decide +kernel
theorem dX0_add_27 : decode cX0_add 27 = .ok (.lastore, 1) := by decide +kernel
theorem dX0_add_28 : decode cX0_add 28 = .ok (.aload_n 0, 1) := by decide +kernel
theorem dX0_add_29 : decode cX0_add 29 = .ok (.getfield 15, 3) := by decide +kernel
theorem dX0_add_32 : decode cX0_add 32 = .ok (.iload_n 3, 1) := by decide +kernel
theorem dX0_add_33 : decode cX0_add 33 = .ok (.iconst 0, 1) := by decide +kernel
theorem dX0_add_34 : decode cX0_add 34 = .ok (.iastore, 1) := by decide +kernel
theorem dX0_add_35 : decode cX0_add 35 = .ok (.iload_n 3, 1) := by decide +kernel
theorem dX0_add_36 : decode cX0_add 36 = .ok (.ireturn, 1) := by decide +kernel
theorem dX0_numberOf_0 : decode cX0_numberOf 0 = .ok (.iconst 0, 1) := by decide +kernel
theorem dX0_numberOf_1 : decode cX0_numberOf 1 = .ok (.istore_n 3, 1) := by decide +kernel
theorem dX0_numberOf_2 : decode cX0_numberOf 2 = .ok (.iload_n 3, 1) := by decide +kernel
theorem dX0_numberOf_3 : decode cX0_numberOf 3 = .ok (.bipush 8, 2) := by decide +kernel
theorem dX0_numberOf_5 : decode cX0_numberOf 5 = .ok (.if_icmp .ge 32, 3) := by decide +kernel
theorem dX0_numberOf_8 : decode cX0_numberOf 8 = .ok (.aload_n 0, 1) := by decide +kernel
theorem dX0_numberOf_9 : decode cX0_numberOf 9 = .ok (.getfield 15, 3) := by decide +kernel
theorem dX0_numberOf_12 : decode cX0_numberOf 12 = .ok (.iload_n 3, 1) := by decide +kernel
theorem dX0_numberOf_13 : decode cX0_numberOf 13 = .ok (.iaload, 1) := by decide +kernel
theorem dX0_numberOf_14 : decode cX0_numberOf 14 = .ok (.iconst (-1), 1) := by decide +kernel
theorem dX0_numberOf_15 : decode cX0_numberOf 15 = .ok (.if_icmp .eq 16, 3) := by decide +kernel
theorem dX0_numberOf_18 : decode cX0_numberOf 18 = .ok (.aload_n 0, 1) := by decide +kernel
theorem dX0_numberOf_19 : decode cX0_numberOf 19 = .ok (.getfield 11, 3) := by decide +kernel
theorem dX0_numberOf_22 : decode cX0_numberOf 22 = .ok (.iload_n 3, 1) := by decide +kernel
theorem dX0_numberOf_23 : decode cX0_numberOf 23 = .ok (.laload, 1) := by decide +kernel
theorem dX0_numberOf_24 : decode cX0_numberOf 24 = .ok (.lload_n 1, 1) := by decide +kernel
theorem dX0_numberOf_25 : decode cX0_numberOf 25 = .ok (.lcmp, 1) := by decide +kernel
theorem dX0_numberOf_26 : decode cX0_numberOf 26 = .ok (.ifCond .ne 5, 3) := by decide +kernel
theorem dX0_numberOf_29 : decode cX0_numberOf 29 = .ok (.iload_n 3, 1) := by decide +kernel
theorem dX0_numberOf_30 : decode cX0_numberOf 30 = .ok (.ireturn, 1) := by decide +kernel
theorem dX0_numberOf_31 : decode cX0_numberOf 31 = .ok (.iinc 3 1, 3) := by decide +kernel
theorem dX0_numberOf_34 : decode cX0_numberOf 34 = .ok (.goto (-32), 3) := by decide +kernel
theorem dX0_numberOf_37 : decode cX0_numberOf 37 = .ok (.iconst (-1), 1) := by decide +kernel
theorem dX0_numberOf_38 : decode cX0_numberOf 38 = .ok (.ireturn, 1) := by decide +kernel
set_option maxRecDepth 20000 in
theorem ggX0_drop_X0_lengthOf : GoodIn wsX0_drop wsX0_lengthOf := goodIn_r _ [8, 1, 12, 13, 14, 15] (by decide +kernel) (by decide +kernel)
set_option maxRecDepth 20000 in
theorem gX0_drop_X0_lengthOf : GoodIn wsX0_drop (wsV RX0 40 RX0 yX0_lengthOf wsX0_lengthOf) := goodIn_app (goodIn_of _ (by decide +kernel)) ggX0_drop_X0_lengthOf
set_option maxRecDepth 20000 in
theorem ggX0_drop_X0_partAt : GoodIn wsX0_drop wsX0_partAt := goodIn_r _ [11] (by decide +kernel) (by decide +kernel)
set_option maxRecDepth 20000 in
theorem gX0_drop_X0_partAt : GoodIn wsX0_drop (va_wsS RX0 44 yX0_partAt wsX0_partAt) := goodIn_app (goodIn_of _ (by decide +kernel)) ggX0_drop_X0_partAt
theorem dX0_drop_0 : decode cX0_drop 0 = .ok (.aload_n 0, 1) := by decide +kernel
theorem dX0_drop_1 : decode cX0_drop 1 = .ok (.iload_n 1, 1) := by decide +kernel
theorem dX0_drop_2 : decode cX0_drop 2 = .ok (.invokevirtual 40, 3) := by decide +kernel
theorem dX0_drop_5 : decode cX0_drop 5 = .ok (.iconst (-1), 1) := by decide +kernel
theorem dX0_drop_6 : decode cX0_drop 6 = .ok (.if_icmp .ne 5, 3) := by decide +kernel
theorem dX0_drop_9 : decode cX0_drop 9 = .ok (.iconst 0, 1) := by decide +kernel
theorem dX0_drop_10 : decode cX0_drop 10 = .ok (.ireturn, 1) := by decide +kernel
theorem dX0_drop_11 : decode cX0_drop 11 = .ok (.iconst 0, 1) := by decide +kernel
theorem dX0_drop_12 : decode cX0_drop 12 = .ok (.istore_n 2, 1) := by decide +kernel
theorem dX0_drop_13 : decode cX0_drop 13 = .ok (.iload_n 2, 1) := by decide +kernel
theorem dX0_drop_14 : decode cX0_drop 14 = .ok (.aload_n 0, 1) := by decide +kernel
theorem dX0_drop_15 : decode cX0_drop 15 = .ok (.getfield 15, 3) := by decide +kernel
theorem dX0_drop_18 : decode cX0_drop 18 = .ok (.iload_n 1, 1) := by decide +kernel
theorem dX0_drop_19 : decode cX0_drop 19 = .ok (.iaload, 1) := by decide +kernel
theorem dX0_drop_20 : decode cX0_drop 20 = .ok (.if_icmp .ge 25, 3) := by decide +kernel
theorem dX0_drop_23 : decode cX0_drop 23 = .ok (.aload_n 0, 1) := by decide +kernel
theorem dX0_drop_24 : decode cX0_drop 24 = .ok (.getfield 22, 3) := by decide +kernel
theorem dX0_drop_27 : decode cX0_drop 27 = .ok (.aload_n 0, 1) := by decide +kernel
theorem dX0_drop_28 : decode cX0_drop 28 = .ok (.getfield 19, 3) := by decide +kernel
theorem dX0_drop_31 : decode cX0_drop 31 = .ok (.iload_n 1, 1) := by decide +kernel
theorem dX0_drop_32 : decode cX0_drop 32 = .ok (.iload_n 2, 1) := by decide +kernel
theorem dX0_drop_33 : decode cX0_drop 33 = .ok (.invokestatic 44, 3) := by decide +kernel
theorem dX0_drop_36 : decode cX0_drop 36 = .ok (.iaload, 1) := by decide +kernel
theorem dX0_drop_37 : decode cX0_drop 37 = .ok (.iconst 0, 1) := by decide +kernel
theorem dX0_drop_38 : decode cX0_drop 38 = .ok (.bastore, 1) := by decide +kernel
theorem dX0_drop_39 : decode cX0_drop 39 = .ok (.iinc 2 4, 3) := by decide +kernel
theorem dX0_drop_42 : decode cX0_drop 42 = .ok (.goto (-29), 3) := by decide +kernel
theorem dX0_drop_45 : decode cX0_drop 45 = .ok (.aload_n 0, 1) := by decide +kernel
theorem dX0_drop_46 : decode cX0_drop 46 = .ok (.getfield 15, 3) := by decide +kernel
theorem dX0_drop_49 : decode cX0_drop 49 = .ok (.iload_n 1, 1) := by decide +kernel
theorem dX0_drop_50 : decode cX0_drop 50 = .ok (.iconst (-1), 1) := by decide +kernel
theorem dX0_drop_51 : decode cX0_drop 51 = .ok (.iastore, 1) := by decide +kernel
theorem dX0_drop_52 : decode cX0_drop 52 = .ok (.iconst 1, 1) := by decide +kernel
theorem dX0_drop_53 : decode cX0_drop 53 = .ok (.ireturn, 1) := by decide +kernel
theorem dX0_lengthOf_0 : decode cX0_lengthOf 0 = .ok (.iload_n 1, 1) := by decide +kernel
theorem dX0_lengthOf_1 : decode cX0_lengthOf 1 = .ok (.ifCond .lt 9, 3) := by decide +kernel
theorem dX0_lengthOf_4 : decode cX0_lengthOf 4 = .ok (.iload_n 1, 1) := by decide +kernel
theorem dX0_lengthOf_5 : decode cX0_lengthOf 5 = .ok (.bipush 8, 2) := by decide +kernel
theorem dX0_lengthOf_7 : decode cX0_lengthOf 7 = .ok (.if_icmp .lt 7, 3) := by decide +kernel
theorem dX0_lengthOf_10 : decode cX0_lengthOf 10 = .ok (.iconst (-1), 1) := by decide +kernel
theorem dX0_lengthOf_11 : decode cX0_lengthOf 11 = .ok (.goto 9, 3) := by decide +kernel
theorem dX0_lengthOf_14 : decode cX0_lengthOf 14 = .ok (.aload_n 0, 1) := by decide +kernel
theorem dX0_lengthOf_15 : decode cX0_lengthOf 15 = .ok (.getfield 15, 3) := by decide +kernel
theorem dX0_lengthOf_18 : decode cX0_lengthOf 18 = .ok (.iload_n 1, 1) := by decide +kernel
theorem dX0_lengthOf_19 : decode cX0_lengthOf 19 = .ok (.iaload, 1) := by decide +kernel
theorem dX0_lengthOf_20 : decode cX0_lengthOf 20 = .ok (.ireturn, 1) := by decide +kernel
set_option maxRecDepth 20000 in
theorem ggX0_blockToRead_X0_lengthOf : GoodIn wsX0_blockToRead wsX0_lengthOf := goodIn_r _ [6, 7, 11, 12, 13, 14] (by decide +kernel) (by decide +kernel)
set_option maxRecDepth 20000 in
theorem gX0_blockToRead_X0_lengthOf : GoodIn wsX0_blockToRead (wsV RX0 40 RX0 yX0_lengthOf wsX0_lengthOf) := goodIn_app (goodIn_of _ (by decide +kernel)) ggX0_blockToRead_X0_lengthOf
set_option maxRecDepth 20000 in
theorem ggX0_blockToRead_X0_partAt : GoodIn wsX0_blockToRead wsX0_partAt := goodIn_r _ [10] (by decide +kernel) (by decide +kernel)
set_option maxRecDepth 20000 in
theorem gX0_blockToRead_X0_partAt : GoodIn wsX0_blockToRead (va_wsS RX0 44 yX0_partAt wsX0_partAt) := goodIn_app (goodIn_of _ (by decide +kernel)) ggX0_blockToRead_X0_partAt
theorem dX0_blockToRead_0 : decode cX0_blockToRead 0 = .ok (.iload_n 2, 1) := by decide +kernel
theorem dX0_blockToRead_1 : decode cX0_blockToRead 1 = .ok (.ifCond .lt 12, 3) := by decide +kernel
theorem dX0_blockToRead_4 : decode cX0_blockToRead 4 = .ok (.iload_n 2, 1) := by decide +kernel
theorem dX0_blockToRead_5 : decode cX0_blockToRead 5 = .ok (.aload_n 0, 1) := by decide +kernel
theorem dX0_blockToRead_6 : decode cX0_blockToRead 6 = .ok (.iload_n 1, 1) := by decide +kernel
theorem dX0_blockToRead_7 : decode cX0_blockToRead 7 = .ok (.invokevirtual 40, 3) := by decide +kernel
theorem dX0_blockToRead_10 : decode cX0_blockToRead 10 = .ok (.if_icmp .lt 7, 3) := by decide +kernel
theorem dX0_blockToRead_13 : decode cX0_blockToRead 13 = .ok (.iconst (-1), 1) := by decide +kernel
theorem dX0_blockToRead_14 : decode cX0_blockToRead 14 = .ok (.goto 13, 3) := by decide +kernel
theorem dX0_blockToRead_17 : decode cX0_blockToRead 17 = .ok (.aload_n 0, 1) := by decide +kernel
theorem dX0_blockToRead_18 : decode cX0_blockToRead 18 = .ok (.getfield 19, 3) := by decide +kernel
theorem dX0_blockToRead_21 : decode cX0_blockToRead 21 = .ok (.iload_n 1, 1) := by decide +kernel
theorem dX0_blockToRead_22 : decode cX0_blockToRead 22 = .ok (.iload_n 2, 1) := by decide +kernel
theorem dX0_blockToRead_23 : decode cX0_blockToRead 23 = .ok (.invokestatic 44, 3) := by decide +kernel
theorem dX0_blockToRead_26 : decode cX0_blockToRead 26 = .ok (.iaload, 1) := by decide +kernel
theorem dX0_blockToRead_27 : decode cX0_blockToRead 27 = .ok (.ireturn, 1) := by decide +kernel
set_option maxRecDepth 20000 in
theorem ggX0_blockToWrite_X0_lengthOf : GoodIn wsX0_blockToWrite wsX0_lengthOf := goodIn_r _ [6, 7, 20, 21, 22, 23] (by decide +kernel) (by decide +kernel)
set_option maxRecDepth 20000 in
theorem gX0_blockToWrite_X0_lengthOf : GoodIn wsX0_blockToWrite (wsV RX0 40 RX0 yX0_lengthOf wsX0_lengthOf) := goodIn_app (goodIn_of _ (by decide +kernel)) ggX0_blockToWrite_X0_lengthOf
set_option maxRecDepth 20000 in
theorem ggX0_blockToWrite_X0_opensPart : GoodIn wsX0_blockToWrite wsX0_opensPart := goodIn_r _ [11, 2, 3, 4, 5, 6, 7, 20, 21, 22, 23] (by decide +kernel) (by decide +kernel)
set_option maxRecDepth 20000 in
theorem gX0_blockToWrite_X0_opensPart : GoodIn wsX0_blockToWrite (wsV RX0 48 RX0 yX0_opensPart wsX0_opensPart) := goodIn_app (goodIn_of _ (by decide +kernel)) ggX0_blockToWrite_X0_opensPart
set_option maxRecDepth 20000 in
theorem ggX0_blockToWrite_X0_leastFreeBlock : GoodIn wsX0_blockToWrite wsX0_leastFreeBlock := goodIn_r _ [15, 16, 20, 21, 22, 23] (by decide +kernel) (by decide +kernel)
set_option maxRecDepth 20000 in
theorem gX0_blockToWrite_X0_leastFreeBlock : GoodIn wsX0_blockToWrite (wsV RX0 52 RX0 yX0_leastFreeBlock wsX0_leastFreeBlock) := goodIn_app (goodIn_of _ (by decide +kernel)) ggX0_blockToWrite_X0_leastFreeBlock
set_option maxRecDepth 20000 in
theorem ggX0_blockToWrite_X0_partAt : GoodIn wsX0_blockToWrite wsX0_partAt := goodIn_r _ [19] (by decide +kernel) (by decide +kernel)
set_option maxRecDepth 20000 in
theorem gX0_blockToWrite_X0_partAt : GoodIn wsX0_blockToWrite (va_wsS RX0 44 yX0_partAt wsX0_partAt) := goodIn_app (goodIn_of _ (by decide +kernel)) ggX0_blockToWrite_X0_partAt
theorem dX0_blockToWrite_0 : decode cX0_blockToWrite 0 = .ok (.iload_n 2, 1) := by decide +kernel
theorem dX0_blockToWrite_1 : decode cX0_blockToWrite 1 = .ok (.ifCond .lt 18, 3) := by decide +kernel
theorem dX0_blockToWrite_4 : decode cX0_blockToWrite 4 = .ok (.iload_n 2, 1) := by decide +kernel
theorem dX0_blockToWrite_5 : decode cX0_blockToWrite 5 = .ok (.aload_n 0, 1) := by decide +kernel
theorem dX0_blockToWrite_6 : decode cX0_blockToWrite 6 = .ok (.iload_n 1, 1) := by decide +kernel
theorem dX0_blockToWrite_7 : decode cX0_blockToWrite 7 = .ok (.invokevirtual 40, 3) := by decide +kernel
theorem dX0_blockToWrite_10 : decode cX0_blockToWrite 10 = .ok (.if_icmp .gt 9, 3) := by decide +kernel
theorem dX0_blockToWrite_13 : decode cX0_blockToWrite 13 = .ok (.iload_n 2, 1) := by decide +kernel
theorem dX0_blockToWrite_14 : decode cX0_blockToWrite 14 = .ok (.bipush 24, 2) := by decide +kernel
theorem dX0_blockToWrite_16 : decode cX0_blockToWrite 16 = .ok (.if_icmp .lt 5, 3) := by decide +kernel
theorem dX0_blockToWrite_19 : decode cX0_blockToWrite 19 = .ok (.iconst (-1), 1) := by decide +kernel
theorem dX0_blockToWrite_20 : decode cX0_blockToWrite 20 = .ok (.ireturn, 1) := by decide +kernel
theorem dX0_blockToWrite_21 : decode cX0_blockToWrite 21 = .ok (.aload_n 0, 1) := by decide +kernel
theorem dX0_blockToWrite_22 : decode cX0_blockToWrite 22 = .ok (.iload_n 1, 1) := by decide +kernel
theorem dX0_blockToWrite_23 : decode cX0_blockToWrite 23 = .ok (.iload_n 2, 1) := by decide +kernel
theorem dX0_blockToWrite_24 : decode cX0_blockToWrite 24 = .ok (.invokevirtual 48, 3) := by decide +kernel
theorem dX0_blockToWrite_27 : decode cX0_blockToWrite 27 = .ok (.ifCond .eq 10, 3) := by decide +kernel
theorem dX0_blockToWrite_30 : decode cX0_blockToWrite 30 = .ok (.aload_n 0, 1) := by decide +kernel
theorem dX0_blockToWrite_31 : decode cX0_blockToWrite 31 = .ok (.invokevirtual 52, 3) := by decide +kernel
theorem dX0_blockToWrite_34 : decode cX0_blockToWrite 34 = .ok (.goto 13, 3) := by decide +kernel
theorem dX0_blockToWrite_37 : decode cX0_blockToWrite 37 = .ok (.aload_n 0, 1) := by decide +kernel
theorem dX0_blockToWrite_38 : decode cX0_blockToWrite 38 = .ok (.getfield 19, 3) := by decide +kernel
theorem dX0_blockToWrite_41 : decode cX0_blockToWrite 41 = .ok (.iload_n 1, 1) := by decide +kernel
theorem dX0_blockToWrite_42 : decode cX0_blockToWrite 42 = .ok (.iload_n 2, 1) := by decide +kernel
theorem dX0_blockToWrite_43 : decode cX0_blockToWrite 43 = .ok (.invokestatic 44, 3) := by decide +kernel
theorem dX0_blockToWrite_46 : decode cX0_blockToWrite 46 = .ok (.iaload, 1) := by decide +kernel
theorem dX0_blockToWrite_47 : decode cX0_blockToWrite 47 = .ok (.ireturn, 1) := by decide +kernel
set_option maxRecDepth 20000 in
theorem ggX0_opensPart_X0_lengthOf : GoodIn wsX0_opensPart wsX0_lengthOf := goodIn_r _ [5, 6, 7, 8, 9, 10] (by decide +kernel) (by decide +kernel)
set_option maxRecDepth 20000 in
theorem gX0_opensPart_X0_lengthOf : GoodIn wsX0_opensPart (wsV RX0 40 RX0 yX0_lengthOf wsX0_lengthOf) := goodIn_app (goodIn_of _ (by decide +kernel)) ggX0_opensPart_X0_lengthOf
theorem dX0_opensPart_0 : decode cX0_opensPart 0 = .ok (.iload_n 2, 1) := by decide +kernel
theorem dX0_opensPart_1 : decode cX0_opensPart 1 = .ok (.aload_n 0, 1) := by decide +kernel
theorem dX0_opensPart_2 : decode cX0_opensPart 2 = .ok (.iload_n 1, 1) := by decide +kernel
theorem dX0_opensPart_3 : decode cX0_opensPart 3 = .ok (.invokevirtual 40, 3) := by decide +kernel
theorem dX0_opensPart_6 : decode cX0_opensPart 6 = .ok (.if_icmp .ne 13, 3) := by decide +kernel
theorem dX0_opensPart_9 : decode cX0_opensPart 9 = .ok (.iload_n 2, 1) := by decide +kernel
theorem dX0_opensPart_10 : decode cX0_opensPart 10 = .ok (.iconst 4, 1) := by decide +kernel
theorem dX0_opensPart_11 : decode cX0_opensPart 11 = .ok (.irem, 1) := by decide +kernel
theorem dX0_opensPart_12 : decode cX0_opensPart 12 = .ok (.ifCond .ne 7, 3) := by decide +kernel
theorem dX0_opensPart_15 : decode cX0_opensPart 15 = .ok (.iconst 1, 1) := by decide +kernel
theorem dX0_opensPart_16 : decode cX0_opensPart 16 = .ok (.goto 4, 3) := by decide +kernel
theorem dX0_opensPart_19 : decode cX0_opensPart 19 = .ok (.iconst 0, 1) := by decide +kernel
theorem dX0_opensPart_20 : decode cX0_opensPart 20 = .ok (.ireturn, 1) := by decide +kernel
set_option maxRecDepth 20000 in
theorem ggX0_noteWritten_X0_opensPart : GoodIn wsX0_noteWritten wsX0_opensPart := goodIn_r _ [8, 9, 10, 11, 7, 12, 3, 16, 17, 18, 19] (by decide +kernel) (by decide +kernel)
set_option maxRecDepth 20000 in
theorem gX0_noteWritten_X0_opensPart : GoodIn wsX0_noteWritten (wsV RX0 48 RX0 yX0_opensPart wsX0_opensPart) := goodIn_app (goodIn_of _ (by decide +kernel)) ggX0_noteWritten_X0_opensPart
set_option maxRecDepth 20000 in
theorem ggX0_noteWritten_X0_partAt : GoodIn wsX0_noteWritten wsX0_partAt := goodIn_r _ [15] (by decide +kernel) (by decide +kernel)
set_option maxRecDepth 20000 in
theorem gX0_noteWritten_X0_partAt : GoodIn wsX0_noteWritten (va_wsS RX0 44 yX0_partAt wsX0_partAt) := goodIn_app (goodIn_of _ (by decide +kernel)) ggX0_noteWritten_X0_partAt
theorem dX0_noteWritten_0 : decode cX0_noteWritten 0 = .ok (.aload_n 0, 1) := by decide +kernel
theorem dX0_noteWritten_1 : decode cX0_noteWritten 1 = .ok (.iload_n 1, 1) := by decide +kernel
theorem dX0_noteWritten_2 : decode cX0_noteWritten 2 = .ok (.iload_n 2, 1) := by decide +kernel
theorem dX0_noteWritten_3 : decode cX0_noteWritten 3 = .ok (.invokevirtual 48, 3) := by decide +kernel
theorem dX0_noteWritten_6 : decode cX0_noteWritten 6 = .ok (.ifCond .eq 21, 3) := by decide +kernel
theorem dX0_noteWritten_9 : decode cX0_noteWritten 9 = .ok (.aload_n 0, 1) := by decide +kernel
theorem dX0_noteWritten_10 : decode cX0_noteWritten 10 = .ok (.getfield 19, 3) := by decide +kernel
theorem dX0_noteWritten_13 : decode cX0_noteWritten 13 = .ok (.iload_n 1, 1) := by decide +kernel
theorem dX0_noteWritten_14 : decode cX0_noteWritten 14 = .ok (.iload_n 2, 1) := by decide +kernel
theorem dX0_noteWritten_15 : decode cX0_noteWritten 15 = .ok (.invokestatic 44, 3) := by decide +kernel
theorem dX0_noteWritten_18 : decode cX0_noteWritten 18 = .ok (.iload_n 3, 1) := by decide +kernel
theorem dX0_noteWritten_19 : decode cX0_noteWritten 19 = .ok (.iastore, 1) := by decide +kernel
theorem dX0_noteWritten_20 : decode cX0_noteWritten 20 = .ok (.aload_n 0, 1) := by decide +kernel
theorem dX0_noteWritten_21 : decode cX0_noteWritten 21 = .ok (.getfield 22, 3) := by decide +kernel
theorem dX0_noteWritten_24 : decode cX0_noteWritten 24 = .ok (.iload_n 3, 1) := by decide +kernel
theorem dX0_noteWritten_25 : decode cX0_noteWritten 25 = .ok (.iconst 1, 1) := by decide +kernel
theorem dX0_noteWritten_26 : decode cX0_noteWritten 26 = .ok (.bastore, 1) := by decide +kernel
theorem dX0_noteWritten_27 : decode cX0_noteWritten 27 = .ok (.iload_n 2, 1) := by decide +kernel
theorem dX0_noteWritten_28 : decode cX0_noteWritten 28 = .ok (.aload_n 0, 1) := by decide +kernel
theorem dX0_noteWritten_29 : decode cX0_noteWritten 29 = .ok (.getfield 15, 3) := by decide +kernel
theorem dX0_noteWritten_32 : decode cX0_noteWritten 32 = .ok (.iload_n 1, 1) := by decide +kernel
theorem dX0_noteWritten_33 : decode cX0_noteWritten 33 = .ok (.iaload, 1) := by decide +kernel
theorem dX0_noteWritten_34 : decode cX0_noteWritten 34 = .ok (.if_icmp .ne 13, 3) := by decide +kernel
theorem dX0_noteWritten_37 : decode cX0_noteWritten 37 = .ok (.aload_n 0, 1) := by decide +kernel
theorem dX0_noteWritten_38 : decode cX0_noteWritten 38 = .ok (.getfield 15, 3) := by decide +kernel
theorem dX0_noteWritten_41 : decode cX0_noteWritten 41 = .ok (.iload_n 1, 1) := by decide +kernel
theorem dX0_noteWritten_42 : decode cX0_noteWritten 42 = .ok (.dup2, 1) := by decide +kernel
theorem dX0_noteWritten_43 : decode cX0_noteWritten 43 = .ok (.iaload, 1) := by decide +kernel
theorem dX0_noteWritten_44 : decode cX0_noteWritten 44 = .ok (.iconst 1, 1) := by decide +kernel
theorem dX0_noteWritten_45 : decode cX0_noteWritten 45 = .ok (.iadd, 1) := by decide +kernel
theorem dX0_noteWritten_46 : decode cX0_noteWritten 46 = .ok (.iastore, 1) := by decide +kernel
theorem dX0_noteWritten_47 : decode cX0_noteWritten 47 = .ok (.return_, 1) := by decide +kernel
theorem dX0_countFiles_0 : decode cX0_countFiles 0 = .ok (.iconst 0, 1) := by decide +kernel
theorem dX0_countFiles_1 : decode cX0_countFiles 1 = .ok (.istore_n 1, 1) := by decide +kernel
theorem dX0_countFiles_2 : decode cX0_countFiles 2 = .ok (.iconst 0, 1) := by decide +kernel
theorem dX0_countFiles_3 : decode cX0_countFiles 3 = .ok (.istore_n 2, 1) := by decide +kernel
theorem dX0_countFiles_4 : decode cX0_countFiles 4 = .ok (.iload_n 2, 1) := by decide +kernel
theorem dX0_countFiles_5 : decode cX0_countFiles 5 = .ok (.bipush 8, 2) := by decide +kernel
theorem dX0_countFiles_7 : decode cX0_countFiles 7 = .ok (.if_icmp .ge 22, 3) := by decide +kernel
theorem dX0_countFiles_10 : decode cX0_countFiles 10 = .ok (.aload_n 0, 1) := by decide +kernel
theorem dX0_countFiles_11 : decode cX0_countFiles 11 = .ok (.getfield 15, 3) := by decide +kernel
theorem dX0_countFiles_14 : decode cX0_countFiles 14 = .ok (.iload_n 2, 1) := by decide +kernel
theorem dX0_countFiles_15 : decode cX0_countFiles 15 = .ok (.iaload, 1) := by decide +kernel
theorem dX0_countFiles_16 : decode cX0_countFiles 16 = .ok (.iconst (-1), 1) := by decide +kernel
theorem dX0_countFiles_17 : decode cX0_countFiles 17 = .ok (.if_icmp .eq 6, 3) := by decide +kernel
theorem dX0_countFiles_20 : decode cX0_countFiles 20 = .ok (.iinc 1 1, 3) := by decide +kernel
theorem dX0_countFiles_23 : decode cX0_countFiles 23 = .ok (.iinc 2 1, 3) := by decide +kernel
theorem dX0_countFiles_26 : decode cX0_countFiles 26 = .ok (.goto (-22), 3) := by decide +kernel
theorem dX0_countFiles_29 : decode cX0_countFiles 29 = .ok (.iload_n 1, 1) := by decide +kernel
theorem dX0_countFiles_30 : decode cX0_countFiles 30 = .ok (.ireturn, 1) := by decide +kernel
theorem dX0_countFreeBlocks_0 : decode cX0_countFreeBlocks 0 = .ok (.iconst 0, 1) := by decide +kernel
theorem dX0_countFreeBlocks_1 : decode cX0_countFreeBlocks 1 = .ok (.istore_n 1, 1) := by decide +kernel
theorem dX0_countFreeBlocks_2 : decode cX0_countFreeBlocks 2 = .ok (.iconst 0, 1) := by decide +kernel
theorem dX0_countFreeBlocks_3 : decode cX0_countFreeBlocks 3 = .ok (.istore_n 2, 1) := by decide +kernel
theorem dX0_countFreeBlocks_4 : decode cX0_countFreeBlocks 4 = .ok (.iload_n 2, 1) := by decide +kernel
theorem dX0_countFreeBlocks_5 : decode cX0_countFreeBlocks 5 = .ok (.bipush 64, 2) := by decide +kernel
theorem dX0_countFreeBlocks_7 : decode cX0_countFreeBlocks 7 = .ok (.if_icmp .ge 21, 3) := by decide +kernel
theorem dX0_countFreeBlocks_10 : decode cX0_countFreeBlocks 10 = .ok (.aload_n 0, 1) := by decide +kernel
theorem dX0_countFreeBlocks_11 : decode cX0_countFreeBlocks 11 = .ok (.getfield 22, 3) := by decide +kernel
theorem dX0_countFreeBlocks_14 : decode cX0_countFreeBlocks 14 = .ok (.iload_n 2, 1) := by decide +kernel
theorem dX0_countFreeBlocks_15 : decode cX0_countFreeBlocks 15 = .ok (.baload, 1) := by decide +kernel
theorem dX0_countFreeBlocks_16 : decode cX0_countFreeBlocks 16 = .ok (.ifCond .ne 6, 3) := by decide +kernel
theorem dX0_countFreeBlocks_19 : decode cX0_countFreeBlocks 19 = .ok (.iinc 1 1, 3) := by decide +kernel
theorem dX0_countFreeBlocks_22 : decode cX0_countFreeBlocks 22 = .ok (.iinc 2 1, 3) := by decide +kernel
theorem dX0_countFreeBlocks_25 : decode cX0_countFreeBlocks 25 = .ok (.goto (-21), 3) := by decide +kernel
theorem dX0_countFreeBlocks_28 : decode cX0_countFreeBlocks 28 = .ok (.iload_n 1, 1) := by decide +kernel
theorem dX0_countFreeBlocks_29 : decode cX0_countFreeBlocks 29 = .ok (.ireturn, 1) := by decide +kernel
theorem dX0_partAt_0 : decode cX0_partAt 0 = .ok (.iload_n 0, 1) := by decide +kernel
theorem dX0_partAt_1 : decode cX0_partAt 1 = .ok (.bipush 6, 2) := by decide +kernel
theorem dX0_partAt_3 : decode cX0_partAt 3 = .ok (.imul, 1) := by decide +kernel
theorem dX0_partAt_4 : decode cX0_partAt 4 = .ok (.iload_n 1, 1) := by decide +kernel
theorem dX0_partAt_5 : decode cX0_partAt 5 = .ok (.iconst 4, 1) := by decide +kernel
theorem dX0_partAt_6 : decode cX0_partAt 6 = .ok (.idiv, 1) := by decide +kernel
theorem dX0_partAt_7 : decode cX0_partAt 7 = .ok (.iadd, 1) := by decide +kernel
theorem dX0_partAt_8 : decode cX0_partAt 8 = .ok (.ireturn, 1) := by decide +kernel
theorem dX0_leastFreeNumber_0 : decode cX0_leastFreeNumber 0 = .ok (.iconst 0, 1) := by decide +kernel
theorem dX0_leastFreeNumber_1 : decode cX0_leastFreeNumber 1 = .ok (.istore_n 1, 1) := by decide +kernel
theorem dX0_leastFreeNumber_2 : decode cX0_leastFreeNumber 2 = .ok (.iload_n 1, 1) := by decide +kernel
theorem dX0_leastFreeNumber_3 : decode cX0_leastFreeNumber 3 = .ok (.bipush 8, 2) := by decide +kernel
theorem dX0_leastFreeNumber_5 : decode cX0_leastFreeNumber 5 = .ok (.if_icmp .ge 21, 3) := by decide +kernel
theorem dX0_leastFreeNumber_8 : decode cX0_leastFreeNumber 8 = .ok (.aload_n 0, 1) := by decide +kernel
theorem dX0_leastFreeNumber_9 : decode cX0_leastFreeNumber 9 = .ok (.getfield 15, 3) := by decide +kernel
theorem dX0_leastFreeNumber_12 : decode cX0_leastFreeNumber 12 = .ok (.iload_n 1, 1) := by decide +kernel
theorem dX0_leastFreeNumber_13 : decode cX0_leastFreeNumber 13 = .ok (.iaload, 1) := by decide +kernel
theorem dX0_leastFreeNumber_14 : decode cX0_leastFreeNumber 14 = .ok (.iconst (-1), 1) := by decide +kernel
theorem dX0_leastFreeNumber_15 : decode cX0_leastFreeNumber 15 = .ok (.if_icmp .ne 5, 3) := by decide +kernel
theorem dX0_leastFreeNumber_18 : decode cX0_leastFreeNumber 18 = .ok (.iload_n 1, 1) := by decide +kernel
theorem dX0_leastFreeNumber_19 : decode cX0_leastFreeNumber 19 = .ok (.ireturn, 1) := by decide +kernel
theorem dX0_leastFreeNumber_20 : decode cX0_leastFreeNumber 20 = .ok (.iinc 1 1, 3) := by decide +kernel
theorem dX0_leastFreeNumber_23 : decode cX0_leastFreeNumber 23 = .ok (.goto (-21), 3) := by decide +kernel
theorem dX0_leastFreeNumber_26 : decode cX0_leastFreeNumber 26 = .ok (.iconst (-1), 1) := by decide +kernel
theorem dX0_leastFreeNumber_27 : decode cX0_leastFreeNumber 27 = .ok (.ireturn, 1) := by decide +kernel
theorem dX0_leastFreeBlock_0 : decode cX0_leastFreeBlock 0 = .ok (.iconst 0, 1) := by decide +kernel
theorem dX0_leastFreeBlock_1 : decode cX0_leastFreeBlock 1 = .ok (.istore_n 1, 1) := by decide +kernel
theorem dX0_leastFreeBlock_2 : decode cX0_leastFreeBlock 2 = .ok (.iload_n 1, 1) := by decide +kernel
theorem dX0_leastFreeBlock_3 : decode cX0_leastFreeBlock 3 = .ok (.bipush 64, 2) := by decide +kernel
theorem dX0_leastFreeBlock_5 : decode cX0_leastFreeBlock 5 = .ok (.if_icmp .ge 20, 3) := by decide +kernel
theorem dX0_leastFreeBlock_8 : decode cX0_leastFreeBlock 8 = .ok (.aload_n 0, 1) := by decide +kernel
theorem dX0_leastFreeBlock_9 : decode cX0_leastFreeBlock 9 = .ok (.getfield 22, 3) := by decide +kernel
theorem dX0_leastFreeBlock_12 : decode cX0_leastFreeBlock 12 = .ok (.iload_n 1, 1) := by decide +kernel
theorem dX0_leastFreeBlock_13 : decode cX0_leastFreeBlock 13 = .ok (.baload, 1) := by decide +kernel
theorem dX0_leastFreeBlock_14 : decode cX0_leastFreeBlock 14 = .ok (.ifCond .ne 5, 3) := by decide +kernel
theorem dX0_leastFreeBlock_17 : decode cX0_leastFreeBlock 17 = .ok (.iload_n 1, 1) := by decide +kernel
theorem dX0_leastFreeBlock_18 : decode cX0_leastFreeBlock 18 = .ok (.ireturn, 1) := by decide +kernel
theorem dX0_leastFreeBlock_19 : decode cX0_leastFreeBlock 19 = .ok (.iinc 1 1, 3) := by decide +kernel
theorem dX0_leastFreeBlock_22 : decode cX0_leastFreeBlock 22 = .ok (.goto (-20), 3) := by decide +kernel
theorem dX0_leastFreeBlock_25 : decode cX0_leastFreeBlock 25 = .ok (.iconst (-1), 1) := by decide +kernel
theorem dX0_leastFreeBlock_26 : decode cX0_leastFreeBlock 26 = .ok (.ireturn, 1) := by decide +kernel
theorem dX1_init_0 : decode cX1_init 0 = .ok (.aload_n 0, 1) := by decide +kernel
theorem dX1_init_1 : decode cX1_init 1 = .ok (.invokespecial 1, 3) := by decide +kernel
theorem dX1_init_4 : decode cX1_init 4 = .ok (.return_, 1) := by decide +kernel
theorem dX1_begin_0 : decode cX1_begin 0 = .ok (.aload_n 0, 1) := by decide +kernel
theorem dX1_begin_1 : decode cX1_begin 1 = .ok (.iload_n 1, 1) := by decide +kernel
theorem dX1_begin_2 : decode cX1_begin 2 = .ok (.ifCond .ne 7, 3) := by decide +kernel
theorem dX1_begin_5 : decode cX1_begin 5 = .ok (.iconst 1, 1) := by decide +kernel
theorem dX1_begin_6 : decode cX1_begin 6 = .ok (.goto 4, 3) := by decide +kernel
theorem dX1_begin_9 : decode cX1_begin 9 = .ok (.iload_n 1, 1) := by decide +kernel
theorem dX1_begin_10 : decode cX1_begin 10 = .ok (.putfield 7, 3) := by decide +kernel
theorem dX1_begin_13 : decode cX1_begin 13 = .ok (.return_, 1) := by decide +kernel
theorem dX1_draw_0 : decode cX1_draw 0 = .ok (.aload_n 0, 1) := by decide +kernel
theorem dX1_draw_1 : decode cX1_draw 1 = .ok (.dup, 1) := by decide +kernel
theorem dX1_draw_2 : decode cX1_draw 2 = .ok (.getfield 7, 3) := by decide +kernel
theorem dX1_draw_5 : decode cX1_draw 5 = .ok (.aload_n 0, 1) := by decide +kernel
theorem dX1_draw_6 : decode cX1_draw 6 = .ok (.getfield 7, 3) := by decide +kernel
theorem dX1_draw_9 : decode cX1_draw 9 = .ok (.bipush 13, 2) := by decide +kernel
theorem dX1_draw_11 : decode cX1_draw 11 = .ok (.ishl, 1) := by decide +kernel
theorem dX1_draw_12 : decode cX1_draw 12 = .ok (.ixor, 1) := by decide +kernel
theorem dX1_draw_13 : decode cX1_draw 13 = .ok (.putfield 7, 3) := by decide +kernel
theorem dX1_draw_16 : decode cX1_draw 16 = .ok (.aload_n 0, 1) := by decide +kernel
theorem dX1_draw_17 : decode cX1_draw 17 = .ok (.dup, 1) := by decide +kernel
theorem dX1_draw_18 : decode cX1_draw 18 = .ok (.getfield 7, 3) := by decide +kernel
theorem dX1_draw_21 : decode cX1_draw 21 = .ok (.aload_n 0, 1) := by decide +kernel
theorem dX1_draw_22 : decode cX1_draw 22 = .ok (.getfield 7, 3) := by decide +kernel
theorem dX1_draw_25 : decode cX1_draw 25 = .ok (.bipush 17, 2) := by decide +kernel
theorem dX1_draw_27 : decode cX1_draw 27 = .ok (.iushr, 1) := by decide +kernel
theorem dX1_draw_28 : decode cX1_draw 28 = .ok (.ixor, 1) := by decide +kernel
theorem dX1_draw_29 : decode cX1_draw 29 = .ok (.putfield 7, 3) := by decide +kernel
theorem dX1_draw_32 : decode cX1_draw 32 = .ok (.aload_n 0, 1) := by decide +kernel
theorem dX1_draw_33 : decode cX1_draw 33 = .ok (.dup, 1) := by decide +kernel
theorem dX1_draw_34 : decode cX1_draw 34 = .ok (.getfield 7, 3) := by decide +kernel
theorem dX1_draw_37 : decode cX1_draw 37 = .ok (.aload_n 0, 1) := by decide +kernel
theorem dX1_draw_38 : decode cX1_draw 38 = .ok (.getfield 7, 3) := by decide +kernel
theorem dX1_draw_41 : decode cX1_draw 41 = .ok (.iconst 5, 1) := by decide +kernel
theorem dX1_draw_42 : decode cX1_draw 42 = .ok (.ishl, 1) := by decide +kernel
theorem dX1_draw_43 : decode cX1_draw 43 = .ok (.ixor, 1) := by decide +kernel
theorem dX1_draw_44 : decode cX1_draw 44 = .ok (.putfield 7, 3) := by decide +kernel
theorem dX1_draw_47 : decode cX1_draw 47 = .ok (.aload_n 0, 1) := by decide +kernel
theorem dX1_draw_48 : decode cX1_draw 48 = .ok (.getfield 7, 3) := by decide +kernel
theorem dX1_draw_51 : decode cX1_draw 51 = .ok (.bipush 32, 2) := by decide +kernel
theorem dX1_draw_53 : decode cX1_draw 53 = .ok (.iload_n 1, 1) := by decide +kernel
theorem dX1_draw_54 : decode cX1_draw 54 = .ok (.isub, 1) := by decide +kernel
theorem dX1_draw_55 : decode cX1_draw 55 = .ok (.iushr, 1) := by decide +kernel
theorem dX1_draw_56 : decode cX1_draw 56 = .ok (.ireturn, 1) := by decide +kernel
theorem dX2_init_0 : decode cX2_init 0 = .ok (.aload_n 0, 1) := by decide +kernel
theorem dX2_init_1 : decode cX2_init 1 = .ok (.invokespecial 3, 3) := by decide +kernel
theorem dX2_init_4 : decode cX2_init 4 = .ok (.aload_n 0, 1) := by decide +kernel
theorem dX2_init_5 : decode cX2_init 5 = .ok (.bipush 64, 2) := by decide +kernel
theorem dX2_init_7 : decode cX2_init 7 = .ok (.newarray .int, 2) := by decide +kernel
theorem dX2_init_9 : decode cX2_init 9 = .ok (.putfield 11, 3) := by decide +kernel
theorem dX2_init_12 : decode cX2_init 12 = .ok (.aload_n 0, 1) := by decide +kernel
theorem dX2_init_13 : decode cX2_init 13 = .ok (.bipush 64, 2) := by decide +kernel
theorem dX2_init_15 : decode cX2_init 15 = .ok (.newarray .int, 2) := by decide +kernel
theorem dX2_init_17 : decode cX2_init 17 = .ok (.putfield 15, 3) := by decide +kernel
theorem dX2_init_20 : decode cX2_init 20 = .ok (.return_, 1) := by decide +kernel
theorem dX2_empty_0 : decode cX2_empty 0 = .ok (.aload_n 0, 1) := by decide +kernel
theorem dX2_empty_1 : decode cX2_empty 1 = .ok (.iconst 0, 1) := by decide +kernel
theorem dX2_empty_2 : decode cX2_empty 2 = .ok (.putfield 18, 3) := by decide +kernel
theorem dX2_empty_5 : decode cX2_empty 5 = .ok (.return_, 1) := by decide +kernel
theorem dX2_add_0 : decode cX2_add 0 = .ok (.aload_n 0, 1) := by decide +kernel
theorem dX2_add_1 : decode cX2_add 1 = .ok (.getfield 11, 3) := by decide +kernel
theorem dX2_add_4 : decode cX2_add 4 = .ok (.aload_n 0, 1) := by decide +kernel
theorem dX2_add_5 : decode cX2_add 5 = .ok (.getfield 18, 3) := by decide +kernel
theorem dX2_add_8 : decode cX2_add 8 = .ok (.bipush 64, 2) := by decide +kernel
theorem dX2_add_10 : decode cX2_add 10 = .ok (.irem, 1) := by decide +kernel
theorem dX2_add_11 : decode cX2_add 11 = .ok (.iload_n 1, 1) := by decide +kernel
theorem dX2_add_12 : decode cX2_add 12 = .ok (.iastore, 1) := by decide +kernel
theorem dX2_add_13 : decode cX2_add 13 = .ok (.aload_n 0, 1) := by decide +kernel
theorem dX2_add_14 : decode cX2_add 14 = .ok (.getfield 15, 3) := by decide +kernel
theorem dX2_add_17 : decode cX2_add 17 = .ok (.aload_n 0, 1) := by decide +kernel
theorem dX2_add_18 : decode cX2_add 18 = .ok (.getfield 18, 3) := by decide +kernel
theorem dX2_add_21 : decode cX2_add 21 = .ok (.bipush 64, 2) := by decide +kernel
theorem dX2_add_23 : decode cX2_add 23 = .ok (.irem, 1) := by decide +kernel
theorem dX2_add_24 : decode cX2_add 24 = .ok (.iconst (-1), 1) := by decide +kernel
theorem dX2_add_25 : decode cX2_add 25 = .ok (.iastore, 1) := by decide +kernel
theorem dX2_add_26 : decode cX2_add 26 = .ok (.aload_n 0, 1) := by decide +kernel
theorem dX2_add_27 : decode cX2_add 27 = .ok (.dup, 1) := by decide +kernel
theorem dX2_add_28 : decode cX2_add 28 = .ok (.getfield 18, 3) := by decide +kernel
theorem dX2_add_31 : decode cX2_add 31 = .ok (.iconst 1, 1) := by decide +kernel
theorem dX2_add_32 : decode cX2_add 32 = .ok (.iadd, 1) := by decide +kernel
theorem dX2_add_33 : decode cX2_add 33 = .ok (.putfield 18, 3) := by decide +kernel
theorem dX2_add_36 : decode cX2_add 36 = .ok (.return_, 1) := by decide +kernel
theorem dX2_setDataLeaf_0 : decode cX2_setDataLeaf 0 = .ok (.aload_n 0, 1) := by decide +kernel
theorem dX2_setDataLeaf_1 : decode cX2_setDataLeaf 1 = .ok (.getfield 18, 3) := by decide +kernel
theorem dX2_setDataLeaf_4 : decode cX2_setDataLeaf 4 = .ok (.ifCond .le 18, 3) := by decide +kernel
theorem dX2_setDataLeaf_7 : decode cX2_setDataLeaf 7 = .ok (.aload_n 0, 1) := by decide +kernel
theorem dX2_setDataLeaf_8 : decode cX2_setDataLeaf 8 = .ok (.getfield 15, 3) := by decide +kernel
theorem dX2_setDataLeaf_11 : decode cX2_setDataLeaf 11 = .ok (.aload_n 0, 1) := by decide +kernel
theorem dX2_setDataLeaf_12 : decode cX2_setDataLeaf 12 = .ok (.getfield 18, 3) := by decide +kernel
theorem dX2_setDataLeaf_15 : decode cX2_setDataLeaf 15 = .ok (.iconst 1, 1) := by decide +kernel
theorem dX2_setDataLeaf_16 : decode cX2_setDataLeaf 16 = .ok (.isub, 1) := by decide +kernel
theorem dX2_setDataLeaf_17 : decode cX2_setDataLeaf 17 = .ok (.bipush 64, 2) := by decide +kernel
theorem dX2_setDataLeaf_19 : decode cX2_setDataLeaf 19 = .ok (.irem, 1) := by decide +kernel
theorem dX2_setDataLeaf_20 : decode cX2_setDataLeaf 20 = .ok (.iload_n 1, 1) := by decide +kernel
theorem dX2_setDataLeaf_21 : decode cX2_setDataLeaf 21 = .ok (.iastore, 1) := by decide +kernel
theorem dX2_setDataLeaf_22 : decode cX2_setDataLeaf 22 = .ok (.return_, 1) := by decide +kernel
theorem dX2_countAll_0 : decode cX2_countAll 0 = .ok (.aload_n 0, 1) := by decide +kernel
theorem dX2_countAll_1 : decode cX2_countAll 1 = .ok (.getfield 18, 3) := by decide +kernel
theorem dX2_countAll_4 : decode cX2_countAll 4 = .ok (.ireturn, 1) := by decide +kernel
theorem dX2_leafOf_0 : decode cX2_leafOf 0 = .ok (.iload_n 1, 1) := by decide +kernel
theorem dX2_leafOf_1 : decode cX2_leafOf 1 = .ok (.ifCond .lt 17, 3) := by decide +kernel
theorem dX2_leafOf_4 : decode cX2_leafOf 4 = .ok (.iload_n 1, 1) := by decide +kernel
theorem dX2_leafOf_5 : decode cX2_leafOf 5 = .ok (.bipush 64, 2) := by decide +kernel
theorem dX2_leafOf_7 : decode cX2_leafOf 7 = .ok (.if_icmp .ge 11, 3) := by decide +kernel
theorem dX2_leafOf_10 : decode cX2_leafOf 10 = .ok (.iload_n 1, 1) := by decide +kernel
theorem dX2_leafOf_11 : decode cX2_leafOf 11 = .ok (.aload_n 0, 1) := by decide +kernel
theorem dX2_leafOf_12 : decode cX2_leafOf 12 = .ok (.getfield 18, 3) := by decide +kernel
theorem dX2_leafOf_15 : decode cX2_leafOf 15 = .ok (.if_icmp .lt 5, 3) := by decide +kernel
theorem dX2_leafOf_18 : decode cX2_leafOf 18 = .ok (.iconst (-1), 1) := by decide +kernel
theorem dX2_leafOf_19 : decode cX2_leafOf 19 = .ok (.ireturn, 1) := by decide +kernel
theorem dX2_leafOf_20 : decode cX2_leafOf 20 = .ok (.aload_n 0, 1) := by decide +kernel
theorem dX2_leafOf_21 : decode cX2_leafOf 21 = .ok (.getfield 18, 3) := by decide +kernel
theorem dX2_leafOf_24 : decode cX2_leafOf 24 = .ok (.iconst 1, 1) := by decide +kernel
theorem dX2_leafOf_25 : decode cX2_leafOf 25 = .ok (.isub, 1) := by decide +kernel
theorem dX2_leafOf_26 : decode cX2_leafOf 26 = .ok (.iload_n 1, 1) := by decide +kernel
theorem dX2_leafOf_27 : decode cX2_leafOf 27 = .ok (.isub, 1) := by decide +kernel
theorem dX2_leafOf_28 : decode cX2_leafOf 28 = .ok (.bipush 64, 2) := by decide +kernel
theorem dX2_leafOf_30 : decode cX2_leafOf 30 = .ok (.irem, 1) := by decide +kernel
theorem dX2_leafOf_31 : decode cX2_leafOf 31 = .ok (.istore_n 3, 1) := by decide +kernel
theorem dX2_leafOf_32 : decode cX2_leafOf 32 = .ok (.iload_n 2, 1) := by decide +kernel
theorem dX2_leafOf_33 : decode cX2_leafOf 33 = .ok (.ifCond .ne 10, 3) := by decide +kernel
theorem dX2_leafOf_36 : decode cX2_leafOf 36 = .ok (.aload_n 0, 1) := by decide +kernel
theorem dX2_leafOf_37 : decode cX2_leafOf 37 = .ok (.getfield 11, 3) := by decide +kernel
theorem dX2_leafOf_40 : decode cX2_leafOf 40 = .ok (.iload_n 3, 1) := by decide +kernel
theorem dX2_leafOf_41 : decode cX2_leafOf 41 = .ok (.iaload, 1) := by decide +kernel
theorem dX2_leafOf_42 : decode cX2_leafOf 42 = .ok (.ireturn, 1) := by decide +kernel
theorem dX2_leafOf_43 : decode cX2_leafOf 43 = .ok (.iload_n 2, 1) := by decide +kernel
theorem dX2_leafOf_44 : decode cX2_leafOf 44 = .ok (.iconst 1, 1) := by decide +kernel
theorem dX2_leafOf_45 : decode cX2_leafOf 45 = .ok (.if_icmp .ne 12, 3) := by decide +kernel
theorem dX2_leafOf_48 : decode cX2_leafOf 48 = .ok (.aload_n 0, 1) := by decide +kernel
theorem dX2_leafOf_49 : decode cX2_leafOf 49 = .ok (.getfield 15, 3) := by decide +kernel
theorem dX2_leafOf_52 : decode cX2_leafOf 52 = .ok (.iload_n 3, 1) := by decide +kernel
theorem dX2_leafOf_53 : decode cX2_leafOf 53 = .ok (.iaload, 1) := by decide +kernel
theorem dX2_leafOf_54 : decode cX2_leafOf 54 = .ok (.goto 4, 3) := by decide +kernel
theorem dX2_leafOf_57 : decode cX2_leafOf 57 = .ok (.iconst (-1), 1) := by decide +kernel
theorem dX2_leafOf_58 : decode cX2_leafOf 58 = .ok (.ireturn, 1) := by decide +kernel
theorem dX3_init_0 : decode cX3_init 0 = .ok (.aload_n 0, 1) := by decide +kernel
theorem dX3_init_1 : decode cX3_init 1 = .ok (.invokespecial 3, 3) := by decide +kernel
theorem dX3_init_4 : decode cX3_init 4 = .ok (.aload_n 0, 1) := by decide +kernel
theorem dX3_init_5 : decode cX3_init 5 = .ok (.iload_n 1, 1) := by decide +kernel
theorem dX3_init_6 : decode cX3_init 6 = .ok (.putfield 9, 3) := by decide +kernel
theorem dX3_init_9 : decode cX3_init 9 = .ok (.aload_n 0, 1) := by decide +kernel
theorem dX3_init_10 : decode cX3_init 10 = .ok (.iconst 1, 1) := by decide +kernel
theorem dX3_init_11 : decode cX3_init 11 = .ok (.iload_n 2, 1) := by decide +kernel
theorem dX3_init_12 : decode cX3_init 12 = .ok (.ishl, 1) := by decide +kernel
theorem dX3_init_13 : decode cX3_init 13 = .ok (.putfield 15, 3) := by decide +kernel
theorem dX3_init_16 : decode cX3_init 16 = .ok (.aload_n 0, 1) := by decide +kernel
theorem dX3_init_17 : decode cX3_init 17 = .ok (.iload_n 2, 1) := by decide +kernel
theorem dX3_init_18 : decode cX3_init 18 = .ok (.iconst 1, 1) := by decide +kernel
theorem dX3_init_19 : decode cX3_init 19 = .ok (.iadd, 1) := by decide +kernel
theorem dX3_init_20 : decode cX3_init 20 = .ok (.putfield 18, 3) := by decide +kernel
theorem dX3_init_23 : decode cX3_init 23 = .ok (.aload_n 0, 1) := by decide +kernel
theorem dX3_init_24 : decode cX3_init 24 = .ok (.iconst 2, 1) := by decide +kernel
theorem dX3_init_25 : decode cX3_init 25 = .ok (.aload_n 0, 1) := by decide +kernel
theorem dX3_init_26 : decode cX3_init 26 = .ok (.getfield 15, 3) := by decide +kernel
theorem dX3_init_29 : decode cX3_init 29 = .ok (.imul, 1) := by decide +kernel
theorem dX3_init_30 : decode cX3_init 30 = .ok (.iconst 1, 1) := by decide +kernel
theorem dX3_init_31 : decode cX3_init 31 = .ok (.isub, 1) := by decide +kernel
theorem dX3_init_32 : decode cX3_init 32 = .ok (.putfield 21, 3) := by decide +kernel
theorem dX3_init_35 : decode cX3_init 35 = .ok (.aload_n 0, 1) := by decide +kernel
theorem dX3_init_36 : decode cX3_init 36 = .ok (.iload_n 3, 1) := by decide +kernel
theorem dX3_init_37 : decode cX3_init 37 = .ok (.putfield 24, 3) := by decide +kernel
theorem dX3_init_40 : decode cX3_init 40 = .ok (.aload_n 0, 1) := by decide +kernel
theorem dX3_init_41 : decode cX3_init 41 = .ok (.aload_n 0, 1) := by decide +kernel
theorem dX3_init_42 : decode cX3_init 42 = .ok (.getfield 21, 3) := by decide +kernel
theorem dX3_init_45 : decode cX3_init 45 = .ok (.bipush 25, 2) := by decide +kernel
theorem dX3_init_47 : decode cX3_init 47 = .ok (.imul, 1) := by decide +kernel
theorem dX3_init_48 : decode cX3_init 48 = .ok (.newarray .int, 2) := by decide +kernel
theorem dX3_init_50 : decode cX3_init 50 = .ok (.putfield 27, 3) := by decide +kernel
theorem dX3_init_53 : decode cX3_init 53 = .ok (.aload_n 0, 1) := by decide +kernel
theorem dX3_init_54 : decode cX3_init 54 = .ok (.aload_n 0, 1) := by decide +kernel
theorem dX3_init_55 : decode cX3_init 55 = .ok (.getfield 21, 3) := by decide +kernel
theorem dX3_init_58 : decode cX3_init 58 = .ok (.newarray .int, 2) := by decide +kernel
theorem dX3_init_60 : decode cX3_init 60 = .ok (.putfield 31, 3) := by decide +kernel
theorem dX3_init_63 : decode cX3_init 63 = .ok (.aload_n 0, 1) := by decide +kernel
theorem dX3_init_64 : decode cX3_init 64 = .ok (.iload_n 3, 1) := by decide +kernel
theorem dX3_init_65 : decode cX3_init 65 = .ok (.newarray .boolean, 2) := by decide +kernel
theorem dX3_init_67 : decode cX3_init 67 = .ok (.putfield 34, 3) := by decide +kernel
theorem dX3_init_70 : decode cX3_init 70 = .ok (.aload_n 0, 1) := by decide +kernel
theorem dX3_init_71 : decode cX3_init 71 = .ok (.iload_n 3, 1) := by decide +kernel
theorem dX3_init_72 : decode cX3_init 72 = .ok (.newarray .int, 2) := by decide +kernel
theorem dX3_init_74 : decode cX3_init 74 = .ok (.putfield 38, 3) := by decide +kernel
theorem dX3_init_77 : decode cX3_init 77 = .ok (.aload_n 0, 1) := by decide +kernel
theorem dX3_init_78 : decode cX3_init 78 = .ok (.iload_n 3, 1) := by decide +kernel
theorem dX3_init_79 : decode cX3_init 79 = .ok (.iconst 4, 1) := by decide +kernel
theorem dX3_init_80 : decode cX3_init 80 = .ok (.imul, 1) := by decide +kernel
theorem dX3_init_81 : decode cX3_init 81 = .ok (.newarray .int, 2) := by decide +kernel
theorem dX3_init_83 : decode cX3_init 83 = .ok (.putfield 41, 3) := by decide +kernel
theorem dX3_init_86 : decode cX3_init 86 = .ok (.return_, 1) := by decide +kernel
set_option maxRecDepth 20000 in
theorem ggX3_empty_J7_fill_53178 : GoodIn wsX3_empty wsJ7_fill_53178 := goodIn_r _ [10] (by decide +kernel) (by decide +kernel)
set_option maxRecDepth 20000 in
theorem gX3_empty_J7_fill_53178 : GoodIn wsX3_empty (va_wsS RX3 47 yJ7_fill_53178 wsJ7_fill_53178) := goodIn_app (goodIn_of _ (by decide +kernel)) ggX3_empty_J7_fill_53178
theorem dX3_empty_0 : decode cX3_empty 0 = .ok (.aload_n 0, 1) := by decide +kernel
theorem dX3_empty_1 : decode cX3_empty 1 = .ok (.iload_n 1, 1) := by decide +kernel
theorem dX3_empty_2 : decode cX3_empty 2 = .ok (.putfield 44, 3) := by decide +kernel
theorem dX3_empty_5 : decode cX3_empty 5 = .ok (.aload_n 0, 1) := by decide +kernel
theorem dX3_empty_6 : decode cX3_empty 6 = .ok (.getfield 27, 3) := by decide +kernel
theorem dX3_empty_9 : decode cX3_empty 9 = .ok (.iconst 0, 1) := by decide +kernel
theorem dX3_empty_10 : decode cX3_empty 10 = .ok (.invokestatic 47, 3) := by decide +kernel
theorem dX3_empty_13 : decode cX3_empty 13 = .ok (.aload_n 0, 1) := by decide +kernel
theorem dX3_empty_14 : decode cX3_empty 14 = .ok (.getfield 31, 3) := by decide +kernel
theorem dX3_empty_17 : decode cX3_empty 17 = .ok (.iconst 1, 1) := by decide +kernel
theorem dX3_empty_18 : decode cX3_empty 18 = .ok (.invokestatic 47, 3) := by decide +kernel
theorem dX3_empty_21 : decode cX3_empty 21 = .ok (.aload_n 0, 1) := by decide +kernel
theorem dX3_empty_22 : decode cX3_empty 22 = .ok (.getfield 41, 3) := by decide +kernel
theorem dX3_empty_25 : decode cX3_empty 25 = .ok (.iconst 0, 1) := by decide +kernel
theorem dX3_empty_26 : decode cX3_empty 26 = .ok (.invokestatic 47, 3) := by decide +kernel
theorem dX3_empty_29 : decode cX3_empty 29 = .ok (.iconst 0, 1) := by decide +kernel
theorem dX3_empty_30 : decode cX3_empty 30 = .ok (.istore_n 2, 1) := by decide +kernel
theorem dX3_empty_31 : decode cX3_empty 31 = .ok (.iload_n 2, 1) := by decide +kernel
theorem dX3_empty_32 : decode cX3_empty 32 = .ok (.aload_n 0, 1) := by decide +kernel
theorem dX3_empty_33 : decode cX3_empty 33 = .ok (.getfield 24, 3) := by decide +kernel
theorem dX3_empty_36 : decode cX3_empty 36 = .ok (.if_icmp .ge 16, 3) := by decide +kernel
theorem dX3_empty_39 : decode cX3_empty 39 = .ok (.aload_n 0, 1) := by decide +kernel
theorem dX3_empty_40 : decode cX3_empty 40 = .ok (.getfield 34, 3) := by decide +kernel
theorem dX3_empty_43 : decode cX3_empty 43 = .ok (.iload_n 2, 1) := by decide +kernel
theorem dX3_empty_44 : decode cX3_empty 44 = .ok (.iconst 1, 1) := by decide +kernel
theorem dX3_empty_45 : decode cX3_empty 45 = .ok (.bastore, 1) := by decide +kernel
theorem dX3_empty_46 : decode cX3_empty 46 = .ok (.iinc 2 1, 3) := by decide +kernel
theorem dX3_empty_49 : decode cX3_empty 49 = .ok (.goto (-18), 3) := by decide +kernel
theorem dX3_empty_52 : decode cX3_empty 52 = .ok (.return_, 1) := by decide +kernel
set_option maxRecDepth 20000 in
theorem ggX3_settleAll_X3_settle : GoodIn wsX3_settleAll wsX3_settle := goodIn_r _ [7, 8, 9, 10, 11, 12, 13, 6, 14, 15, 16, 17, 18, 19, 20, 21, 22, 23, 24, 25, 26, 27, 28, 54, 55, 56, 57, 58, 59, 60, 61, 62, 63, 64] (by decide +kernel) (by decide +kernel)
set_option maxRecDepth 20000 in
theorem gX3_settleAll_X3_settle : GoodIn wsX3_settleAll (wsV RX3 53 RX3 yX3_settle wsX3_settle) := goodIn_app (goodIn_of _ (by decide +kernel)) ggX3_settleAll_X3_settle
set_option maxRecDepth 20000 in
theorem ggX3_settleAll_X3_seal : GoodIn wsX3_settleAll wsX3_seal := goodIn_r _ [32, 10, 33, 34, 35, 6, 36, 37, 38, 39, 40, 41, 42, 43, 44, 45, 46, 47, 48, 49, 50, 51, 52, 53, 54, 55, 56, 57, 58, 59, 60, 61, 62, 63, 64] (by decide +kernel) (by decide +kernel)
set_option maxRecDepth 20000 in
theorem gX3_settleAll_X3_seal : GoodIn wsX3_settleAll (wsV RX3 57 RX3 yX3_seal wsX3_seal) := goodIn_app (goodIn_of _ (by decide +kernel)) ggX3_settleAll_X3_seal
theorem dX3_settleAll_0 : decode cX3_settleAll 0 = .ok (.iconst 0, 1) := by decide +kernel
theorem dX3_settleAll_1 : decode cX3_settleAll 1 = .ok (.istore_n 1, 1) := by decide +kernel
theorem dX3_settleAll_2 : decode cX3_settleAll 2 = .ok (.iload_n 1, 1) := by decide +kernel
theorem dX3_settleAll_3 : decode cX3_settleAll 3 = .ok (.aload_n 0, 1) := by decide +kernel
theorem dX3_settleAll_4 : decode cX3_settleAll 4 = .ok (.getfield 24, 3) := by decide +kernel
theorem dX3_settleAll_7 : decode cX3_settleAll 7 = .ok (.if_icmp .ge 14, 3) := by decide +kernel
theorem dX3_settleAll_10 : decode cX3_settleAll 10 = .ok (.aload_n 0, 1) := by decide +kernel
theorem dX3_settleAll_11 : decode cX3_settleAll 11 = .ok (.iload_n 1, 1) := by decide +kernel
theorem dX3_settleAll_12 : decode cX3_settleAll 12 = .ok (.invokevirtual 53, 3) := by decide +kernel
theorem dX3_settleAll_15 : decode cX3_settleAll 15 = .ok (.iinc 1 1, 3) := by decide +kernel
theorem dX3_settleAll_18 : decode cX3_settleAll 18 = .ok (.goto (-16), 3) := by decide +kernel
theorem dX3_settleAll_21 : decode cX3_settleAll 21 = .ok (.iconst 0, 1) := by decide +kernel
theorem dX3_settleAll_22 : decode cX3_settleAll 22 = .ok (.istore_n 1, 1) := by decide +kernel
theorem dX3_settleAll_23 : decode cX3_settleAll 23 = .ok (.iload_n 1, 1) := by decide +kernel
theorem dX3_settleAll_24 : decode cX3_settleAll 24 = .ok (.aload_n 0, 1) := by decide +kernel
theorem dX3_settleAll_25 : decode cX3_settleAll 25 = .ok (.getfield 21, 3) := by decide +kernel
theorem dX3_settleAll_28 : decode cX3_settleAll 28 = .ok (.if_icmp .ge 14, 3) := by decide +kernel
theorem dX3_settleAll_31 : decode cX3_settleAll 31 = .ok (.aload_n 0, 1) := by decide +kernel
theorem dX3_settleAll_32 : decode cX3_settleAll 32 = .ok (.iload_n 1, 1) := by decide +kernel
theorem dX3_settleAll_33 : decode cX3_settleAll 33 = .ok (.invokevirtual 57, 3) := by decide +kernel
theorem dX3_settleAll_36 : decode cX3_settleAll 36 = .ok (.iinc 1 1, 3) := by decide +kernel
theorem dX3_settleAll_39 : decode cX3_settleAll 39 = .ok (.goto (-16), 3) := by decide +kernel
theorem dX3_settleAll_42 : decode cX3_settleAll 42 = .ok (.return_, 1) := by decide +kernel
theorem dX3_hasBucket_0 : decode cX3_hasBucket 0 = .ok (.iload_n 1, 1) := by decide +kernel
theorem dX3_hasBucket_1 : decode cX3_hasBucket 1 = .ok (.ifCond .lt 15, 3) := by decide +kernel
theorem dX3_hasBucket_4 : decode cX3_hasBucket 4 = .ok (.iload_n 1, 1) := by decide +kernel
theorem dX3_hasBucket_5 : decode cX3_hasBucket 5 = .ok (.aload_n 0, 1) := by decide +kernel
theorem dX3_hasBucket_6 : decode cX3_hasBucket 6 = .ok (.getfield 21, 3) := by decide +kernel
theorem dX3_hasBucket_9 : decode cX3_hasBucket 9 = .ok (.if_icmp .ge 7, 3) := by decide +kernel
theorem dX3_hasBucket_12 : decode cX3_hasBucket 12 = .ok (.iconst 1, 1) := by decide +kernel
theorem dX3_hasBucket_13 : decode cX3_hasBucket 13 = .ok (.goto 4, 3) := by decide +kernel
theorem dX3_hasBucket_16 : decode cX3_hasBucket 16 = .ok (.iconst 0, 1) := by decide +kernel
theorem dX3_hasBucket_17 : decode cX3_hasBucket 17 = .ok (.ireturn, 1) := by decide +kernel
set_option maxRecDepth 20000 in
theorem ggX3_hasStored_X3_hasBucket : GoodIn wsX3_hasStored wsX3_hasBucket := goodIn_r _ [5, 6, 7, 8, 9, 10, 11, 12, 13, 14, 15, 16, 17] (by decide +kernel) (by decide +kernel)
set_option maxRecDepth 20000 in
theorem gX3_hasStored_X3_hasBucket : GoodIn wsX3_hasStored (wsV RX3 60 RX3 yX3_hasBucket wsX3_hasBucket) := goodIn_app (goodIn_of _ (by decide +kernel)) ggX3_hasStored_X3_hasBucket
theorem dX3_hasStored_0 : decode cX3_hasStored 0 = .ok (.aload_n 0, 1) := by decide +kernel
theorem dX3_hasStored_1 : decode cX3_hasStored 1 = .ok (.iload_n 1, 1) := by decide +kernel
theorem dX3_hasStored_2 : decode cX3_hasStored 2 = .ok (.invokevirtual 60, 3) := by decide +kernel
theorem dX3_hasStored_5 : decode cX3_hasStored 5 = .ok (.ifCond .eq 17, 3) := by decide +kernel
theorem dX3_hasStored_8 : decode cX3_hasStored 8 = .ok (.iload_n 2, 1) := by decide +kernel
theorem dX3_hasStored_9 : decode cX3_hasStored 9 = .ok (.ifCond .lt 13, 3) := by decide +kernel
theorem dX3_hasStored_12 : decode cX3_hasStored 12 = .ok (.iload_n 2, 1) := by decide +kernel
theorem dX3_hasStored_13 : decode cX3_hasStored 13 = .ok (.bipush 25, 2) := by decide +kernel
theorem dX3_hasStored_15 : decode cX3_hasStored 15 = .ok (.if_icmp .ge 7, 3) := by decide +kernel
theorem dX3_hasStored_18 : decode cX3_hasStored 18 = .ok (.iconst 1, 1) := by decide +kernel
theorem dX3_hasStored_19 : decode cX3_hasStored 19 = .ok (.goto 4, 3) := by decide +kernel
theorem dX3_hasStored_22 : decode cX3_hasStored 22 = .ok (.iconst 0, 1) := by decide +kernel
theorem dX3_hasStored_23 : decode cX3_hasStored 23 = .ok (.ireturn, 1) := by decide +kernel
theorem dX3_storedWord_0 : decode cX3_storedWord 0 = .ok (.aload_n 0, 1) := by decide +kernel
theorem dX3_storedWord_1 : decode cX3_storedWord 1 = .ok (.getfield 27, 3) := by decide +kernel
theorem dX3_storedWord_4 : decode cX3_storedWord 4 = .ok (.iload_n 1, 1) := by decide +kernel
theorem dX3_storedWord_5 : decode cX3_storedWord 5 = .ok (.bipush 25, 2) := by decide +kernel
theorem dX3_storedWord_7 : decode cX3_storedWord 7 = .ok (.imul, 1) := by decide +kernel
theorem dX3_storedWord_8 : decode cX3_storedWord 8 = .ok (.iload_n 2, 1) := by decide +kernel
theorem dX3_storedWord_9 : decode cX3_storedWord 9 = .ok (.iadd, 1) := by decide +kernel
theorem dX3_storedWord_10 : decode cX3_storedWord 10 = .ok (.iaload, 1) := by decide +kernel
theorem dX3_storedWord_11 : decode cX3_storedWord 11 = .ok (.ireturn, 1) := by decide +kernel
theorem dX3_timesSealed_0 : decode cX3_timesSealed 0 = .ok (.aload_n 0, 1) := by decide +kernel
theorem dX3_timesSealed_1 : decode cX3_timesSealed 1 = .ok (.getfield 31, 3) := by decide +kernel
theorem dX3_timesSealed_4 : decode cX3_timesSealed 4 = .ok (.iload_n 1, 1) := by decide +kernel
theorem dX3_timesSealed_5 : decode cX3_timesSealed 5 = .ok (.iaload, 1) := by decide +kernel
theorem dX3_timesSealed_6 : decode cX3_timesSealed 6 = .ok (.ireturn, 1) := by decide +kernel
theorem dX3_countHeld_0 : decode cX3_countHeld 0 = .ok (.iconst 0, 1) := by decide +kernel
theorem dX3_countHeld_1 : decode cX3_countHeld 1 = .ok (.istore_n 1, 1) := by decide +kernel
theorem dX3_countHeld_2 : decode cX3_countHeld 2 = .ok (.iconst 0, 1) := by decide +kernel
theorem dX3_countHeld_3 : decode cX3_countHeld 3 = .ok (.istore_n 2, 1) := by decide +kernel
theorem dX3_countHeld_4 : decode cX3_countHeld 4 = .ok (.iload_n 2, 1) := by decide +kernel
theorem dX3_countHeld_5 : decode cX3_countHeld 5 = .ok (.aload_n 0, 1) := by decide +kernel
theorem dX3_countHeld_6 : decode cX3_countHeld 6 = .ok (.getfield 24, 3) := by decide +kernel
theorem dX3_countHeld_9 : decode cX3_countHeld 9 = .ok (.if_icmp .ge 21, 3) := by decide +kernel
theorem dX3_countHeld_12 : decode cX3_countHeld 12 = .ok (.aload_n 0, 1) := by decide +kernel
theorem dX3_countHeld_13 : decode cX3_countHeld 13 = .ok (.getfield 34, 3) := by decide +kernel
theorem dX3_countHeld_16 : decode cX3_countHeld 16 = .ok (.iload_n 2, 1) := by decide +kernel
theorem dX3_countHeld_17 : decode cX3_countHeld 17 = .ok (.baload, 1) := by decide +kernel
theorem dX3_countHeld_18 : decode cX3_countHeld 18 = .ok (.ifCond .eq 6, 3) := by decide +kernel
theorem dX3_countHeld_21 : decode cX3_countHeld 21 = .ok (.iinc 1 1, 3) := by decide +kernel
theorem dX3_countHeld_24 : decode cX3_countHeld 24 = .ok (.iinc 2 1, 3) := by decide +kernel
theorem dX3_countHeld_27 : decode cX3_countHeld 27 = .ok (.goto (-23), 3) := by decide +kernel
theorem dX3_countHeld_30 : decode cX3_countHeld 30 = .ok (.iload_n 1, 1) := by decide +kernel
theorem dX3_countHeld_31 : decode cX3_countHeld 31 = .ok (.ireturn, 1) := by decide +kernel
set_option maxRecDepth 20000 in
theorem ggX3_spoil_X3_isWhole : GoodIn wsX3_spoil wsX3_isWhole := goodIn_r _ [6, 1, 7, 8, 9, 5, 10, 11, 12, 13, 14, 15, 16, 17, 18, 19, 20, 21, 22, 23, 24, 25, 26, 27, 28, 29, 30, 31, 32, 33, 34] (by decide +kernel) (by decide +kernel)
set_option maxRecDepth 20000 in
theorem gX3_spoil_X3_isWhole : GoodIn wsX3_spoil (wsV RX3 64 RX3 yX3_isWhole wsX3_isWhole) := goodIn_app (goodIn_of _ (by decide +kernel)) ggX3_spoil_X3_isWhole
theorem dX3_spoil_0 : decode cX3_spoil 0 = .ok (.iload_n 1, 1) := by decide +kernel
theorem dX3_spoil_1 : decode cX3_spoil 1 = .ok (.bipush 25, 2) := by decide +kernel
theorem dX3_spoil_3 : decode cX3_spoil 3 = .ok (.imul, 1) := by decide +kernel
theorem dX3_spoil_4 : decode cX3_spoil 4 = .ok (.iload_n 2, 1) := by decide +kernel
theorem dX3_spoil_5 : decode cX3_spoil 5 = .ok (.iadd, 1) := by decide +kernel
theorem dX3_spoil_6 : decode cX3_spoil 6 = .ok (.istore 4, 2) := by decide +kernel
theorem dX3_spoil_8 : decode cX3_spoil 8 = .ok (.aload_n 0, 1) := by decide +kernel
theorem dX3_spoil_9 : decode cX3_spoil 9 = .ok (.getfield 27, 3) := by decide +kernel
theorem dX3_spoil_12 : decode cX3_spoil 12 = .ok (.iload 4, 2) := by decide +kernel
theorem dX3_spoil_14 : decode cX3_spoil 14 = .ok (.iaload, 1) := by decide +kernel
theorem dX3_spoil_15 : decode cX3_spoil 15 = .ok (.istore 5, 2) := by decide +kernel
theorem dX3_spoil_17 : decode cX3_spoil 17 = .ok (.aload_n 0, 1) := by decide +kernel
theorem dX3_spoil_18 : decode cX3_spoil 18 = .ok (.getfield 27, 3) := by decide +kernel
theorem dX3_spoil_21 : decode cX3_spoil 21 = .ok (.iload 4, 2) := by decide +kernel
theorem dX3_spoil_23 : decode cX3_spoil 23 = .ok (.iload_n 3, 1) := by decide +kernel
theorem dX3_spoil_24 : decode cX3_spoil 24 = .ok (.iastore, 1) := by decide +kernel
theorem dX3_spoil_25 : decode cX3_spoil 25 = .ok (.aload_n 0, 1) := by decide +kernel
theorem dX3_spoil_26 : decode cX3_spoil 26 = .ok (.iload_n 1, 1) := by decide +kernel
theorem dX3_spoil_27 : decode cX3_spoil 27 = .ok (.invokevirtual 64, 3) := by decide +kernel
theorem dX3_spoil_30 : decode cX3_spoil 30 = .ok (.ifCond .eq 14, 3) := by decide +kernel
theorem dX3_spoil_33 : decode cX3_spoil 33 = .ok (.aload_n 0, 1) := by decide +kernel
theorem dX3_spoil_34 : decode cX3_spoil 34 = .ok (.getfield 27, 3) := by decide +kernel
theorem dX3_spoil_37 : decode cX3_spoil 37 = .ok (.iload 4, 2) := by decide +kernel
theorem dX3_spoil_39 : decode cX3_spoil 39 = .ok (.iload 5, 2) := by decide +kernel
theorem dX3_spoil_41 : decode cX3_spoil 41 = .ok (.iastore, 1) := by decide +kernel
theorem dX3_spoil_42 : decode cX3_spoil 42 = .ok (.iconst 0, 1) := by decide +kernel
theorem dX3_spoil_43 : decode cX3_spoil 43 = .ok (.ireturn, 1) := by decide +kernel
theorem dX3_spoil_44 : decode cX3_spoil 44 = .ok (.iconst 1, 1) := by decide +kernel
theorem dX3_spoil_45 : decode cX3_spoil 45 = .ok (.ireturn, 1) := by decide +kernel
theorem dX3_moveTo_0 : decode cX3_moveTo 0 = .ok (.aload_n 0, 1) := by decide +kernel
theorem dX3_moveTo_1 : decode cX3_moveTo 1 = .ok (.getfield 38, 3) := by decide +kernel
theorem dX3_moveTo_4 : decode cX3_moveTo 4 = .ok (.iload_n 1, 1) := by decide +kernel
theorem dX3_moveTo_5 : decode cX3_moveTo 5 = .ok (.iload_n 2, 1) := by decide +kernel
theorem dX3_moveTo_6 : decode cX3_moveTo 6 = .ok (.iastore, 1) := by decide +kernel
theorem dX3_moveTo_7 : decode cX3_moveTo 7 = .ok (.return_, 1) := by decide +kernel
theorem dX3_wordOf_0 : decode cX3_wordOf 0 = .ok (.aload_n 0, 1) := by decide +kernel
theorem dX3_wordOf_1 : decode cX3_wordOf 1 = .ok (.getfield 41, 3) := by decide +kernel
theorem dX3_wordOf_4 : decode cX3_wordOf 4 = .ok (.iload_n 1, 1) := by decide +kernel
theorem dX3_wordOf_5 : decode cX3_wordOf 5 = .ok (.iconst 4, 1) := by decide +kernel
theorem dX3_wordOf_6 : decode cX3_wordOf 6 = .ok (.imul, 1) := by decide +kernel
theorem dX3_wordOf_7 : decode cX3_wordOf 7 = .ok (.iload_n 2, 1) := by decide +kernel
theorem dX3_wordOf_8 : decode cX3_wordOf 8 = .ok (.iadd, 1) := by decide +kernel
theorem dX3_wordOf_9 : decode cX3_wordOf 9 = .ok (.iaload, 1) := by decide +kernel
theorem dX3_wordOf_10 : decode cX3_wordOf 10 = .ok (.ireturn, 1) := by decide +kernel
theorem dX3_setWord_0 : decode cX3_setWord 0 = .ok (.aload_n 0, 1) := by decide +kernel
theorem dX3_setWord_1 : decode cX3_setWord 1 = .ok (.getfield 41, 3) := by decide +kernel
theorem dX3_setWord_4 : decode cX3_setWord 4 = .ok (.iload_n 1, 1) := by decide +kernel
theorem dX3_setWord_5 : decode cX3_setWord 5 = .ok (.iconst 4, 1) := by decide +kernel
theorem dX3_setWord_6 : decode cX3_setWord 6 = .ok (.imul, 1) := by decide +kernel
theorem dX3_setWord_7 : decode cX3_setWord 7 = .ok (.iload_n 2, 1) := by decide +kernel
theorem dX3_setWord_8 : decode cX3_setWord 8 = .ok (.iadd, 1) := by decide +kernel
theorem dX3_setWord_9 : decode cX3_setWord 9 = .ok (.iload_n 3, 1) := by decide +kernel
theorem dX3_setWord_10 : decode cX3_setWord 10 = .ok (.iastore, 1) := by decide +kernel
theorem dX3_setWord_11 : decode cX3_setWord 11 = .ok (.return_, 1) := by decide +kernel
set_option maxRecDepth 20000 in
theorem ggX3_clearWords_X3_setWord : GoodIn wsX3_clearWords wsX3_setWord := goodIn_r _ [5, 6, 7, 8, 9, 10, 11, 12, 13, 14, 15, 16, 17] (by decide +kernel) (by decide +kernel)
set_option maxRecDepth 20000 in
theorem gX3_clearWords_X3_setWord : GoodIn wsX3_clearWords (wsV RX3 67 RX3 yX3_setWord wsX3_setWord) := goodIn_app (goodIn_of _ (by decide +kernel)) ggX3_clearWords_X3_setWord
theorem dX3_clearWords_0 : decode cX3_clearWords 0 = .ok (.iconst 0, 1) := by decide +kernel
theorem dX3_clearWords_1 : decode cX3_clearWords 1 = .ok (.istore_n 2, 1) := by decide +kernel
theorem dX3_clearWords_2 : decode cX3_clearWords 2 = .ok (.iload_n 2, 1) := by decide +kernel
theorem dX3_clearWords_3 : decode cX3_clearWords 3 = .ok (.iconst 4, 1) := by decide +kernel
theorem dX3_clearWords_4 : decode cX3_clearWords 4 = .ok (.if_icmp .ge 16, 3) := by decide +kernel
theorem dX3_clearWords_7 : decode cX3_clearWords 7 = .ok (.aload_n 0, 1) := by decide +kernel
theorem dX3_clearWords_8 : decode cX3_clearWords 8 = .ok (.iload_n 1, 1) := by decide +kernel
theorem dX3_clearWords_9 : decode cX3_clearWords 9 = .ok (.iload_n 2, 1) := by decide +kernel
theorem dX3_clearWords_10 : decode cX3_clearWords 10 = .ok (.iconst 0, 1) := by decide +kernel
theorem dX3_clearWords_11 : decode cX3_clearWords 11 = .ok (.invokevirtual 67, 3) := by decide +kernel
theorem dX3_clearWords_14 : decode cX3_clearWords 14 = .ok (.iinc 2 1, 3) := by decide +kernel
theorem dX3_clearWords_17 : decode cX3_clearWords 17 = .ok (.goto (-15), 3) := by decide +kernel
theorem dX3_clearWords_20 : decode cX3_clearWords 20 = .ok (.return_, 1) := by decide +kernel
set_option maxRecDepth 20000 in
theorem ggX3_take_X3_bucketOver : GoodIn wsX3_take wsX3_bucketOver := goodIn_r _ [6, 7, 53, 54, 55, 56, 57, 58, 59, 60, 61, 62, 63] (by decide +kernel) (by decide +kernel)
set_option maxRecDepth 20000 in
theorem gX3_take_X3_bucketOver : GoodIn wsX3_take (wsV RX3 71 RX3 yX3_bucketOver wsX3_bucketOver) := goodIn_app (goodIn_of _ (by decide +kernel)) ggX3_take_X3_bucketOver
set_option maxRecDepth 20000 in
theorem ggX3_take_X3_isWhole : GoodIn wsX3_take wsX3_isWhole := goodIn_r _ [11, 12, 13, 14, 15, 5, 16, 17, 18, 19, 20, 21, 22, 23, 24, 25, 26, 27, 28, 29, 53, 54, 55, 56, 57, 58, 59, 60, 61, 62, 63] (by decide +kernel) (by decide +kernel)
set_option maxRecDepth 20000 in
theorem gX3_take_X3_isWhole : GoodIn wsX3_take (wsV RX3 64 RX3 yX3_isWhole wsX3_isWhole) := goodIn_app (goodIn_of _ (by decide +kernel)) ggX3_take_X3_isWhole
set_option maxRecDepth 20000 in
theorem ggX3_take_X3_unload : GoodIn wsX3_take wsX3_unload := goodIn_r _ [33, 12, 34, 35, 36, 5, 37, 18, 19, 20, 21, 22, 23, 24, 25, 26, 27, 28, 29, 38, 39, 40, 41, 42, 43, 44, 45, 46, 47, 48, 49, 50, 51, 52, 53, 54, 55, 56, 57, 58, 59, 60, 61, 62, 63] (by decide +kernel) (by decide +kernel)
set_option maxRecDepth 20000 in
theorem gX3_take_X3_unload : GoodIn wsX3_take (wsV RX3 75 RX3 yX3_unload wsX3_unload) := goodIn_app (goodIn_of _ (by decide +kernel)) ggX3_take_X3_unload
theorem dX3_take_0 : decode cX3_take 0 = .ok (.iconst 0, 1) := by decide +kernel
theorem dX3_take_1 : decode cX3_take 1 = .ok (.istore_n 2, 1) := by decide +kernel
theorem dX3_take_2 : decode cX3_take 2 = .ok (.iload_n 2, 1) := by decide +kernel
theorem dX3_take_3 : decode cX3_take 3 = .ok (.aload_n 0, 1) := by decide +kernel
theorem dX3_take_4 : decode cX3_take 4 = .ok (.getfield 18, 3) := by decide +kernel
theorem dX3_take_7 : decode cX3_take 7 = .ok (.if_icmp .ge 24, 3) := by decide +kernel
theorem dX3_take_10 : decode cX3_take 10 = .ok (.aload_n 0, 1) := by decide +kernel
theorem dX3_take_11 : decode cX3_take 11 = .ok (.aload_n 0, 1) := by decide +kernel
theorem dX3_take_12 : decode cX3_take 12 = .ok (.iload_n 1, 1) := by decide +kernel
theorem dX3_take_13 : decode cX3_take 13 = .ok (.iload_n 2, 1) := by decide +kernel
theorem dX3_take_14 : decode cX3_take 14 = .ok (.invokevirtual 71, 3) := by decide +kernel
theorem dX3_take_17 : decode cX3_take 17 = .ok (.invokevirtual 64, 3) := by decide +kernel
theorem dX3_take_20 : decode cX3_take 20 = .ok (.ifCond .ne 5, 3) := by decide +kernel
theorem dX3_take_23 : decode cX3_take 23 = .ok (.iconst 0, 1) := by decide +kernel
theorem dX3_take_24 : decode cX3_take 24 = .ok (.ireturn, 1) := by decide +kernel
theorem dX3_take_25 : decode cX3_take 25 = .ok (.iinc 2 1, 3) := by decide +kernel
theorem dX3_take_28 : decode cX3_take 28 = .ok (.goto (-26), 3) := by decide +kernel
theorem dX3_take_31 : decode cX3_take 31 = .ok (.iconst 0, 1) := by decide +kernel
theorem dX3_take_32 : decode cX3_take 32 = .ok (.istore_n 2, 1) := by decide +kernel
theorem dX3_take_33 : decode cX3_take 33 = .ok (.iload_n 2, 1) := by decide +kernel
theorem dX3_take_34 : decode cX3_take 34 = .ok (.aload_n 0, 1) := by decide +kernel
theorem dX3_take_35 : decode cX3_take 35 = .ok (.getfield 18, 3) := by decide +kernel
theorem dX3_take_38 : decode cX3_take 38 = .ok (.if_icmp .ge 19, 3) := by decide +kernel
theorem dX3_take_41 : decode cX3_take 41 = .ok (.aload_n 0, 1) := by decide +kernel
theorem dX3_take_42 : decode cX3_take 42 = .ok (.aload_n 0, 1) := by decide +kernel
theorem dX3_take_43 : decode cX3_take 43 = .ok (.iload_n 1, 1) := by decide +kernel
theorem dX3_take_44 : decode cX3_take 44 = .ok (.iload_n 2, 1) := by decide +kernel
theorem dX3_take_45 : decode cX3_take 45 = .ok (.invokevirtual 71, 3) := by decide +kernel
theorem dX3_take_48 : decode cX3_take 48 = .ok (.invokevirtual 75, 3) := by decide +kernel
theorem dX3_take_51 : decode cX3_take 51 = .ok (.iinc 2 1, 3) := by decide +kernel
theorem dX3_take_54 : decode cX3_take 54 = .ok (.goto (-21), 3) := by decide +kernel
theorem dX3_take_57 : decode cX3_take 57 = .ok (.iconst 1, 1) := by decide +kernel
theorem dX3_take_58 : decode cX3_take 58 = .ok (.ireturn, 1) := by decide +kernel
set_option maxRecDepth 20000 in
theorem ggX3_putBack_X3_bucketOver : GoodIn wsX3_putBack wsX3_bucketOver := goodIn_r _ [7, 8, 53, 54, 55, 56, 57, 58, 59, 60, 61, 62, 63] (by decide +kernel) (by decide +kernel)
set_option maxRecDepth 20000 in
theorem gX3_putBack_X3_bucketOver : GoodIn wsX3_putBack (wsV RX3 71 RX3 yX3_bucketOver wsX3_bucketOver) := goodIn_app (goodIn_of _ (by decide +kernel)) ggX3_putBack_X3_bucketOver
set_option maxRecDepth 20000 in
theorem ggX3_putBack_X3_load : GoodIn wsX3_putBack wsX3_load := goodIn_r _ [12, 13, 14, 15, 3, 4, 5, 6, 7, 8, 16, 17, 18, 19, 20, 21, 22, 23, 24, 25, 26, 27, 28, 53, 54, 55, 56, 57, 58, 59, 60, 61, 62, 63] (by decide +kernel) (by decide +kernel)
set_option maxRecDepth 20000 in
theorem gX3_putBack_X3_load : GoodIn wsX3_putBack (wsV RX3 78 RX3 yX3_load wsX3_load) := goodIn_app (goodIn_of _ (by decide +kernel)) ggX3_putBack_X3_load
set_option maxRecDepth 20000 in
theorem ggX3_putBack_X3_seal : GoodIn wsX3_putBack wsX3_seal := goodIn_r _ [32, 20, 33, 34, 35, 6, 36, 37, 38, 39, 40, 41, 42, 43, 2, 44, 45, 46, 47, 48, 49, 50, 51, 52, 53, 54, 55, 56, 57, 58, 59, 60, 61, 62, 63] (by decide +kernel) (by decide +kernel)
set_option maxRecDepth 20000 in
theorem gX3_putBack_X3_seal : GoodIn wsX3_putBack (wsV RX3 57 RX3 yX3_seal wsX3_seal) := goodIn_app (goodIn_of _ (by decide +kernel)) ggX3_putBack_X3_seal
theorem dX3_putBack_0 : decode cX3_putBack 0 = .ok (.iconst 0, 1) := by decide +kernel
theorem dX3_putBack_1 : decode cX3_putBack 1 = .ok (.istore_n 2, 1) := by decide +kernel
theorem dX3_putBack_2 : decode cX3_putBack 2 = .ok (.iload_n 2, 1) := by decide +kernel
theorem dX3_putBack_3 : decode cX3_putBack 3 = .ok (.aload_n 0, 1) := by decide +kernel
theorem dX3_putBack_4 : decode cX3_putBack 4 = .ok (.getfield 18, 3) := by decide +kernel
theorem dX3_putBack_7 : decode cX3_putBack 7 = .ok (.if_icmp .ge 37, 3) := by decide +kernel
theorem dX3_putBack_10 : decode cX3_putBack 10 = .ok (.aload_n 0, 1) := by decide +kernel
theorem dX3_putBack_11 : decode cX3_putBack 11 = .ok (.iload_n 1, 1) := by decide +kernel
theorem dX3_putBack_12 : decode cX3_putBack 12 = .ok (.iload_n 2, 1) := by decide +kernel
theorem dX3_putBack_13 : decode cX3_putBack 13 = .ok (.invokevirtual 71, 3) := by decide +kernel
theorem dX3_putBack_16 : decode cX3_putBack 16 = .ok (.istore_n 3, 1) := by decide +kernel
theorem dX3_putBack_17 : decode cX3_putBack 17 = .ok (.aload_n 0, 1) := by decide +kernel
theorem dX3_putBack_18 : decode cX3_putBack 18 = .ok (.iload_n 3, 1) := by decide +kernel
theorem dX3_putBack_19 : decode cX3_putBack 19 = .ok (.iload_n 2, 1) := by decide +kernel
theorem dX3_putBack_20 : decode cX3_putBack 20 = .ok (.invokevirtual 78, 3) := by decide +kernel
theorem dX3_putBack_23 : decode cX3_putBack 23 = .ok (.aload_n 0, 1) := by decide +kernel
theorem dX3_putBack_24 : decode cX3_putBack 24 = .ok (.getfield 31, 3) := by decide +kernel
theorem dX3_putBack_27 : decode cX3_putBack 27 = .ok (.iload_n 3, 1) := by decide +kernel
theorem dX3_putBack_28 : decode cX3_putBack 28 = .ok (.dup2, 1) := by decide +kernel
theorem dX3_putBack_29 : decode cX3_putBack 29 = .ok (.iaload, 1) := by decide +kernel
theorem dX3_putBack_30 : decode cX3_putBack 30 = .ok (.iconst 1, 1) := by decide +kernel
theorem dX3_putBack_31 : decode cX3_putBack 31 = .ok (.iadd, 1) := by decide +kernel
theorem dX3_putBack_32 : decode cX3_putBack 32 = .ok (.iastore, 1) := by decide +kernel
theorem dX3_putBack_33 : decode cX3_putBack 33 = .ok (.aload_n 0, 1) := by decide +kernel
theorem dX3_putBack_34 : decode cX3_putBack 34 = .ok (.iload_n 3, 1) := by decide +kernel
theorem dX3_putBack_35 : decode cX3_putBack 35 = .ok (.invokevirtual 57, 3) := by decide +kernel
theorem dX3_putBack_38 : decode cX3_putBack 38 = .ok (.iinc 2 1, 3) := by decide +kernel
theorem dX3_putBack_41 : decode cX3_putBack 41 = .ok (.goto (-39), 3) := by decide +kernel
theorem dX3_putBack_44 : decode cX3_putBack 44 = .ok (.return_, 1) := by decide +kernel
theorem dX3_bucketOver_0 : decode cX3_bucketOver 0 = .ok (.aload_n 0, 1) := by decide +kernel
theorem dX3_bucketOver_1 : decode cX3_bucketOver 1 = .ok (.getfield 15, 3) := by decide +kernel
theorem dX3_bucketOver_4 : decode cX3_bucketOver 4 = .ok (.iload_n 1, 1) := by decide +kernel
theorem dX3_bucketOver_5 : decode cX3_bucketOver 5 = .ok (.iadd, 1) := by decide +kernel
theorem dX3_bucketOver_6 : decode cX3_bucketOver 6 = .ok (.iload_n 2, 1) := by decide +kernel
theorem dX3_bucketOver_7 : decode cX3_bucketOver 7 = .ok (.ishr, 1) := by decide +kernel
theorem dX3_bucketOver_8 : decode cX3_bucketOver 8 = .ok (.iconst 1, 1) := by decide +kernel
theorem dX3_bucketOver_9 : decode cX3_bucketOver 9 = .ok (.isub, 1) := by decide +kernel
theorem dX3_bucketOver_10 : decode cX3_bucketOver 10 = .ok (.ireturn, 1) := by decide +kernel
set_option maxRecDepth 20000 in
theorem ggX3_settle_X3_bucketOver : GoodIn wsX3_settle wsX3_bucketOver := goodIn_r _ [8, 9, 23, 24, 25, 26, 27, 28, 29, 30, 31, 32, 33] (by decide +kernel) (by decide +kernel)
set_option maxRecDepth 20000 in
theorem gX3_settle_X3_bucketOver : GoodIn wsX3_settle (wsV RX3 71 RX3 yX3_bucketOver wsX3_bucketOver) := goodIn_app (goodIn_of _ (by decide +kernel)) ggX3_settle_X3_bucketOver
set_option maxRecDepth 20000 in
theorem ggX3_settle_X3_slotStart : GoodIn wsX3_settle wsX3_slotStart := goodIn_r _ [12] (by decide +kernel) (by decide +kernel)
set_option maxRecDepth 20000 in
theorem gX3_settle_X3_slotStart : GoodIn wsX3_settle (va_wsS RX3 82 yX3_slotStart wsX3_slotStart) := goodIn_app (goodIn_of _ (by decide +kernel)) ggX3_settle_X3_slotStart
set_option maxRecDepth 20000 in
theorem ggX3_settle_X3_place : GoodIn wsX3_settle wsX3_place := goodIn_r _ [16, 3, 2, 17, 10, 11, 7, 12, 18, 19, 20, 21, 22, 23, 24, 25, 26, 27, 28, 29, 30, 31, 32, 33] (by decide +kernel) (by decide +kernel)
set_option maxRecDepth 20000 in
theorem gX3_settle_X3_place : GoodIn wsX3_settle (wsV RX3 85 RX3 yX3_place wsX3_place) := goodIn_app (goodIn_of _ (by decide +kernel)) ggX3_settle_X3_place
theorem dX3_settle_0 : decode cX3_settle 0 = .ok (.iconst 0, 1) := by decide +kernel
theorem dX3_settle_1 : decode cX3_settle 1 = .ok (.istore_n 2, 1) := by decide +kernel
theorem dX3_settle_2 : decode cX3_settle 2 = .ok (.iload_n 2, 1) := by decide +kernel
theorem dX3_settle_3 : decode cX3_settle 3 = .ok (.aload_n 0, 1) := by decide +kernel
theorem dX3_settle_4 : decode cX3_settle 4 = .ok (.getfield 18, 3) := by decide +kernel
theorem dX3_settle_7 : decode cX3_settle 7 = .ok (.if_icmp .ge 59, 3) := by decide +kernel
theorem dX3_settle_10 : decode cX3_settle 10 = .ok (.aload_n 0, 1) := by decide +kernel
theorem dX3_settle_11 : decode cX3_settle 11 = .ok (.aload_n 0, 1) := by decide +kernel
theorem dX3_settle_12 : decode cX3_settle 12 = .ok (.getfield 38, 3) := by decide +kernel
theorem dX3_settle_15 : decode cX3_settle 15 = .ok (.iload_n 1, 1) := by decide +kernel
theorem dX3_settle_16 : decode cX3_settle 16 = .ok (.iaload, 1) := by decide +kernel
theorem dX3_settle_17 : decode cX3_settle 17 = .ok (.iload_n 2, 1) := by decide +kernel
theorem dX3_settle_18 : decode cX3_settle 18 = .ok (.invokevirtual 71, 3) := by decide +kernel
theorem dX3_settle_21 : decode cX3_settle 21 = .ok (.istore_n 3, 1) := by decide +kernel
theorem dX3_settle_22 : decode cX3_settle 22 = .ok (.iconst 0, 1) := by decide +kernel
theorem dX3_settle_23 : decode cX3_settle 23 = .ok (.istore 4, 2) := by decide +kernel
theorem dX3_settle_25 : decode cX3_settle 25 = .ok (.iload 4, 2) := by decide +kernel
theorem dX3_settle_27 : decode cX3_settle 27 = .ok (.iconst 4, 1) := by decide +kernel
theorem dX3_settle_28 : decode cX3_settle 28 = .ok (.if_icmp .ge 32, 3) := by decide +kernel
theorem dX3_settle_31 : decode cX3_settle 31 = .ok (.aload_n 0, 1) := by decide +kernel
theorem dX3_settle_32 : decode cX3_settle 32 = .ok (.getfield 27, 3) := by decide +kernel
theorem dX3_settle_35 : decode cX3_settle 35 = .ok (.iload_n 3, 1) := by decide +kernel
theorem dX3_settle_36 : decode cX3_settle 36 = .ok (.iload 4, 2) := by decide +kernel
theorem dX3_settle_38 : decode cX3_settle 38 = .ok (.invokestatic 82, 3) := by decide +kernel
theorem dX3_settle_41 : decode cX3_settle 41 = .ok (.iaload, 1) := by decide +kernel
theorem dX3_settle_42 : decode cX3_settle 42 = .ok (.ifCond .ne 12, 3) := by decide +kernel
theorem dX3_settle_45 : decode cX3_settle 45 = .ok (.aload_n 0, 1) := by decide +kernel
theorem dX3_settle_46 : decode cX3_settle 46 = .ok (.iload_n 1, 1) := by decide +kernel
theorem dX3_settle_47 : decode cX3_settle 47 = .ok (.iload_n 3, 1) := by decide +kernel
theorem dX3_settle_48 : decode cX3_settle 48 = .ok (.iload 4, 2) := by decide +kernel
theorem dX3_settle_50 : decode cX3_settle 50 = .ok (.invokevirtual 85, 3) := by decide +kernel
theorem dX3_settle_53 : decode cX3_settle 53 = .ok (.return_, 1) := by decide +kernel
theorem dX3_settle_54 : decode cX3_settle 54 = .ok (.iinc 4 1, 3) := by decide +kernel
theorem dX3_settle_57 : decode cX3_settle 57 = .ok (.goto (-32), 3) := by decide +kernel
theorem dX3_settle_60 : decode cX3_settle 60 = .ok (.iinc 2 1, 3) := by decide +kernel
theorem dX3_settle_63 : decode cX3_settle 63 = .ok (.goto (-61), 3) := by decide +kernel
theorem dX3_settle_66 : decode cX3_settle 66 = .ok (.return_, 1) := by decide +kernel
set_option maxRecDepth 20000 in
theorem ggX3_load_X3_bucketOver : GoodIn wsX3_load wsX3_bucketOver := goodIn_r _ [8, 9, 23, 24, 25, 26, 27, 28, 29, 30, 31, 32, 33] (by decide +kernel) (by decide +kernel)
set_option maxRecDepth 20000 in
theorem gX3_load_X3_bucketOver : GoodIn wsX3_load (wsV RX3 71 RX3 yX3_bucketOver wsX3_bucketOver) := goodIn_app (goodIn_of _ (by decide +kernel)) ggX3_load_X3_bucketOver
set_option maxRecDepth 20000 in
theorem ggX3_load_X3_place : GoodIn wsX3_load wsX3_place := goodIn_r _ [13, 14, 3, 2, 15, 16, 7, 17, 18, 19, 20, 21, 22, 23, 24, 25, 26, 27, 28, 29, 30, 31, 32, 33] (by decide +kernel) (by decide +kernel)
set_option maxRecDepth 20000 in
theorem gX3_load_X3_place : GoodIn wsX3_load (wsV RX3 85 RX3 yX3_place wsX3_place) := goodIn_app (goodIn_of _ (by decide +kernel)) ggX3_load_X3_place
theorem dX3_load_0 : decode cX3_load 0 = .ok (.iconst 0, 1) := by decide +kernel
theorem dX3_load_1 : decode cX3_load 1 = .ok (.istore_n 3, 1) := by decide +kernel
theorem dX3_load_2 : decode cX3_load 2 = .ok (.iconst 0, 1) := by decide +kernel
theorem dX3_load_3 : decode cX3_load 3 = .ok (.istore 4, 2) := by decide +kernel
theorem dX3_load_5 : decode cX3_load 5 = .ok (.iload 4, 2) := by decide +kernel
theorem dX3_load_7 : decode cX3_load 7 = .ok (.aload_n 0, 1) := by decide +kernel
theorem dX3_load_8 : decode cX3_load 8 = .ok (.getfield 24, 3) := by decide +kernel
theorem dX3_load_11 : decode cX3_load 11 = .ok (.if_icmp .ge 51, 3) := by decide +kernel
theorem dX3_load_14 : decode cX3_load 14 = .ok (.iload_n 3, 1) := by decide +kernel
theorem dX3_load_15 : decode cX3_load 15 = .ok (.iconst 4, 1) := by decide +kernel
theorem dX3_load_16 : decode cX3_load 16 = .ok (.if_icmp .ge 46, 3) := by decide +kernel
theorem dX3_load_19 : decode cX3_load 19 = .ok (.aload_n 0, 1) := by decide +kernel
theorem dX3_load_20 : decode cX3_load 20 = .ok (.getfield 34, 3) := by decide +kernel
theorem dX3_load_23 : decode cX3_load 23 = .ok (.iload 4, 2) := by decide +kernel
theorem dX3_load_25 : decode cX3_load 25 = .ok (.baload, 1) := by decide +kernel
theorem dX3_load_26 : decode cX3_load 26 = .ok (.ifCond .eq 30, 3) := by decide +kernel
theorem dX3_load_29 : decode cX3_load 29 = .ok (.aload_n 0, 1) := by decide +kernel
theorem dX3_load_30 : decode cX3_load 30 = .ok (.aload_n 0, 1) := by decide +kernel
theorem dX3_load_31 : decode cX3_load 31 = .ok (.getfield 38, 3) := by decide +kernel
theorem dX3_load_34 : decode cX3_load 34 = .ok (.iload 4, 2) := by decide +kernel
theorem dX3_load_36 : decode cX3_load 36 = .ok (.iaload, 1) := by decide +kernel
theorem dX3_load_37 : decode cX3_load 37 = .ok (.iload_n 2, 1) := by decide +kernel
theorem dX3_load_38 : decode cX3_load 38 = .ok (.invokevirtual 71, 3) := by decide +kernel
theorem dX3_load_41 : decode cX3_load 41 = .ok (.iload_n 1, 1) := by decide +kernel
theorem dX3_load_42 : decode cX3_load 42 = .ok (.if_icmp .ne 14, 3) := by decide +kernel
theorem dX3_load_45 : decode cX3_load 45 = .ok (.aload_n 0, 1) := by decide +kernel
theorem dX3_load_46 : decode cX3_load 46 = .ok (.iload 4, 2) := by decide +kernel
theorem dX3_load_48 : decode cX3_load 48 = .ok (.iload_n 1, 1) := by decide +kernel
theorem dX3_load_49 : decode cX3_load 49 = .ok (.iload_n 3, 1) := by decide +kernel
theorem dX3_load_50 : decode cX3_load 50 = .ok (.invokevirtual 85, 3) := by decide +kernel
theorem dX3_load_53 : decode cX3_load 53 = .ok (.iinc 3 1, 3) := by decide +kernel
theorem dX3_load_56 : decode cX3_load 56 = .ok (.iinc 4 1, 3) := by decide +kernel
theorem dX3_load_59 : decode cX3_load 59 = .ok (.goto (-54), 3) := by decide +kernel
theorem dX3_load_62 : decode cX3_load 62 = .ok (.return_, 1) := by decide +kernel
set_option maxRecDepth 20000 in
theorem ggX3_place_X3_slotStart : GoodIn wsX3_place wsX3_slotStart := goodIn_r _ [7] (by decide +kernel) (by decide +kernel)
set_option maxRecDepth 20000 in
theorem gX3_place_X3_slotStart : GoodIn wsX3_place (va_wsS RX3 82 yX3_slotStart wsX3_slotStart) := goodIn_app (goodIn_of _ (by decide +kernel)) ggX3_place_X3_slotStart
set_option maxRecDepth 20000 in
theorem ggX3_place_X3_wordOf : GoodIn wsX3_place wsX3_wordOf := goodIn_r _ [11, 12, 13, 14, 15, 16, 17, 18, 19, 20, 21, 22, 23] (by decide +kernel) (by decide +kernel)
set_option maxRecDepth 20000 in
theorem gX3_place_X3_wordOf : GoodIn wsX3_place (wsV RX3 88 RX3 yX3_wordOf wsX3_wordOf) := goodIn_app (goodIn_of _ (by decide +kernel)) ggX3_place_X3_wordOf
theorem dX3_place_0 : decode cX3_place 0 = .ok (.iload_n 2, 1) := by decide +kernel
theorem dX3_place_1 : decode cX3_place 1 = .ok (.iload_n 3, 1) := by decide +kernel
theorem dX3_place_2 : decode cX3_place 2 = .ok (.invokestatic 82, 3) := by decide +kernel
theorem dX3_place_5 : decode cX3_place 5 = .ok (.istore 4, 2) := by decide +kernel
theorem dX3_place_7 : decode cX3_place 7 = .ok (.aload_n 0, 1) := by decide +kernel
theorem dX3_place_8 : decode cX3_place 8 = .ok (.getfield 27, 3) := by decide +kernel
theorem dX3_place_11 : decode cX3_place 11 = .ok (.iload 4, 2) := by decide +kernel
theorem dX3_place_13 : decode cX3_place 13 = .ok (.iload_n 1, 1) := by decide +kernel
theorem dX3_place_14 : decode cX3_place 14 = .ok (.iconst 1, 1) := by decide +kernel
theorem dX3_place_15 : decode cX3_place 15 = .ok (.iadd, 1) := by decide +kernel
theorem dX3_place_16 : decode cX3_place 16 = .ok (.iastore, 1) := by decide +kernel
theorem dX3_place_17 : decode cX3_place 17 = .ok (.aload_n 0, 1) := by decide +kernel
theorem dX3_place_18 : decode cX3_place 18 = .ok (.getfield 27, 3) := by decide +kernel
theorem dX3_place_21 : decode cX3_place 21 = .ok (.iload 4, 2) := by decide +kernel
theorem dX3_place_23 : decode cX3_place 23 = .ok (.iconst 1, 1) := by decide +kernel
theorem dX3_place_24 : decode cX3_place 24 = .ok (.iadd, 1) := by decide +kernel
theorem dX3_place_25 : decode cX3_place 25 = .ok (.aload_n 0, 1) := by decide +kernel
theorem dX3_place_26 : decode cX3_place 26 = .ok (.getfield 38, 3) := by decide +kernel
theorem dX3_place_29 : decode cX3_place 29 = .ok (.iload_n 1, 1) := by decide +kernel
theorem dX3_place_30 : decode cX3_place 30 = .ok (.iaload, 1) := by decide +kernel
theorem dX3_place_31 : decode cX3_place 31 = .ok (.iastore, 1) := by decide +kernel
theorem dX3_place_32 : decode cX3_place 32 = .ok (.iconst 0, 1) := by decide +kernel
theorem dX3_place_33 : decode cX3_place 33 = .ok (.istore 5, 2) := by decide +kernel
theorem dX3_place_35 : decode cX3_place 35 = .ok (.iload 5, 2) := by decide +kernel
theorem dX3_place_37 : decode cX3_place 37 = .ok (.iconst 4, 1) := by decide +kernel
theorem dX3_place_38 : decode cX3_place 38 = .ok (.if_icmp .ge 28, 3) := by decide +kernel
theorem dX3_place_41 : decode cX3_place 41 = .ok (.aload_n 0, 1) := by decide +kernel
theorem dX3_place_42 : decode cX3_place 42 = .ok (.getfield 27, 3) := by decide +kernel
theorem dX3_place_45 : decode cX3_place 45 = .ok (.iload 4, 2) := by decide +kernel
theorem dX3_place_47 : decode cX3_place 47 = .ok (.iconst 2, 1) := by decide +kernel
theorem dX3_place_48 : decode cX3_place 48 = .ok (.iadd, 1) := by decide +kernel
theorem dX3_place_49 : decode cX3_place 49 = .ok (.iload 5, 2) := by decide +kernel
theorem dX3_place_51 : decode cX3_place 51 = .ok (.iadd, 1) := by decide +kernel
theorem dX3_place_52 : decode cX3_place 52 = .ok (.aload_n 0, 1) := by decide +kernel
theorem dX3_place_53 : decode cX3_place 53 = .ok (.iload_n 1, 1) := by decide +kernel
theorem dX3_place_54 : decode cX3_place 54 = .ok (.iload 5, 2) := by decide +kernel
theorem dX3_place_56 : decode cX3_place 56 = .ok (.invokevirtual 88, 3) := by decide +kernel
theorem dX3_place_59 : decode cX3_place 59 = .ok (.iastore, 1) := by decide +kernel
theorem dX3_place_60 : decode cX3_place 60 = .ok (.iinc 5 1, 3) := by decide +kernel
theorem dX3_place_63 : decode cX3_place 63 = .ok (.goto (-28), 3) := by decide +kernel
theorem dX3_place_66 : decode cX3_place 66 = .ok (.aload_n 0, 1) := by decide +kernel
theorem dX3_place_67 : decode cX3_place 67 = .ok (.getfield 34, 3) := by decide +kernel
theorem dX3_place_70 : decode cX3_place 70 = .ok (.iload_n 1, 1) := by decide +kernel
theorem dX3_place_71 : decode cX3_place 71 = .ok (.iconst 0, 1) := by decide +kernel
theorem dX3_place_72 : decode cX3_place 72 = .ok (.bastore, 1) := by decide +kernel
theorem dX3_place_73 : decode cX3_place 73 = .ok (.return_, 1) := by decide +kernel
set_option maxRecDepth 20000 in
theorem ggX3_unload_X3_maskWords : GoodIn wsX3_unload wsX3_maskWords := goodIn_r _ [6, 1, 7, 8, 9, 5, 10, 11, 12, 13, 14, 15, 16, 17, 18, 34, 35, 36, 37, 38, 39, 40, 41, 42, 43, 44] (by decide +kernel) (by decide +kernel)
set_option maxRecDepth 20000 in
theorem gX3_unload_X3_maskWords : GoodIn wsX3_unload (wsV RX3 91 RX3 yX3_maskWords wsX3_maskWords) := goodIn_app (goodIn_of _ (by decide +kernel)) ggX3_unload_X3_maskWords
set_option maxRecDepth 20000 in
theorem ggX3_unload_X3_slotStart : GoodIn wsX3_unload wsX3_slotStart := goodIn_r _ [21] (by decide +kernel) (by decide +kernel)
set_option maxRecDepth 20000 in
theorem gX3_unload_X3_slotStart : GoodIn wsX3_unload (va_wsS RX3 82 yX3_slotStart wsX3_slotStart) := goodIn_app (goodIn_of _ (by decide +kernel)) ggX3_unload_X3_slotStart
set_option maxRecDepth 20000 in
theorem ggX3_unload_X3_hold : GoodIn wsX3_unload wsX3_hold := goodIn_r _ [25, 1, 26, 27, 28, 29, 30, 31, 5, 32, 33, 34, 35, 36, 37, 38, 39, 40, 41, 42, 43, 44] (by decide +kernel) (by decide +kernel)
set_option maxRecDepth 20000 in
theorem gX3_unload_X3_hold : GoodIn wsX3_unload (wsV RX3 94 RX3 yX3_hold wsX3_hold) := goodIn_app (goodIn_of _ (by decide +kernel)) ggX3_unload_X3_hold
theorem dX3_unload_0 : decode cX3_unload 0 = .ok (.aload_n 0, 1) := by decide +kernel
theorem dX3_unload_1 : decode cX3_unload 1 = .ok (.iload_n 1, 1) := by decide +kernel
theorem dX3_unload_2 : decode cX3_unload 2 = .ok (.invokevirtual 91, 3) := by decide +kernel
theorem dX3_unload_5 : decode cX3_unload 5 = .ok (.iconst 0, 1) := by decide +kernel
theorem dX3_unload_6 : decode cX3_unload 6 = .ok (.istore_n 2, 1) := by decide +kernel
theorem dX3_unload_7 : decode cX3_unload 7 = .ok (.iload_n 2, 1) := by decide +kernel
theorem dX3_unload_8 : decode cX3_unload 8 = .ok (.iconst 4, 1) := by decide +kernel
theorem dX3_unload_9 : decode cX3_unload 9 = .ok (.if_icmp .ge 18, 3) := by decide +kernel
theorem dX3_unload_12 : decode cX3_unload 12 = .ok (.aload_n 0, 1) := by decide +kernel
theorem dX3_unload_13 : decode cX3_unload 13 = .ok (.iload_n 1, 1) := by decide +kernel
theorem dX3_unload_14 : decode cX3_unload 14 = .ok (.iload_n 2, 1) := by decide +kernel
theorem dX3_unload_15 : decode cX3_unload 15 = .ok (.invokestatic 82, 3) := by decide +kernel
theorem dX3_unload_18 : decode cX3_unload 18 = .ok (.invokevirtual 94, 3) := by decide +kernel
theorem dX3_unload_21 : decode cX3_unload 21 = .ok (.iinc 2 1, 3) := by decide +kernel
theorem dX3_unload_24 : decode cX3_unload 24 = .ok (.goto (-17), 3) := by decide +kernel
theorem dX3_unload_27 : decode cX3_unload 27 = .ok (.iload_n 1, 1) := by decide +kernel
theorem dX3_unload_28 : decode cX3_unload 28 = .ok (.bipush 25, 2) := by decide +kernel
theorem dX3_unload_30 : decode cX3_unload 30 = .ok (.imul, 1) := by decide +kernel
theorem dX3_unload_31 : decode cX3_unload 31 = .ok (.istore_n 2, 1) := by decide +kernel
theorem dX3_unload_32 : decode cX3_unload 32 = .ok (.iconst 0, 1) := by decide +kernel
theorem dX3_unload_33 : decode cX3_unload 33 = .ok (.istore_n 3, 1) := by decide +kernel
theorem dX3_unload_34 : decode cX3_unload 34 = .ok (.iload_n 3, 1) := by decide +kernel
theorem dX3_unload_35 : decode cX3_unload 35 = .ok (.bipush 25, 2) := by decide +kernel
theorem dX3_unload_37 : decode cX3_unload 37 = .ok (.if_icmp .ge 18, 3) := by decide +kernel
theorem dX3_unload_40 : decode cX3_unload 40 = .ok (.aload_n 0, 1) := by decide +kernel
theorem dX3_unload_41 : decode cX3_unload 41 = .ok (.getfield 27, 3) := by decide +kernel
theorem dX3_unload_44 : decode cX3_unload 44 = .ok (.iload_n 2, 1) := by decide +kernel
theorem dX3_unload_45 : decode cX3_unload 45 = .ok (.iload_n 3, 1) := by decide +kernel
theorem dX3_unload_46 : decode cX3_unload 46 = .ok (.iadd, 1) := by decide +kernel
theorem dX3_unload_47 : decode cX3_unload 47 = .ok (.iconst 0, 1) := by decide +kernel
theorem dX3_unload_48 : decode cX3_unload 48 = .ok (.iastore, 1) := by decide +kernel
theorem dX3_unload_49 : decode cX3_unload 49 = .ok (.iinc 3 1, 3) := by decide +kernel
theorem dX3_unload_52 : decode cX3_unload 52 = .ok (.goto (-18), 3) := by decide +kernel
theorem dX3_unload_55 : decode cX3_unload 55 = .ok (.return_, 1) := by decide +kernel
set_option maxRecDepth 20000 in
theorem ggX3_hold_X3_setWord : GoodIn wsX3_hold wsX3_setWord := goodIn_r _ [9, 10, 11, 12, 13, 14, 15, 16, 17, 18, 19, 20, 21] (by decide +kernel) (by decide +kernel)
set_option maxRecDepth 20000 in
theorem gX3_hold_X3_setWord : GoodIn wsX3_hold (wsV RX3 67 RX3 yX3_setWord wsX3_setWord) := goodIn_app (goodIn_of _ (by decide +kernel)) ggX3_hold_X3_setWord
theorem dX3_hold_0 : decode cX3_hold 0 = .ok (.aload_n 0, 1) := by decide +kernel
theorem dX3_hold_1 : decode cX3_hold 1 = .ok (.getfield 27, 3) := by decide +kernel
theorem dX3_hold_4 : decode cX3_hold 4 = .ok (.iload_n 1, 1) := by decide +kernel
theorem dX3_hold_5 : decode cX3_hold 5 = .ok (.iaload, 1) := by decide +kernel
theorem dX3_hold_6 : decode cX3_hold 6 = .ok (.iconst 1, 1) := by decide +kernel
theorem dX3_hold_7 : decode cX3_hold 7 = .ok (.isub, 1) := by decide +kernel
theorem dX3_hold_8 : decode cX3_hold 8 = .ok (.istore_n 2, 1) := by decide +kernel
theorem dX3_hold_9 : decode cX3_hold 9 = .ok (.iload_n 2, 1) := by decide +kernel
theorem dX3_hold_10 : decode cX3_hold 10 = .ok (.ifCond .lt 11, 3) := by decide +kernel
theorem dX3_hold_13 : decode cX3_hold 13 = .ok (.iload_n 2, 1) := by decide +kernel
theorem dX3_hold_14 : decode cX3_hold 14 = .ok (.aload_n 0, 1) := by decide +kernel
theorem dX3_hold_15 : decode cX3_hold 15 = .ok (.getfield 24, 3) := by decide +kernel
theorem dX3_hold_18 : decode cX3_hold 18 = .ok (.if_icmp .lt 4, 3) := by decide +kernel
theorem dX3_hold_21 : decode cX3_hold 21 = .ok (.return_, 1) := by decide +kernel
theorem dX3_hold_22 : decode cX3_hold 22 = .ok (.aload_n 0, 1) := by decide +kernel
theorem dX3_hold_23 : decode cX3_hold 23 = .ok (.getfield 34, 3) := by decide +kernel
theorem dX3_hold_26 : decode cX3_hold 26 = .ok (.iload_n 2, 1) := by decide +kernel
theorem dX3_hold_27 : decode cX3_hold 27 = .ok (.iconst 1, 1) := by decide +kernel
theorem dX3_hold_28 : decode cX3_hold 28 = .ok (.bastore, 1) := by decide +kernel
theorem dX3_hold_29 : decode cX3_hold 29 = .ok (.aload_n 0, 1) := by decide +kernel
theorem dX3_hold_30 : decode cX3_hold 30 = .ok (.getfield 38, 3) := by decide +kernel
theorem dX3_hold_33 : decode cX3_hold 33 = .ok (.iload_n 2, 1) := by decide +kernel
theorem dX3_hold_34 : decode cX3_hold 34 = .ok (.aload_n 0, 1) := by decide +kernel
theorem dX3_hold_35 : decode cX3_hold 35 = .ok (.getfield 27, 3) := by decide +kernel
theorem dX3_hold_38 : decode cX3_hold 38 = .ok (.iload_n 1, 1) := by decide +kernel
theorem dX3_hold_39 : decode cX3_hold 39 = .ok (.iconst 1, 1) := by decide +kernel
theorem dX3_hold_40 : decode cX3_hold 40 = .ok (.iadd, 1) := by decide +kernel
theorem dX3_hold_41 : decode cX3_hold 41 = .ok (.iaload, 1) := by decide +kernel
theorem dX3_hold_42 : decode cX3_hold 42 = .ok (.iastore, 1) := by decide +kernel
theorem dX3_hold_43 : decode cX3_hold 43 = .ok (.iconst 0, 1) := by decide +kernel
theorem dX3_hold_44 : decode cX3_hold 44 = .ok (.istore_n 3, 1) := by decide +kernel
theorem dX3_hold_45 : decode cX3_hold 45 = .ok (.iload_n 3, 1) := by decide +kernel
theorem dX3_hold_46 : decode cX3_hold 46 = .ok (.iconst 4, 1) := by decide +kernel
theorem dX3_hold_47 : decode cX3_hold 47 = .ok (.if_icmp .ge 25, 3) := by decide +kernel
theorem dX3_hold_50 : decode cX3_hold 50 = .ok (.aload_n 0, 1) := by decide +kernel
theorem dX3_hold_51 : decode cX3_hold 51 = .ok (.iload_n 2, 1) := by decide +kernel
theorem dX3_hold_52 : decode cX3_hold 52 = .ok (.iload_n 3, 1) := by decide +kernel
theorem dX3_hold_53 : decode cX3_hold 53 = .ok (.aload_n 0, 1) := by decide +kernel
theorem dX3_hold_54 : decode cX3_hold 54 = .ok (.getfield 27, 3) := by decide +kernel
theorem dX3_hold_57 : decode cX3_hold 57 = .ok (.iload_n 1, 1) := by decide +kernel
theorem dX3_hold_58 : decode cX3_hold 58 = .ok (.iconst 2, 1) := by decide +kernel
theorem dX3_hold_59 : decode cX3_hold 59 = .ok (.iadd, 1) := by decide +kernel
theorem dX3_hold_60 : decode cX3_hold 60 = .ok (.iload_n 3, 1) := by decide +kernel
theorem dX3_hold_61 : decode cX3_hold 61 = .ok (.iadd, 1) := by decide +kernel
theorem dX3_hold_62 : decode cX3_hold 62 = .ok (.iaload, 1) := by decide +kernel
theorem dX3_hold_63 : decode cX3_hold 63 = .ok (.invokevirtual 67, 3) := by decide +kernel
theorem dX3_hold_66 : decode cX3_hold 66 = .ok (.iinc 3 1, 3) := by decide +kernel
theorem dX3_hold_69 : decode cX3_hold 69 = .ok (.goto (-24), 3) := by decide +kernel
theorem dX3_hold_72 : decode cX3_hold 72 = .ok (.return_, 1) := by decide +kernel
theorem dX3_slotStart_0 : decode cX3_slotStart 0 = .ok (.iload_n 0, 1) := by decide +kernel
theorem dX3_slotStart_1 : decode cX3_slotStart 1 = .ok (.bipush 25, 2) := by decide +kernel
theorem dX3_slotStart_3 : decode cX3_slotStart 3 = .ok (.imul, 1) := by decide +kernel
theorem dX3_slotStart_4 : decode cX3_slotStart 4 = .ok (.iload_n 1, 1) := by decide +kernel
theorem dX3_slotStart_5 : decode cX3_slotStart 5 = .ok (.bipush 6, 2) := by decide +kernel
theorem dX3_slotStart_7 : decode cX3_slotStart 7 = .ok (.imul, 1) := by decide +kernel
theorem dX3_slotStart_8 : decode cX3_slotStart 8 = .ok (.iadd, 1) := by decide +kernel
theorem dX3_slotStart_9 : decode cX3_slotStart 9 = .ok (.ireturn, 1) := by decide +kernel
set_option maxRecDepth 20000 in
theorem ggX3_seal_X3_maskWords : GoodIn wsX3_seal wsX3_maskWords := goodIn_r _ [6, 1, 7, 8, 9, 5, 10, 11, 12, 13, 14, 15, 16, 17, 18, 24, 25, 26, 27, 28, 29, 30, 31, 32, 33, 34] (by decide +kernel) (by decide +kernel)
set_option maxRecDepth 20000 in
theorem gX3_seal_X3_maskWords : GoodIn wsX3_seal (wsV RX3 91 RX3 yX3_maskWords wsX3_maskWords) := goodIn_app (goodIn_of _ (by decide +kernel)) ggX3_seal_X3_maskWords
set_option maxRecDepth 20000 in
theorem ggX3_seal_X3_tagDue : GoodIn wsX3_seal wsX3_tagDue := goodIn_r _ [22, 1, 23, 7, 8, 9, 5, 10, 11, 12, 13, 14, 15, 16, 17, 18, 24, 25, 26, 27, 28, 29, 30, 31, 32, 33, 34] (by decide +kernel) (by decide +kernel)
set_option maxRecDepth 20000 in
theorem gX3_seal_X3_tagDue : GoodIn wsX3_seal (wsV RX3 97 RX3 yX3_tagDue wsX3_tagDue) := goodIn_app (goodIn_of _ (by decide +kernel)) ggX3_seal_X3_tagDue
theorem dX3_seal_0 : decode cX3_seal 0 = .ok (.aload_n 0, 1) := by decide +kernel
theorem dX3_seal_1 : decode cX3_seal 1 = .ok (.iload_n 1, 1) := by decide +kernel
theorem dX3_seal_2 : decode cX3_seal 2 = .ok (.invokevirtual 91, 3) := by decide +kernel
theorem dX3_seal_5 : decode cX3_seal 5 = .ok (.aload_n 0, 1) := by decide +kernel
theorem dX3_seal_6 : decode cX3_seal 6 = .ok (.getfield 27, 3) := by decide +kernel
theorem dX3_seal_9 : decode cX3_seal 9 = .ok (.iload_n 1, 1) := by decide +kernel
