theorem dX6_items_2 : decode cX6_items 2 = .ok (.putfield 212, 3) := by decide +kernel
theorem dX6_items_5 : decode cX6_items 5 = .ok (.aload_n 0, 1) := by decide +kernel
theorem dX6_items_6 : decode cX6_items 6 = .ok (.iconst (-1), 1) := by decide +kernel
theorem dX6_items_7 : decode cX6_items 7 = .ok (.putfield 240, 3) := by decide +kernel
theorem dX6_items_10 : decode cX6_items 10 = .ok (.aload_n 0, 1) := by decide +kernel
theorem dX6_items_11 : decode cX6_items 11 = .ok (.invokevirtual 264, 3) := by decide +kernel
theorem dX6_items_14 : decode cX6_items 14 = .ok (.aload_n 0, 1) := by decide +kernel
theorem dX6_items_15 : decode cX6_items 15 = .ok (.invokevirtual 302, 3) := by decide +kernel
theorem dX6_items_18 : decode cX6_items 18 = .ok (.iconst 1, 1) := by decide +kernel
theorem dX6_items_19 : decode cX6_items 19 = .ok (.istore_n 1, 1) := by decide +kernel
theorem dX6_items_20 : decode cX6_items 20 = .ok (.aload_n 0, 1) := by decide +kernel
theorem dX6_items_21 : decode cX6_items 21 = .ok (.getfield 240, 3) := by decide +kernel
theorem dX6_items_24 : decode cX6_items 24 = .ok (.ifCond .ge 25, 3) := by decide +kernel
theorem dX6_items_27 : decode cX6_items 27 = .ok (.aload_n 0, 1) := by decide +kernel
theorem dX6_items_28 : decode cX6_items 28 = .ok (.getfield 225, 3) := by decide +kernel
theorem dX6_items_31 : decode cX6_items 31 = .ok (.iconst 3, 1) := by decide +kernel
theorem dX6_items_32 : decode cX6_items 32 = .ok (.if_icmp .ne 17, 3) := by decide +kernel
theorem dX6_items_35 : decode cX6_items 35 = .ok (.aload_n 0, 1) := by decide +kernel
theorem dX6_items_36 : decode cX6_items 36 = .ok (.invokevirtual 264, 3) := by decide +kernel
theorem dX6_items_39 : decode cX6_items 39 = .ok (.aload_n 0, 1) := by decide +kernel
theorem dX6_items_40 : decode cX6_items 40 = .ok (.invokevirtual 302, 3) := by decide +kernel
theorem dX6_items_43 : decode cX6_items 43 = .ok (.iinc 1 1, 3) := by decide +kernel
theorem dX6_items_46 : decode cX6_items 46 = .ok (.goto (-26), 3) := by decide +kernel
theorem dX6_items_49 : decode cX6_items 49 = .ok (.aload_n 0, 1) := by decide +kernel
theorem dX6_items_50 : decode cX6_items 50 = .ok (.getfield 240, 3) := by decide +kernel
theorem dX6_items_53 : decode cX6_items 53 = .ok (.ifCond .ge 14, 3) := by decide +kernel
theorem dX6_items_56 : decode cX6_items 56 = .ok (.aload_n 0, 1) := by decide +kernel
theorem dX6_items_57 : decode cX6_items 57 = .ok (.getfield 225, 3) := by decide +kernel
theorem dX6_items_60 : decode cX6_items 60 = .ok (.ifCond .eq 7, 3) := by decide +kernel
theorem dX6_items_63 : decode cX6_items 63 = .ok (.aload_n 0, 1) := by decide +kernel
theorem dX6_items_64 : decode cX6_items 64 = .ok (.invokevirtual 261, 3) := by decide +kernel
theorem dX6_items_67 : decode cX6_items 67 = .ok (.iload_n 1, 1) := by decide +kernel
theorem dX6_items_68 : decode cX6_items 68 = .ok (.ireturn, 1) := by decide +kernel
set_option maxRecDepth 20000 in
theorem ggX6_text_X6_copies : GoodIn wsX6_text wsX6_copies := goodIn_r _ [8] (by decide +kernel) (by decide +kernel)
set_option maxRecDepth 20000 in
theorem gX6_text_X6_copies : GoodIn wsX6_text (va_wsS RX6 158 yX6_copies wsX6_copies) := goodIn_app (goodIn_of _ (by decide +kernel)) ggX6_text_X6_copies
set_option maxRecDepth 20000 in
theorem ggX6_text_X6_items : GoodIn wsX6_text wsX6_items := goodIn_r _ [12, 13, 4, 14, 15, 16, 17, 7, 18, 19, 20, 3, 21, 22, 23, 24, 25, 26, 27, 28, 29, 30, 31, 32, 33, 34, 35, 36, 37, 38, 39, 40, 41, 42, 43, 44, 45, 46, 47, 48, 49, 50, 51, 52, 53, 54, 55, 56, 57, 58, 59, 60, 61, 1, 62, 63, 64, 65, 66, 67, 68, 69, 70, 71, 72, 73, 74, 75, 76, 77, 78, 79, 80, 81, 82, 83, 84, 85, 86, 87, 88, 89, 90, 91, 92, 93, 94, 95, 96, 97, 98, 99, 100, 101, 102, 103, 104, 105, 106, 107, 108, 109, 110, 111, 112] (by decide +kernel) (by decide +kernel)
set_option maxRecDepth 20000 in
theorem gX6_text_X6_items : GoodIn wsX6_text (wsV RX6 305 RX6 yX6_items wsX6_items) := goodIn_app (goodIn_of _ (by decide +kernel)) ggX6_text_X6_items
theorem dX6_text_0 : decode cX6_text 0 = .ok (.aload_n 0, 1) := by decide +kernel
theorem dX6_text_1 : decode cX6_text 1 = .ok (.getfield 7, 3) := by decide +kernel
theorem dX6_text_4 : decode cX6_text 4 = .ok (.aload_n 0, 1) := by decide +kernel
theorem dX6_text_5 : decode cX6_text 5 = .ok (.getfield 13, 3) := by decide +kernel
theorem dX6_text_8 : decode cX6_text 8 = .ok (.invokestatic 158, 3) := by decide +kernel
theorem dX6_text_11 : decode cX6_text 11 = .ok (.aload_n 0, 1) := by decide +kernel
theorem dX6_text_12 : decode cX6_text 12 = .ok (.invokevirtual 305, 3) := by decide +kernel
theorem dX6_text_15 : decode cX6_text 15 = .ok (.istore_n 1, 1) := by decide +kernel
theorem dX6_text_16 : decode cX6_text 16 = .ok (.aload_n 0, 1) := by decide +kernel
theorem dX6_text_17 : decode cX6_text 17 = .ok (.iconst 0, 1) := by decide +kernel
theorem dX6_text_18 : decode cX6_text 18 = .ok (.putfield 208, 3) := by decide +kernel
theorem dX6_text_21 : decode cX6_text 21 = .ok (.aload_n 0, 1) := by decide +kernel
theorem dX6_text_22 : decode cX6_text 22 = .ok (.getfield 240, 3) := by decide +kernel
theorem dX6_text_25 : decode cX6_text 25 = .ok (.ifCond .lt 21, 3) := by decide +kernel
theorem dX6_text_28 : decode cX6_text 28 = .ok (.aload_n 0, 1) := by decide +kernel
theorem dX6_text_29 : decode cX6_text 29 = .ok (.getfield 13, 3) := by decide +kernel
theorem dX6_text_32 : decode cX6_text 32 = .ok (.aload_n 0, 1) := by decide +kernel
theorem dX6_text_33 : decode cX6_text 33 = .ok (.getfield 7, 3) := by decide +kernel
theorem dX6_text_36 : decode cX6_text 36 = .ok (.invokestatic 158, 3) := by decide +kernel
theorem dX6_text_39 : decode cX6_text 39 = .ok (.iconst (-1), 1) := by decide +kernel
theorem dX6_text_40 : decode cX6_text 40 = .ok (.aload_n 0, 1) := by decide +kernel
theorem dX6_text_41 : decode cX6_text 41 = .ok (.getfield 240, 3) := by decide +kernel
theorem dX6_text_44 : decode cX6_text 44 = .ok (.isub, 1) := by decide +kernel
theorem dX6_text_45 : decode cX6_text 45 = .ok (.ireturn, 1) := by decide +kernel
theorem dX6_text_46 : decode cX6_text 46 = .ok (.iload_n 1, 1) := by decide +kernel
theorem dX6_text_47 : decode cX6_text 47 = .ok (.ireturn, 1) := by decide +kernel
set_option maxRecDepth 20000 in
theorem ggX6_hold_X6_in : GoodIn wsX6_hold wsX6_in := goodIn_r _ [7] (by decide +kernel) (by decide +kernel)
set_option maxRecDepth 20000 in
theorem gX6_hold_X6_in : GoodIn wsX6_hold (va_wsS RX6 42 yX6_in wsX6_in) := goodIn_app (goodIn_of _ (by decide +kernel)) ggX6_hold_X6_in
set_option maxRecDepth 20000 in
theorem ggX6_hold_X6_finds : GoodIn wsX6_hold wsX6_finds := goodIn_r _ [11, 12, 13, 14, 15, 16, 17, 18, 19, 20, 21, 22, 23, 24, 25, 26, 27, 28, 29, 30] (by decide +kernel) (by decide +kernel)
set_option maxRecDepth 20000 in
theorem gX6_hold_X6_finds : GoodIn wsX6_hold (wsV RX6 121 RX6 yX6_finds wsX6_finds) := goodIn_app (goodIn_of _ (by decide +kernel)) ggX6_hold_X6_finds
theorem dX6_hold_0 : decode cX6_hold 0 = .ok (.iload_n 1, 1) := by decide +kernel
theorem dX6_hold_1 : decode cX6_hold 1 = .ok (.i2l, 1) := by decide +kernel
theorem dX6_hold_2 : decode cX6_hold 2 = .ok (.lconst 0, 1) := by decide +kernel
theorem dX6_hold_3 : decode cX6_hold 3 = .ok (.ldc2_w 113, 3) := by decide +kernel
theorem dX6_hold_6 : decode cX6_hold 6 = .ok (.invokestatic 42, 3) := by decide +kernel
theorem dX6_hold_9 : decode cX6_hold 9 = .ok (.ifCond .eq 23, 3) := by decide +kernel
theorem dX6_hold_12 : decode cX6_hold 12 = .ok (.iload_n 2, 1) := by decide +kernel
theorem dX6_hold_13 : decode cX6_hold 13 = .ok (.i2l, 1) := by decide +kernel
theorem dX6_hold_14 : decode cX6_hold 14 = .ok (.ldc2_w 308, 3) := by decide +kernel
theorem dX6_hold_17 : decode cX6_hold 17 = .ok (.aload_n 0, 1) := by decide +kernel
theorem dX6_hold_18 : decode cX6_hold 18 = .ok (.getfield 7, 3) := by decide +kernel
theorem dX6_hold_21 : decode cX6_hold 21 = .ok (.iconst 0, 1) := by decide +kernel
theorem dX6_hold_22 : decode cX6_hold 22 = .ok (.iaload, 1) := by decide +kernel
theorem dX6_hold_23 : decode cX6_hold 23 = .ok (.iconst 1, 1) := by decide +kernel
theorem dX6_hold_24 : decode cX6_hold 24 = .ok (.isub, 1) := by decide +kernel
theorem dX6_hold_25 : decode cX6_hold 25 = .ok (.i2l, 1) := by decide +kernel
theorem dX6_hold_26 : decode cX6_hold 26 = .ok (.invokestatic 42, 3) := by decide +kernel
theorem dX6_hold_29 : decode cX6_hold 29 = .ok (.ifCond .ne 9, 3) := by decide +kernel
theorem dX6_hold_32 : decode cX6_hold 32 = .ok (.aload_n 0, 1) := by decide +kernel
theorem dX6_hold_33 : decode cX6_hold 33 = .ok (.iconst 0, 1) := by decide +kernel
theorem dX6_hold_34 : decode cX6_hold 34 = .ok (.invokevirtual 121, 3) := by decide +kernel
theorem dX6_hold_37 : decode cX6_hold 37 = .ok (.ireturn, 1) := by decide +kernel
theorem dX6_hold_38 : decode cX6_hold 38 = .ok (.aload_n 0, 1) := by decide +kernel
theorem dX6_hold_39 : decode cX6_hold 39 = .ok (.getfield 7, 3) := by decide +kernel
theorem dX6_hold_42 : decode cX6_hold 42 = .ok (.bipush 73, 2) := by decide +kernel
theorem dX6_hold_44 : decode cX6_hold 44 = .ok (.iload_n 1, 1) := by decide +kernel
theorem dX6_hold_45 : decode cX6_hold 45 = .ok (.iadd, 1) := by decide +kernel
theorem dX6_hold_46 : decode cX6_hold 46 = .ok (.iload_n 2, 1) := by decide +kernel
theorem dX6_hold_47 : decode cX6_hold 47 = .ok (.iconst 1, 1) := by decide +kernel
theorem dX6_hold_48 : decode cX6_hold 48 = .ok (.iadd, 1) := by decide +kernel
theorem dX6_hold_49 : decode cX6_hold 49 = .ok (.iastore, 1) := by decide +kernel
theorem dX6_hold_50 : decode cX6_hold 50 = .ok (.iconst 1, 1) := by decide +kernel
theorem dX6_hold_51 : decode cX6_hold 51 = .ok (.ireturn, 1) := by decide +kernel
theorem dX6_above_0 : decode cX6_above 0 = .ok (.iload_n 0, 1) := by decide +kernel
theorem dX6_above_1 : decode cX6_above 1 = .ok (.iconst 3, 1) := by decide +kernel
theorem dX6_above_2 : decode cX6_above 2 = .ok (.if_icmp .ne 7, 3) := by decide +kernel
theorem dX6_above_5 : decode cX6_above 5 = .ok (.iconst 1, 1) := by decide +kernel
theorem dX6_above_6 : decode cX6_above 6 = .ok (.goto 23, 3) := by decide +kernel
theorem dX6_above_9 : decode cX6_above 9 = .ok (.iload_n 0, 1) := by decide +kernel
theorem dX6_above_10 : decode cX6_above 10 = .ok (.iconst 4, 1) := by decide +kernel
theorem dX6_above_11 : decode cX6_above 11 = .ok (.if_icmp .ne 7, 3) := by decide +kernel
theorem dX6_above_14 : decode cX6_above 14 = .ok (.iconst 3, 1) := by decide +kernel
theorem dX6_above_15 : decode cX6_above 15 = .ok (.goto 14, 3) := by decide +kernel
theorem dX6_above_18 : decode cX6_above 18 = .ok (.iload_n 0, 1) := by decide +kernel
theorem dX6_above_19 : decode cX6_above 19 = .ok (.bipush 6, 2) := by decide +kernel
theorem dX6_above_21 : decode cX6_above 21 = .ok (.if_icmp .ne 7, 3) := by decide +kernel
theorem dX6_above_24 : decode cX6_above 24 = .ok (.iconst 2, 1) := by decide +kernel
theorem dX6_above_25 : decode cX6_above 25 = .ok (.goto 4, 3) := by decide +kernel
theorem dX6_above_28 : decode cX6_above 28 = .ok (.iconst 0, 1) := by decide +kernel
theorem dX6_above_29 : decode cX6_above 29 = .ok (.ireturn, 1) := by decide +kernel
set_option maxRecDepth 20000 in
theorem ggX6_as_X6_in : GoodIn wsX6_as wsX6_in := goodIn_r _ [7] (by decide +kernel) (by decide +kernel)
set_option maxRecDepth 20000 in
theorem gX6_as_X6_in : GoodIn wsX6_as (va_wsS RX6 42 yX6_in wsX6_in) := goodIn_app (goodIn_of _ (by decide +kernel)) ggX6_as_X6_in
set_option maxRecDepth 20000 in
theorem ggX6_as_X6_finds : GoodIn wsX6_as wsX6_finds := goodIn_r _ [11, 12, 13, 21, 22, 23, 24, 25, 26, 27, 28, 29, 30, 31, 32, 33, 34, 35, 36, 37] (by decide +kernel) (by decide +kernel)
set_option maxRecDepth 20000 in
theorem gX6_as_X6_finds : GoodIn wsX6_as (wsV RX6 121 RX6 yX6_finds wsX6_finds) := goodIn_app (goodIn_of _ (by decide +kernel)) ggX6_as_X6_finds
set_option maxRecDepth 20000 in
theorem ggX6_as_X6_its : GoodIn wsX6_as wsX6_its := goodIn_r _ [17, 3, 21, 22, 23, 24, 25, 26, 27, 28, 29, 30, 31, 32, 33, 34, 35, 36, 37] (by decide +kernel) (by decide +kernel)
set_option maxRecDepth 20000 in
theorem gX6_as_X6_its : GoodIn wsX6_as (wsV RX6 52 RX6 yX6_its wsX6_its) := goodIn_app (goodIn_of _ (by decide +kernel)) ggX6_as_X6_its
set_option maxRecDepth 20000 in
theorem ggX6_as_X6_above : GoodIn wsX6_as wsX6_above := goodIn_r _ [20] (by decide +kernel) (by decide +kernel)
set_option maxRecDepth 20000 in
theorem gX6_as_X6_above : GoodIn wsX6_as (va_wsS RX6 310 yX6_above wsX6_above) := goodIn_app (goodIn_of _ (by decide +kernel)) ggX6_as_X6_above
theorem dX6_as_0 : decode cX6_as 0 = .ok (.iload_n 1, 1) := by decide +kernel
theorem dX6_as_1 : decode cX6_as 1 = .ok (.i2l, 1) := by decide +kernel
theorem dX6_as_2 : decode cX6_as 2 = .ok (.lconst 0, 1) := by decide +kernel
theorem dX6_as_3 : decode cX6_as 3 = .ok (.ldc2_w 113, 3) := by decide +kernel
theorem dX6_as_6 : decode cX6_as 6 = .ok (.invokestatic 42, 3) := by decide +kernel
theorem dX6_as_9 : decode cX6_as 9 = .ok (.ifCond .eq 15, 3) := by decide +kernel
theorem dX6_as_12 : decode cX6_as 12 = .ok (.iload_n 2, 1) := by decide +kernel
theorem dX6_as_13 : decode cX6_as 13 = .ok (.i2l, 1) := by decide +kernel
theorem dX6_as_14 : decode cX6_as 14 = .ok (.lconst 0, 1) := by decide +kernel
theorem dX6_as_15 : decode cX6_as 15 = .ok (.ldc2_w 129, 3) := by decide +kernel
theorem dX6_as_18 : decode cX6_as 18 = .ok (.invokestatic 42, 3) := by decide +kernel
theorem dX6_as_21 : decode cX6_as 21 = .ok (.ifCond .ne 9, 3) := by decide +kernel
theorem dX6_as_24 : decode cX6_as 24 = .ok (.aload_n 0, 1) := by decide +kernel
theorem dX6_as_25 : decode cX6_as 25 = .ok (.iconst 0, 1) := by decide +kernel
theorem dX6_as_26 : decode cX6_as 26 = .ok (.invokevirtual 121, 3) := by decide +kernel
theorem dX6_as_29 : decode cX6_as 29 = .ok (.ireturn, 1) := by decide +kernel
theorem dX6_as_30 : decode cX6_as 30 = .ok (.aload_n 0, 1) := by decide +kernel
theorem dX6_as_31 : decode cX6_as 31 = .ok (.getfield 7, 3) := by decide +kernel
theorem dX6_as_34 : decode cX6_as 34 = .ok (.bipush 73, 2) := by decide +kernel
theorem dX6_as_36 : decode cX6_as 36 = .ok (.iload_n 1, 1) := by decide +kernel
theorem dX6_as_37 : decode cX6_as 37 = .ok (.iadd, 1) := by decide +kernel
theorem dX6_as_38 : decode cX6_as 38 = .ok (.iaload, 1) := by decide +kernel
theorem dX6_as_39 : decode cX6_as 39 = .ok (.ifCond .ne 9, 3) := by decide +kernel
theorem dX6_as_42 : decode cX6_as 42 = .ok (.aload_n 0, 1) := by decide +kernel
theorem dX6_as_43 : decode cX6_as 43 = .ok (.iconst 5, 1) := by decide +kernel
theorem dX6_as_44 : decode cX6_as 44 = .ok (.invokevirtual 121, 3) := by decide +kernel
theorem dX6_as_47 : decode cX6_as 47 = .ok (.ireturn, 1) := by decide +kernel
theorem dX6_as_48 : decode cX6_as 48 = .ok (.aload_n 0, 1) := by decide +kernel
theorem dX6_as_49 : decode cX6_as 49 = .ok (.getfield 7, 3) := by decide +kernel
theorem dX6_as_52 : decode cX6_as 52 = .ok (.bipush 73, 2) := by decide +kernel
theorem dX6_as_54 : decode cX6_as 54 = .ok (.iload_n 1, 1) := by decide +kernel
theorem dX6_as_55 : decode cX6_as 55 = .ok (.iadd, 1) := by decide +kernel
theorem dX6_as_56 : decode cX6_as 56 = .ok (.iaload, 1) := by decide +kernel
theorem dX6_as_57 : decode cX6_as 57 = .ok (.iconst 1, 1) := by decide +kernel
theorem dX6_as_58 : decode cX6_as 58 = .ok (.isub, 1) := by decide +kernel
theorem dX6_as_59 : decode cX6_as 59 = .ok (.istore_n 3, 1) := by decide +kernel
theorem dX6_as_60 : decode cX6_as 60 = .ok (.aload_n 0, 1) := by decide +kernel
theorem dX6_as_61 : decode cX6_as 61 = .ok (.iload_n 3, 1) := by decide +kernel
theorem dX6_as_62 : decode cX6_as 62 = .ok (.iconst 0, 1) := by decide +kernel
theorem dX6_as_63 : decode cX6_as 63 = .ok (.invokevirtual 52, 3) := by decide +kernel
theorem dX6_as_66 : decode cX6_as 66 = .ok (.istore 4, 2) := by decide +kernel
theorem dX6_as_68 : decode cX6_as 68 = .ok (.iload_n 2, 1) := by decide +kernel
theorem dX6_as_69 : decode cX6_as 69 = .ok (.ifCond .eq 30, 3) := by decide +kernel
theorem dX6_as_72 : decode cX6_as 72 = .ok (.iload_n 2, 1) := by decide +kernel
theorem dX6_as_73 : decode cX6_as 73 = .ok (.iload 4, 2) := by decide +kernel
theorem dX6_as_75 : decode cX6_as 75 = .ok (.if_icmp .eq 24, 3) := by decide +kernel
theorem dX6_as_78 : decode cX6_as 78 = .ok (.iload_n 2, 1) := by decide +kernel
theorem dX6_as_79 : decode cX6_as 79 = .ok (.iload 4, 2) := by decide +kernel
theorem dX6_as_81 : decode cX6_as 81 = .ok (.invokestatic 310, 3) := by decide +kernel
theorem dX6_as_84 : decode cX6_as 84 = .ok (.if_icmp .eq 15, 3) := by decide +kernel
theorem dX6_as_87 : decode cX6_as 87 = .ok (.iload_n 2, 1) := by decide +kernel
theorem dX6_as_88 : decode cX6_as 88 = .ok (.iload 4, 2) := by decide +kernel
theorem dX6_as_90 : decode cX6_as 90 = .ok (.invokestatic 310, 3) := by decide +kernel
theorem dX6_as_93 : decode cX6_as 93 = .ok (.invokestatic 310, 3) := by decide +kernel
theorem dX6_as_96 : decode cX6_as 96 = .ok (.if_icmp .ne 7, 3) := by decide +kernel
theorem dX6_as_99 : decode cX6_as 99 = .ok (.iload_n 3, 1) := by decide +kernel
theorem dX6_as_100 : decode cX6_as 100 = .ok (.goto 8, 3) := by decide +kernel
theorem dX6_as_103 : decode cX6_as 103 = .ok (.aload_n 0, 1) := by decide +kernel
theorem dX6_as_104 : decode cX6_as 104 = .ok (.iconst 2, 1) := by decide +kernel
theorem dX6_as_105 : decode cX6_as 105 = .ok (.invokevirtual 121, 3) := by decide +kernel
theorem dX6_as_108 : decode cX6_as 108 = .ok (.ireturn, 1) := by decide +kernel
set_option maxRecDepth 20000 in
theorem ggX6_isSheet_X6_in : GoodIn wsX6_isSheet wsX6_in := goodIn_r _ [5] (by decide +kernel) (by decide +kernel)
set_option maxRecDepth 20000 in
theorem gX6_isSheet_X6_in : GoodIn wsX6_isSheet (va_wsS RX6 42 yX6_in wsX6_in) := goodIn_app (goodIn_of _ (by decide +kernel)) ggX6_isSheet_X6_in
theorem dX6_isSheet_0 : decode cX6_isSheet 0 = .ok (.iload_n 0, 1) := by decide +kernel
theorem dX6_isSheet_1 : decode cX6_isSheet 1 = .ok (.i2l, 1) := by decide +kernel
theorem dX6_isSheet_2 : decode cX6_isSheet 2 = .ok (.lconst 0, 1) := by decide +kernel
theorem dX6_isSheet_3 : decode cX6_isSheet 3 = .ok (.ldc2_w 313, 3) := by decide +kernel
theorem dX6_isSheet_6 : decode cX6_isSheet 6 = .ok (.invokestatic 42, 3) := by decide +kernel
theorem dX6_isSheet_9 : decode cX6_isSheet 9 = .ok (.ireturn, 1) := by decide +kernel
set_option maxRecDepth 20000 in
theorem ggX6_sheet_X6_isSheet : GoodIn wsX6_sheet wsX6_isSheet := goodIn_r _ [7, 8, 9, 10, 6, 11] (by decide +kernel) (by decide +kernel)
set_option maxRecDepth 20000 in
theorem gX6_sheet_X6_isSheet : GoodIn wsX6_sheet (va_wsS RX6 315 yX6_isSheet wsX6_isSheet) := goodIn_app (goodIn_of _ (by decide +kernel)) ggX6_sheet_X6_isSheet
set_option maxRecDepth 20000 in
theorem ggX6_sheet_X6_finds : GoodIn wsX6_sheet wsX6_finds := goodIn_r _ [15, 16, 17, 18, 19, 20, 21, 22, 23, 24, 25, 26, 27, 28, 29, 30, 31, 32, 33, 34] (by decide +kernel) (by decide +kernel)
set_option maxRecDepth 20000 in
theorem gX6_sheet_X6_finds : GoodIn wsX6_sheet (wsV RX6 121 RX6 yX6_finds wsX6_finds) := goodIn_app (goodIn_of _ (by decide +kernel)) ggX6_sheet_X6_finds
theorem dX6_sheet_0 : decode cX6_sheet 0 = .ok (.iload_n 1, 1) := by decide +kernel
theorem dX6_sheet_1 : decode cX6_sheet 1 = .ok (.invokestatic 315, 3) := by decide +kernel
theorem dX6_sheet_4 : decode cX6_sheet 4 = .ok (.ifCond .eq 25, 3) := by decide +kernel
theorem dX6_sheet_7 : decode cX6_sheet 7 = .ok (.iload_n 2, 1) := by decide +kernel
theorem dX6_sheet_8 : decode cX6_sheet 8 = .ok (.ifCond .eq 27, 3) := by decide +kernel
theorem dX6_sheet_11 : decode cX6_sheet 11 = .ok (.iload_n 2, 1) := by decide +kernel
theorem dX6_sheet_12 : decode cX6_sheet 12 = .ok (.bipush 8, 2) := by decide +kernel
theorem dX6_sheet_14 : decode cX6_sheet 14 = .ok (.if_icmp .eq 21, 3) := by decide +kernel
theorem dX6_sheet_17 : decode cX6_sheet 17 = .ok (.iload_n 2, 1) := by decide +kernel
theorem dX6_sheet_18 : decode cX6_sheet 18 = .ok (.bipush 16, 2) := by decide +kernel
theorem dX6_sheet_20 : decode cX6_sheet 20 = .ok (.if_icmp .eq 15, 3) := by decide +kernel
theorem dX6_sheet_23 : decode cX6_sheet 23 = .ok (.iload_n 2, 1) := by decide +kernel
theorem dX6_sheet_24 : decode cX6_sheet 24 = .ok (.bipush 32, 2) := by decide +kernel
theorem dX6_sheet_26 : decode cX6_sheet 26 = .ok (.if_icmp .eq 9, 3) := by decide +kernel
theorem dX6_sheet_29 : decode cX6_sheet 29 = .ok (.aload_n 0, 1) := by decide +kernel
theorem dX6_sheet_30 : decode cX6_sheet 30 = .ok (.iconst 0, 1) := by decide +kernel
theorem dX6_sheet_31 : decode cX6_sheet 31 = .ok (.invokevirtual 121, 3) := by decide +kernel
theorem dX6_sheet_34 : decode cX6_sheet 34 = .ok (.ireturn, 1) := by decide +kernel
theorem dX6_sheet_35 : decode cX6_sheet 35 = .ok (.iload_n 3, 1) := by decide +kernel
theorem dX6_sheet_36 : decode cX6_sheet 36 = .ok (.ifCond .ge 10, 3) := by decide +kernel
theorem dX6_sheet_39 : decode cX6_sheet 39 = .ok (.aload_n 0, 1) := by decide +kernel
theorem dX6_sheet_40 : decode cX6_sheet 40 = .ok (.bipush 6, 2) := by decide +kernel
theorem dX6_sheet_42 : decode cX6_sheet 42 = .ok (.invokevirtual 121, 3) := by decide +kernel
theorem dX6_sheet_45 : decode cX6_sheet 45 = .ok (.ireturn, 1) := by decide +kernel
theorem dX6_sheet_46 : decode cX6_sheet 46 = .ok (.iload_n 3, 1) := by decide +kernel
theorem dX6_sheet_47 : decode cX6_sheet 47 = .ok (.bipush 40, 2) := by decide +kernel
theorem dX6_sheet_49 : decode cX6_sheet 49 = .ok (.if_icmp .le 9, 3) := by decide +kernel
theorem dX6_sheet_52 : decode cX6_sheet 52 = .ok (.aload_n 0, 1) := by decide +kernel
theorem dX6_sheet_53 : decode cX6_sheet 53 = .ok (.iconst 0, 1) := by decide +kernel
theorem dX6_sheet_54 : decode cX6_sheet 54 = .ok (.invokevirtual 121, 3) := by decide +kernel
theorem dX6_sheet_57 : decode cX6_sheet 57 = .ok (.ireturn, 1) := by decide +kernel
theorem dX6_sheet_58 : decode cX6_sheet 58 = .ok (.aload_n 0, 1) := by decide +kernel
theorem dX6_sheet_59 : decode cX6_sheet 59 = .ok (.getfield 29, 3) := by decide +kernel
theorem dX6_sheet_62 : decode cX6_sheet 62 = .ok (.iload_n 1, 1) := by decide +kernel
theorem dX6_sheet_63 : decode cX6_sheet 63 = .ok (.iload_n 2, 1) := by decide +kernel
theorem dX6_sheet_64 : decode cX6_sheet 64 = .ok (.iastore, 1) := by decide +kernel
theorem dX6_sheet_65 : decode cX6_sheet 65 = .ok (.aload_n 0, 1) := by decide +kernel
theorem dX6_sheet_66 : decode cX6_sheet 66 = .ok (.getfield 32, 3) := by decide +kernel
theorem dX6_sheet_69 : decode cX6_sheet 69 = .ok (.iload_n 1, 1) := by decide +kernel
theorem dX6_sheet_70 : decode cX6_sheet 70 = .ok (.iload_n 2, 1) := by decide +kernel
theorem dX6_sheet_71 : decode cX6_sheet 71 = .ok (.ifCond .ne 7, 3) := by decide +kernel
theorem dX6_sheet_74 : decode cX6_sheet 74 = .ok (.iconst 0, 1) := by decide +kernel
theorem dX6_sheet_75 : decode cX6_sheet 75 = .ok (.goto 4, 3) := by decide +kernel
theorem dX6_sheet_78 : decode cX6_sheet 78 = .ok (.iload_n 3, 1) := by decide +kernel
theorem dX6_sheet_79 : decode cX6_sheet 79 = .ok (.iastore, 1) := by decide +kernel
theorem dX6_sheet_80 : decode cX6_sheet 80 = .ok (.iconst 0, 1) := by decide +kernel
theorem dX6_sheet_81 : decode cX6_sheet 81 = .ok (.istore 4, 2) := by decide +kernel
theorem dX6_sheet_83 : decode cX6_sheet 83 = .ok (.iload 4, 2) := by decide +kernel
theorem dX6_sheet_85 : decode cX6_sheet 85 = .ok (.bipush 40, 2) := by decide +kernel
theorem dX6_sheet_87 : decode cX6_sheet 87 = .ok (.if_icmp .ge 22, 3) := by decide +kernel
theorem dX6_sheet_90 : decode cX6_sheet 90 = .ok (.aload_n 0, 1) := by decide +kernel
theorem dX6_sheet_91 : decode cX6_sheet 91 = .ok (.getfield 35, 3) := by decide +kernel
theorem dX6_sheet_94 : decode cX6_sheet 94 = .ok (.bipush 40, 2) := by decide +kernel
theorem dX6_sheet_96 : decode cX6_sheet 96 = .ok (.iload_n 1, 1) := by decide +kernel
theorem dX6_sheet_97 : decode cX6_sheet 97 = .ok (.imul, 1) := by decide +kernel
theorem dX6_sheet_98 : decode cX6_sheet 98 = .ok (.iload 4, 2) := by decide +kernel
theorem dX6_sheet_100 : decode cX6_sheet 100 = .ok (.iadd, 1) := by decide +kernel
theorem dX6_sheet_101 : decode cX6_sheet 101 = .ok (.iconst 0, 1) := by decide +kernel
theorem dX6_sheet_102 : decode cX6_sheet 102 = .ok (.iastore, 1) := by decide +kernel
theorem dX6_sheet_103 : decode cX6_sheet 103 = .ok (.iinc 4 1, 3) := by decide +kernel
theorem dX6_sheet_106 : decode cX6_sheet 106 = .ok (.goto (-23), 3) := by decide +kernel
theorem dX6_sheet_109 : decode cX6_sheet 109 = .ok (.aload_n 0, 1) := by decide +kernel
theorem dX6_sheet_110 : decode cX6_sheet 110 = .ok (.getfield 32, 3) := by decide +kernel
theorem dX6_sheet_113 : decode cX6_sheet 113 = .ok (.iload_n 1, 1) := by decide +kernel
theorem dX6_sheet_114 : decode cX6_sheet 114 = .ok (.iaload, 1) := by decide +kernel
theorem dX6_sheet_115 : decode cX6_sheet 115 = .ok (.ireturn, 1) := by decide +kernel
set_option maxRecDepth 20000 in
theorem ggX6_whyNone_X6_isSheet : GoodIn wsX6_whyNone wsX6_isSheet := goodIn_r _ [5, 6, 7, 8, 4, 9] (by decide +kernel) (by decide +kernel)
set_option maxRecDepth 20000 in
theorem gX6_whyNone_X6_isSheet : GoodIn wsX6_whyNone (va_wsS RX6 315 yX6_isSheet wsX6_isSheet) := goodIn_app (goodIn_of _ (by decide +kernel)) ggX6_whyNone_X6_isSheet
theorem dX6_whyNone_0 : decode cX6_whyNone 0 = .ok (.iload_n 1, 1) := by decide +kernel
theorem dX6_whyNone_1 : decode cX6_whyNone 1 = .ok (.invokestatic 315, 3) := by decide +kernel
theorem dX6_whyNone_4 : decode cX6_whyNone 4 = .ok (.ifCond .ne 7, 3) := by decide +kernel
theorem dX6_whyNone_7 : decode cX6_whyNone 7 = .ok (.iconst 0, 1) := by decide +kernel
theorem dX6_whyNone_8 : decode cX6_whyNone 8 = .ok (.goto 17, 3) := by decide +kernel
theorem dX6_whyNone_11 : decode cX6_whyNone 11 = .ok (.aload_n 0, 1) := by decide +kernel
theorem dX6_whyNone_12 : decode cX6_whyNone 12 = .ok (.getfield 29, 3) := by decide +kernel
theorem dX6_whyNone_15 : decode cX6_whyNone 15 = .ok (.iload_n 1, 1) := by decide +kernel
theorem dX6_whyNone_16 : decode cX6_whyNone 16 = .ok (.iaload, 1) := by decide +kernel
theorem dX6_whyNone_17 : decode cX6_whyNone 17 = .ok (.ifCond .ne 7, 3) := by decide +kernel
theorem dX6_whyNone_20 : decode cX6_whyNone 20 = .ok (.iconst 5, 1) := by decide +kernel
theorem dX6_whyNone_21 : decode cX6_whyNone 21 = .ok (.goto 4, 3) := by decide +kernel
theorem dX6_whyNone_24 : decode cX6_whyNone 24 = .ok (.iconst (-1), 1) := by decide +kernel
theorem dX6_whyNone_25 : decode cX6_whyNone 25 = .ok (.ireturn, 1) := by decide +kernel
set_option maxRecDepth 20000 in
theorem ggX6_write_X6_whyNone : GoodIn wsX6_write wsX6_whyNone := goodIn_r _ [8, 3, 9, 10, 7, 11, 12, 13, 14, 15, 22, 23, 24, 25, 26, 27, 28, 29, 30, 31, 32, 33, 34, 35, 36, 37, 38] (by decide +kernel) (by decide +kernel)
set_option maxRecDepth 20000 in
theorem gX6_write_X6_whyNone : GoodIn wsX6_write (wsV RX6 190 RX6 yX6_whyNone wsX6_whyNone) := goodIn_app (goodIn_of _ (by decide +kernel)) ggX6_write_X6_whyNone
set_option maxRecDepth 20000 in
theorem ggX6_write_X6_in : GoodIn wsX6_write wsX6_in := goodIn_r _ [15] (by decide +kernel) (by decide +kernel)
set_option maxRecDepth 20000 in
theorem gX6_write_X6_in : GoodIn wsX6_write (va_wsS RX6 42 yX6_in wsX6_in) := goodIn_app (goodIn_of _ (by decide +kernel)) ggX6_write_X6_in
set_option maxRecDepth 20000 in
theorem ggX6_write_X6_finds : GoodIn wsX6_write wsX6_finds := goodIn_r _ [19, 20, 21, 22, 23, 24, 25, 26, 27, 28, 29, 30, 31, 32, 33, 34, 35, 36, 37, 38] (by decide +kernel) (by decide +kernel)
set_option maxRecDepth 20000 in
theorem gX6_write_X6_finds : GoodIn wsX6_write (wsV RX6 121 RX6 yX6_finds wsX6_finds) := goodIn_app (goodIn_of _ (by decide +kernel)) ggX6_write_X6_finds
theorem dX6_write_0 : decode cX6_write 0 = .ok (.aload_n 0, 1) := by decide +kernel
theorem dX6_write_1 : decode cX6_write 1 = .ok (.iload_n 1, 1) := by decide +kernel
theorem dX6_write_2 : decode cX6_write 2 = .ok (.invokevirtual 190, 3) := by decide +kernel
theorem dX6_write_5 : decode cX6_write 5 = .ok (.istore 4, 2) := by decide +kernel
theorem dX6_write_7 : decode cX6_write 7 = .ok (.iload 4, 2) := by decide +kernel
theorem dX6_write_9 : decode cX6_write 9 = .ok (.ifCond .ge 25, 3) := by decide +kernel
theorem dX6_write_12 : decode cX6_write 12 = .ok (.iload_n 2, 1) := by decide +kernel
theorem dX6_write_13 : decode cX6_write 13 = .ok (.i2l, 1) := by decide +kernel
theorem dX6_write_14 : decode cX6_write 14 = .ok (.lconst 0, 1) := by decide +kernel
theorem dX6_write_15 : decode cX6_write 15 = .ok (.aload_n 0, 1) := by decide +kernel
theorem dX6_write_16 : decode cX6_write 16 = .ok (.getfield 32, 3) := by decide +kernel
theorem dX6_write_19 : decode cX6_write 19 = .ok (.iload_n 1, 1) := by decide +kernel
theorem dX6_write_20 : decode cX6_write 20 = .ok (.iaload, 1) := by decide +kernel
theorem dX6_write_21 : decode cX6_write 21 = .ok (.iconst 1, 1) := by decide +kernel
theorem dX6_write_22 : decode cX6_write 22 = .ok (.isub, 1) := by decide +kernel
theorem dX6_write_23 : decode cX6_write 23 = .ok (.i2l, 1) := by decide +kernel
theorem dX6_write_24 : decode cX6_write 24 = .ok (.invokestatic 42, 3) := by decide +kernel
theorem dX6_write_27 : decode cX6_write 27 = .ok (.ifCond .ne 7, 3) := by decide +kernel
theorem dX6_write_30 : decode cX6_write 30 = .ok (.iconst 0, 1) := by decide +kernel
theorem dX6_write_31 : decode cX6_write 31 = .ok (.goto 5, 3) := by decide +kernel
theorem dX6_write_34 : decode cX6_write 34 = .ok (.iload 4, 2) := by decide +kernel
theorem dX6_write_36 : decode cX6_write 36 = .ok (.istore 4, 2) := by decide +kernel
theorem dX6_write_38 : decode cX6_write 38 = .ok (.iload 4, 2) := by decide +kernel
theorem dX6_write_40 : decode cX6_write 40 = .ok (.ifCond .lt 10, 3) := by decide +kernel
theorem dX6_write_43 : decode cX6_write 43 = .ok (.aload_n 0, 1) := by decide +kernel
theorem dX6_write_44 : decode cX6_write 44 = .ok (.iload 4, 2) := by decide +kernel
theorem dX6_write_46 : decode cX6_write 46 = .ok (.invokevirtual 121, 3) := by decide +kernel
theorem dX6_write_49 : decode cX6_write 49 = .ok (.ireturn, 1) := by decide +kernel
theorem dX6_write_50 : decode cX6_write 50 = .ok (.aload_n 0, 1) := by decide +kernel
theorem dX6_write_51 : decode cX6_write 51 = .ok (.getfield 35, 3) := by decide +kernel
theorem dX6_write_54 : decode cX6_write 54 = .ok (.bipush 40, 2) := by decide +kernel
theorem dX6_write_56 : decode cX6_write 56 = .ok (.iload_n 1, 1) := by decide +kernel
theorem dX6_write_57 : decode cX6_write 57 = .ok (.imul, 1) := by decide +kernel
theorem dX6_write_58 : decode cX6_write 58 = .ok (.iload_n 2, 1) := by decide +kernel
theorem dX6_write_59 : decode cX6_write 59 = .ok (.iadd, 1) := by decide +kernel
theorem dX6_write_60 : decode cX6_write 60 = .ok (.aload_n 0, 1) := by decide +kernel
theorem dX6_write_61 : decode cX6_write 61 = .ok (.getfield 29, 3) := by decide +kernel
theorem dX6_write_64 : decode cX6_write 64 = .ok (.iload_n 1, 1) := by decide +kernel
theorem dX6_write_65 : decode cX6_write 65 = .ok (.iaload, 1) := by decide +kernel
theorem dX6_write_66 : decode cX6_write 66 = .ok (.bipush 8, 2) := by decide +kernel
theorem dX6_write_68 : decode cX6_write 68 = .ok (.if_icmp .ne 8, 3) := by decide +kernel
theorem dX6_write_71 : decode cX6_write 71 = .ok (.iload_n 3, 1) := by decide +kernel
theorem dX6_write_72 : decode cX6_write 72 = .ok (.i2b, 1) := by decide +kernel
theorem dX6_write_73 : decode cX6_write 73 = .ok (.goto 20, 3) := by decide +kernel
theorem dX6_write_76 : decode cX6_write 76 = .ok (.aload_n 0, 1) := by decide +kernel
theorem dX6_write_77 : decode cX6_write 77 = .ok (.getfield 29, 3) := by decide +kernel
theorem dX6_write_80 : decode cX6_write 80 = .ok (.iload_n 1, 1) := by decide +kernel
theorem dX6_write_81 : decode cX6_write 81 = .ok (.iaload, 1) := by decide +kernel
theorem dX6_write_82 : decode cX6_write 82 = .ok (.bipush 16, 2) := by decide +kernel
theorem dX6_write_84 : decode cX6_write 84 = .ok (.if_icmp .ne 8, 3) := by decide +kernel
theorem dX6_write_87 : decode cX6_write 87 = .ok (.iload_n 3, 1) := by decide +kernel
theorem dX6_write_88 : decode cX6_write 88 = .ok (.i2s, 1) := by decide +kernel
theorem dX6_write_89 : decode cX6_write 89 = .ok (.goto 4, 3) := by decide +kernel
theorem dX6_write_92 : decode cX6_write 92 = .ok (.iload_n 3, 1) := by decide +kernel
theorem dX6_write_93 : decode cX6_write 93 = .ok (.iastore, 1) := by decide +kernel
theorem dX6_write_94 : decode cX6_write 94 = .ok (.iconst 1, 1) := by decide +kernel
theorem dX6_write_95 : decode cX6_write 95 = .ok (.ireturn, 1) := by decide +kernel
set_option maxRecDepth 20000 in
theorem ggX6_copy_X6_isSheet : GoodIn wsX6_copy wsX6_isSheet := goodIn_r _ [8, 9, 10, 11, 7, 12] (by decide +kernel) (by decide +kernel)
set_option maxRecDepth 20000 in
theorem gX6_copy_X6_isSheet : GoodIn wsX6_copy (va_wsS RX6 315 yX6_isSheet wsX6_isSheet) := goodIn_app (goodIn_of _ (by decide +kernel)) ggX6_copy_X6_isSheet
set_option maxRecDepth 20000 in
theorem ggX6_copy_X6_finds : GoodIn wsX6_copy wsX6_finds := goodIn_r _ [16, 17, 18, 19, 20, 21, 22, 23, 24, 25, 26, 27, 28, 29, 30, 31, 32, 33, 34, 35] (by decide +kernel) (by decide +kernel)
set_option maxRecDepth 20000 in
theorem gX6_copy_X6_finds : GoodIn wsX6_copy (wsV RX6 121 RX6 yX6_finds wsX6_finds) := goodIn_app (goodIn_of _ (by decide +kernel)) ggX6_copy_X6_finds
theorem dX6_copy_0 : decode cX6_copy 0 = .ok (.iload_n 1, 1) := by decide +kernel
theorem dX6_copy_1 : decode cX6_copy 1 = .ok (.invokestatic 315, 3) := by decide +kernel
theorem dX6_copy_4 : decode cX6_copy 4 = .ok (.ifCond .eq 10, 3) := by decide +kernel
theorem dX6_copy_7 : decode cX6_copy 7 = .ok (.iload_n 3, 1) := by decide +kernel
theorem dX6_copy_8 : decode cX6_copy 8 = .ok (.invokestatic 315, 3) := by decide +kernel
theorem dX6_copy_11 : decode cX6_copy 11 = .ok (.ifCond .ne 9, 3) := by decide +kernel
theorem dX6_copy_14 : decode cX6_copy 14 = .ok (.aload_n 0, 1) := by decide +kernel
theorem dX6_copy_15 : decode cX6_copy 15 = .ok (.iconst 0, 1) := by decide +kernel
theorem dX6_copy_16 : decode cX6_copy 16 = .ok (.invokevirtual 121, 3) := by decide +kernel
theorem dX6_copy_19 : decode cX6_copy 19 = .ok (.ireturn, 1) := by decide +kernel
theorem dX6_copy_20 : decode cX6_copy 20 = .ok (.aload_n 0, 1) := by decide +kernel
theorem dX6_copy_21 : decode cX6_copy 21 = .ok (.getfield 29, 3) := by decide +kernel
theorem dX6_copy_24 : decode cX6_copy 24 = .ok (.iload_n 1, 1) := by decide +kernel
theorem dX6_copy_25 : decode cX6_copy 25 = .ok (.iaload, 1) := by decide +kernel
theorem dX6_copy_26 : decode cX6_copy 26 = .ok (.ifCond .eq 12, 3) := by decide +kernel
theorem dX6_copy_29 : decode cX6_copy 29 = .ok (.aload_n 0, 1) := by decide +kernel
theorem dX6_copy_30 : decode cX6_copy 30 = .ok (.getfield 29, 3) := by decide +kernel
theorem dX6_copy_33 : decode cX6_copy 33 = .ok (.iload_n 3, 1) := by decide +kernel
theorem dX6_copy_34 : decode cX6_copy 34 = .ok (.iaload, 1) := by decide +kernel
theorem dX6_copy_35 : decode cX6_copy 35 = .ok (.ifCond .ne 9, 3) := by decide +kernel
theorem dX6_copy_38 : decode cX6_copy 38 = .ok (.aload_n 0, 1) := by decide +kernel
theorem dX6_copy_39 : decode cX6_copy 39 = .ok (.iconst 5, 1) := by decide +kernel
theorem dX6_copy_40 : decode cX6_copy 40 = .ok (.invokevirtual 121, 3) := by decide +kernel
theorem dX6_copy_43 : decode cX6_copy 43 = .ok (.ireturn, 1) := by decide +kernel
theorem dX6_copy_44 : decode cX6_copy 44 = .ok (.aload_n 0, 1) := by decide +kernel
theorem dX6_copy_45 : decode cX6_copy 45 = .ok (.getfield 29, 3) := by decide +kernel
theorem dX6_copy_48 : decode cX6_copy 48 = .ok (.iload_n 1, 1) := by decide +kernel
theorem dX6_copy_49 : decode cX6_copy 49 = .ok (.iaload, 1) := by decide +kernel
theorem dX6_copy_50 : decode cX6_copy 50 = .ok (.aload_n 0, 1) := by decide +kernel
theorem dX6_copy_51 : decode cX6_copy 51 = .ok (.getfield 29, 3) := by decide +kernel
theorem dX6_copy_54 : decode cX6_copy 54 = .ok (.iload_n 3, 1) := by decide +kernel
theorem dX6_copy_55 : decode cX6_copy 55 = .ok (.iaload, 1) := by decide +kernel
theorem dX6_copy_56 : decode cX6_copy 56 = .ok (.if_icmp .eq 9, 3) := by decide +kernel
theorem dX6_copy_59 : decode cX6_copy 59 = .ok (.aload_n 0, 1) := by decide +kernel
theorem dX6_copy_60 : decode cX6_copy 60 = .ok (.iconst 2, 1) := by decide +kernel
theorem dX6_copy_61 : decode cX6_copy 61 = .ok (.invokevirtual 121, 3) := by decide +kernel
theorem dX6_copy_64 : decode cX6_copy 64 = .ok (.ireturn, 1) := by decide +kernel
theorem dX6_copy_65 : decode cX6_copy 65 = .ok (.iload_n 2, 1) := by decide +kernel
theorem dX6_copy_66 : decode cX6_copy 66 = .ok (.ifCond .lt 48, 3) := by decide +kernel
theorem dX6_copy_69 : decode cX6_copy 69 = .ok (.iload 4, 2) := by decide +kernel
theorem dX6_copy_71 : decode cX6_copy 71 = .ok (.ifCond .lt 43, 3) := by decide +kernel
theorem dX6_copy_74 : decode cX6_copy 74 = .ok (.iload 5, 2) := by decide +kernel
theorem dX6_copy_76 : decode cX6_copy 76 = .ok (.ifCond .lt 38, 3) := by decide +kernel
theorem dX6_copy_79 : decode cX6_copy 79 = .ok (.iload_n 2, 1) := by decide +kernel
theorem dX6_copy_80 : decode cX6_copy 80 = .ok (.i2l, 1) := by decide +kernel
theorem dX6_copy_81 : decode cX6_copy 81 = .ok (.iload 5, 2) := by decide +kernel
theorem dX6_copy_83 : decode cX6_copy 83 = .ok (.i2l, 1) := by decide +kernel
theorem dX6_copy_84 : decode cX6_copy 84 = .ok (.ladd, 1) := by decide +kernel
theorem dX6_copy_85 : decode cX6_copy 85 = .ok (.aload_n 0, 1) := by decide +kernel
theorem dX6_copy_86 : decode cX6_copy 86 = .ok (.getfield 32, 3) := by decide +kernel
theorem dX6_copy_89 : decode cX6_copy 89 = .ok (.iload_n 1, 1) := by decide +kernel
theorem dX6_copy_90 : decode cX6_copy 90 = .ok (.iaload, 1) := by decide +kernel
theorem dX6_copy_91 : decode cX6_copy 91 = .ok (.i2l, 1) := by decide +kernel
theorem dX6_copy_92 : decode cX6_copy 92 = .ok (.lcmp, 1) := by decide +kernel
theorem dX6_copy_93 : decode cX6_copy 93 = .ok (.ifCond .gt 21, 3) := by decide +kernel
theorem dX6_copy_96 : decode cX6_copy 96 = .ok (.iload 4, 2) := by decide +kernel
theorem dX6_copy_98 : decode cX6_copy 98 = .ok (.i2l, 1) := by decide +kernel
theorem dX6_copy_99 : decode cX6_copy 99 = .ok (.iload 5, 2) := by decide +kernel
theorem dX6_copy_101 : decode cX6_copy 101 = .ok (.i2l, 1) := by decide +kernel
theorem dX6_copy_102 : decode cX6_copy 102 = .ok (.ladd, 1) := by decide +kernel
theorem dX6_copy_103 : decode cX6_copy 103 = .ok (.aload_n 0, 1) := by decide +kernel
theorem dX6_copy_104 : decode cX6_copy 104 = .ok (.getfield 32, 3) := by decide +kernel
theorem dX6_copy_107 : decode cX6_copy 107 = .ok (.iload_n 3, 1) := by decide +kernel
theorem dX6_copy_108 : decode cX6_copy 108 = .ok (.iaload, 1) := by decide +kernel
theorem dX6_copy_109 : decode cX6_copy 109 = .ok (.i2l, 1) := by decide +kernel
theorem dX6_copy_110 : decode cX6_copy 110 = .ok (.lcmp, 1) := by decide +kernel
theorem dX6_copy_111 : decode cX6_copy 111 = .ok (.ifCond .le 9, 3) := by decide +kernel
theorem dX6_copy_114 : decode cX6_copy 114 = .ok (.aload_n 0, 1) := by decide +kernel
theorem dX6_copy_115 : decode cX6_copy 115 = .ok (.iconst 0, 1) := by decide +kernel
theorem dX6_copy_116 : decode cX6_copy 116 = .ok (.invokevirtual 121, 3) := by decide +kernel
theorem dX6_copy_119 : decode cX6_copy 119 = .ok (.ireturn, 1) := by decide +kernel
theorem dX6_copy_120 : decode cX6_copy 120 = .ok (.iconst 0, 1) := by decide +kernel
theorem dX6_copy_121 : decode cX6_copy 121 = .ok (.istore 6, 2) := by decide +kernel
theorem dX6_copy_123 : decode cX6_copy 123 = .ok (.iload 6, 2) := by decide +kernel
theorem dX6_copy_125 : decode cX6_copy 125 = .ok (.iload 5, 2) := by decide +kernel
theorem dX6_copy_127 : decode cX6_copy 127 = .ok (.if_icmp .ge 30, 3) := by decide +kernel
theorem dX6_copy_130 : decode cX6_copy 130 = .ok (.aload_n 0, 1) := by decide +kernel
theorem dX6_copy_131 : decode cX6_copy 131 = .ok (.getfield 38, 3) := by decide +kernel
theorem dX6_copy_134 : decode cX6_copy 134 = .ok (.iload 6, 2) := by decide +kernel
theorem dX6_copy_136 : decode cX6_copy 136 = .ok (.aload_n 0, 1) := by decide +kernel
theorem dX6_copy_137 : decode cX6_copy 137 = .ok (.getfield 35, 3) := by decide +kernel
theorem dX6_copy_140 : decode cX6_copy 140 = .ok (.bipush 40, 2) := by decide +kernel
theorem dX6_copy_142 : decode cX6_copy 142 = .ok (.iload_n 1, 1) := by decide +kernel
theorem dX6_copy_143 : decode cX6_copy 143 = .ok (.imul, 1) := by decide +kernel
theorem dX6_copy_144 : decode cX6_copy 144 = .ok (.iload_n 2, 1) := by decide +kernel
theorem dX6_copy_145 : decode cX6_copy 145 = .ok (.iadd, 1) := by decide +kernel
theorem dX6_copy_146 : decode cX6_copy 146 = .ok (.iload 6, 2) := by decide +kernel
theorem dX6_copy_148 : decode cX6_copy 148 = .ok (.iadd, 1) := by decide +kernel
theorem dX6_copy_149 : decode cX6_copy 149 = .ok (.iaload, 1) := by decide +kernel
theorem dX6_copy_150 : decode cX6_copy 150 = .ok (.iastore, 1) := by decide +kernel
theorem dX6_copy_151 : decode cX6_copy 151 = .ok (.iinc 6 1, 3) := by decide +kernel
theorem dX6_copy_154 : decode cX6_copy 154 = .ok (.goto (-31), 3) := by decide +kernel
theorem dX6_copy_157 : decode cX6_copy 157 = .ok (.iconst 0, 1) := by decide +kernel
theorem dX6_copy_158 : decode cX6_copy 158 = .ok (.istore 6, 2) := by decide +kernel
theorem dX6_copy_160 : decode cX6_copy 160 = .ok (.iload 6, 2) := by decide +kernel
theorem dX6_copy_162 : decode cX6_copy 162 = .ok (.iload 5, 2) := by decide +kernel
theorem dX6_copy_164 : decode cX6_copy 164 = .ok (.if_icmp .ge 31, 3) := by decide +kernel
theorem dX6_copy_167 : decode cX6_copy 167 = .ok (.aload_n 0, 1) := by decide +kernel
theorem dX6_copy_168 : decode cX6_copy 168 = .ok (.getfield 35, 3) := by decide +kernel
theorem dX6_copy_171 : decode cX6_copy 171 = .ok (.bipush 40, 2) := by decide +kernel
theorem dX6_copy_173 : decode cX6_copy 173 = .ok (.iload_n 3, 1) := by decide +kernel
theorem dX6_copy_174 : decode cX6_copy 174 = .ok (.imul, 1) := by decide +kernel
theorem dX6_copy_175 : decode cX6_copy 175 = .ok (.iload 4, 2) := by decide +kernel
theorem dX6_copy_177 : decode cX6_copy 177 = .ok (.iadd, 1) := by decide +kernel
theorem dX6_copy_178 : decode cX6_copy 178 = .ok (.iload 6, 2) := by decide +kernel
theorem dX6_copy_180 : decode cX6_copy 180 = .ok (.iadd, 1) := by decide +kernel
theorem dX6_copy_181 : decode cX6_copy 181 = .ok (.aload_n 0, 1) := by decide +kernel
theorem dX6_copy_182 : decode cX6_copy 182 = .ok (.getfield 38, 3) := by decide +kernel
theorem dX6_copy_185 : decode cX6_copy 185 = .ok (.iload 6, 2) := by decide +kernel
theorem dX6_copy_187 : decode cX6_copy 187 = .ok (.iaload, 1) := by decide +kernel
theorem dX6_copy_188 : decode cX6_copy 188 = .ok (.iastore, 1) := by decide +kernel
theorem dX6_copy_189 : decode cX6_copy 189 = .ok (.iinc 6 1, 3) := by decide +kernel
theorem dX6_copy_192 : decode cX6_copy 192 = .ok (.goto (-32), 3) := by decide +kernel
theorem dX6_copy_195 : decode cX6_copy 195 = .ok (.iload 5, 2) := by decide +kernel
theorem dX6_copy_197 : decode cX6_copy 197 = .ok (.ireturn, 1) := by decide +kernel
set_option maxRecDepth 20000 in
theorem ggX6_load_X6_whyNone : GoodIn wsX6_load wsX6_whyNone := goodIn_r _ [8, 9, 10, 11, 7, 12, 13, 14, 15, 16, 31, 32, 33, 34, 35, 36, 37, 38, 39, 40, 41, 42, 43, 44, 45, 46, 47] (by decide +kernel) (by decide +kernel)
set_option maxRecDepth 20000 in
theorem gX6_load_X6_whyNone : GoodIn wsX6_load (wsV RX6 190 RX6 yX6_whyNone wsX6_whyNone) := goodIn_app (goodIn_of _ (by decide +kernel)) ggX6_load_X6_whyNone
set_option maxRecDepth 20000 in
theorem ggX6_load_X6_finds : GoodIn wsX6_load wsX6_finds := goodIn_r _ [20, 21, 22, 31, 32, 33, 34, 35, 36, 37, 38, 39, 40, 41, 42, 43, 44, 45, 46, 47] (by decide +kernel) (by decide +kernel)
set_option maxRecDepth 20000 in
theorem gX6_load_X6_finds : GoodIn wsX6_load (wsV RX6 121 RX6 yX6_finds wsX6_finds) := goodIn_app (goodIn_of _ (by decide +kernel)) ggX6_load_X6_finds
set_option maxRecDepth 20000 in
theorem ggX6_load_X6_areGoods : GoodIn wsX6_load wsX6_areGoods := goodIn_r _ [25, 26, 14, 15, 7, 16] (by decide +kernel) (by decide +kernel)
set_option maxRecDepth 20000 in
theorem gX6_load_X6_areGoods : GoodIn wsX6_load (va_wsS RX6 187 yX6_areGoods wsX6_areGoods) := goodIn_app (goodIn_of _ (by decide +kernel)) ggX6_load_X6_areGoods
set_option maxRecDepth 20000 in
theorem ggX6_load_X6_sets : GoodIn wsX6_load wsX6_sets := goodIn_r _ [30, 2, 31, 32, 33, 34, 35, 36, 37, 38, 39, 40, 41, 42, 43, 44, 45, 46, 47] (by decide +kernel) (by decide +kernel)
set_option maxRecDepth 20000 in
theorem gX6_load_X6_sets : GoodIn wsX6_load (wsV RX6 90 RX6 yX6_sets wsX6_sets) := goodIn_app (goodIn_of _ (by decide +kernel)) ggX6_load_X6_sets
theorem dX6_load_0 : decode cX6_load 0 = .ok (.aload_n 0, 1) := by decide +kernel
theorem dX6_load_1 : decode cX6_load 1 = .ok (.iload_n 1, 1) := by decide +kernel
theorem dX6_load_2 : decode cX6_load 2 = .ok (.invokevirtual 190, 3) := by decide +kernel
theorem dX6_load_5 : decode cX6_load 5 = .ok (.istore_n 2, 1) := by decide +kernel
theorem dX6_load_6 : decode cX6_load 6 = .ok (.iload_n 2, 1) := by decide +kernel
theorem dX6_load_7 : decode cX6_load 7 = .ok (.ifCond .lt 9, 3) := by decide +kernel
theorem dX6_load_10 : decode cX6_load 10 = .ok (.aload_n 0, 1) := by decide +kernel
theorem dX6_load_11 : decode cX6_load 11 = .ok (.iload_n 2, 1) := by decide +kernel
theorem dX6_load_12 : decode cX6_load 12 = .ok (.invokevirtual 121, 3) := by decide +kernel
theorem dX6_load_15 : decode cX6_load 15 = .ok (.ireturn, 1) := by decide +kernel
theorem dX6_load_16 : decode cX6_load 16 = .ok (.iconst 0, 1) := by decide +kernel
theorem dX6_load_17 : decode cX6_load 17 = .ok (.istore_n 3, 1) := by decide +kernel
theorem dX6_load_18 : decode cX6_load 18 = .ok (.iload_n 3, 1) := by decide +kernel
theorem dX6_load_19 : decode cX6_load 19 = .ok (.aload_n 0, 1) := by decide +kernel
theorem dX6_load_20 : decode cX6_load 20 = .ok (.getfield 32, 3) := by decide +kernel
theorem dX6_load_23 : decode cX6_load 23 = .ok (.iload_n 1, 1) := by decide +kernel
theorem dX6_load_24 : decode cX6_load 24 = .ok (.iaload, 1) := by decide +kernel
theorem dX6_load_25 : decode cX6_load 25 = .ok (.if_icmp .ge 53, 3) := by decide +kernel
theorem dX6_load_28 : decode cX6_load 28 = .ok (.iload_n 3, 1) := by decide +kernel
theorem dX6_load_29 : decode cX6_load 29 = .ok (.aload_n 0, 1) := by decide +kernel
theorem dX6_load_30 : decode cX6_load 30 = .ok (.getfield 7, 3) := by decide +kernel
theorem dX6_load_33 : decode cX6_load 33 = .ok (.iconst 0, 1) := by decide +kernel
theorem dX6_load_34 : decode cX6_load 34 = .ok (.iaload, 1) := by decide +kernel
theorem dX6_load_35 : decode cX6_load 35 = .ok (.if_icmp .ge 43, 3) := by decide +kernel
theorem dX6_load_38 : decode cX6_load 38 = .ok (.aload_n 0, 1) := by decide +kernel
theorem dX6_load_39 : decode cX6_load 39 = .ok (.getfield 35, 3) := by decide +kernel
theorem dX6_load_42 : decode cX6_load 42 = .ok (.bipush 40, 2) := by decide +kernel
theorem dX6_load_44 : decode cX6_load 44 = .ok (.iload_n 1, 1) := by decide +kernel
theorem dX6_load_45 : decode cX6_load 45 = .ok (.imul, 1) := by decide +kernel
theorem dX6_load_46 : decode cX6_load 46 = .ok (.iload_n 3, 1) := by decide +kernel
theorem dX6_load_47 : decode cX6_load 47 = .ok (.iadd, 1) := by decide +kernel
theorem dX6_load_48 : decode cX6_load 48 = .ok (.iaload, 1) := by decide +kernel
theorem dX6_load_49 : decode cX6_load 49 = .ok (.invokestatic 187, 3) := by decide +kernel
theorem dX6_load_52 : decode cX6_load 52 = .ok (.ifCond .eq 26, 3) := by decide +kernel
theorem dX6_load_55 : decode cX6_load 55 = .ok (.aload_n 0, 1) := by decide +kernel
theorem dX6_load_56 : decode cX6_load 56 = .ok (.iload_n 3, 1) := by decide +kernel
theorem dX6_load_57 : decode cX6_load 57 = .ok (.iconst 2, 1) := by decide +kernel
theorem dX6_load_58 : decode cX6_load 58 = .ok (.aload_n 0, 1) := by decide +kernel
theorem dX6_load_59 : decode cX6_load 59 = .ok (.getfield 35, 3) := by decide +kernel
theorem dX6_load_62 : decode cX6_load 62 = .ok (.bipush 40, 2) := by decide +kernel
theorem dX6_load_64 : decode cX6_load 64 = .ok (.iload_n 1, 1) := by decide +kernel
theorem dX6_load_65 : decode cX6_load 65 = .ok (.imul, 1) := by decide +kernel
theorem dX6_load_66 : decode cX6_load 66 = .ok (.iload_n 3, 1) := by decide +kernel
theorem dX6_load_67 : decode cX6_load 67 = .ok (.iadd, 1) := by decide +kernel
theorem dX6_load_68 : decode cX6_load 68 = .ok (.iaload, 1) := by decide +kernel
theorem dX6_load_69 : decode cX6_load 69 = .ok (.invokevirtual 90, 3) := by decide +kernel
theorem dX6_load_72 : decode cX6_load 72 = .ok (.iinc 3 1, 3) := by decide +kernel
theorem dX6_load_75 : decode cX6_load 75 = .ok (.goto (-57), 3) := by decide +kernel
theorem dX6_load_78 : decode cX6_load 78 = .ok (.iload_n 3, 1) := by decide +kernel
theorem dX6_load_79 : decode cX6_load 79 = .ok (.ireturn, 1) := by decide +kernel
set_option maxRecDepth 20000 in
theorem ggX6_judge_X6_whyNone : GoodIn wsX6_judge wsX6_whyNone := goodIn_r _ [8, 9, 10, 11, 7, 12, 13, 14, 15, 16, 27, 28, 29, 30, 31, 32, 33, 34, 35, 36, 37, 38, 39, 40, 41, 42, 43] (by decide +kernel) (by decide +kernel)
set_option maxRecDepth 20000 in
theorem gX6_judge_X6_whyNone : GoodIn wsX6_judge (wsV RX6 190 RX6 yX6_whyNone wsX6_whyNone) := goodIn_app (goodIn_of _ (by decide +kernel)) ggX6_judge_X6_whyNone
set_option maxRecDepth 20000 in
theorem ggX6_judge_X6_finds : GoodIn wsX6_judge wsX6_finds := goodIn_r _ [20, 21, 22, 27, 28, 29, 30, 31, 32, 33, 34, 35, 36, 37, 38, 39, 40, 41, 42, 43] (by decide +kernel) (by decide +kernel)
set_option maxRecDepth 20000 in
theorem gX6_judge_X6_finds : GoodIn wsX6_judge (wsV RX6 121 RX6 yX6_finds wsX6_finds) := goodIn_app (goodIn_of _ (by decide +kernel)) ggX6_judge_X6_finds
set_option maxRecDepth 20000 in
theorem ggX6_judge_X6_isGood : GoodIn wsX6_judge wsX6_isGood := goodIn_r _ [25, 26, 14, 15, 7, 16] (by decide +kernel) (by decide +kernel)
set_option maxRecDepth 20000 in
theorem gX6_judge_X6_isGood : GoodIn wsX6_judge (va_wsS RX6 126 yX6_isGood wsX6_isGood) := goodIn_app (goodIn_of _ (by decide +kernel)) ggX6_judge_X6_isGood
theorem dX6_judge_0 : decode cX6_judge 0 = .ok (.aload_n 0, 1) := by decide +kernel
theorem dX6_judge_1 : decode cX6_judge 1 = .ok (.iload_n 1, 1) := by decide +kernel
theorem dX6_judge_2 : decode cX6_judge 2 = .ok (.invokevirtual 190, 3) := by decide +kernel
theorem dX6_judge_5 : decode cX6_judge 5 = .ok (.istore_n 2, 1) := by decide +kernel
theorem dX6_judge_6 : decode cX6_judge 6 = .ok (.iload_n 2, 1) := by decide +kernel
theorem dX6_judge_7 : decode cX6_judge 7 = .ok (.ifCond .lt 9, 3) := by decide +kernel
theorem dX6_judge_10 : decode cX6_judge 10 = .ok (.aload_n 0, 1) := by decide +kernel
theorem dX6_judge_11 : decode cX6_judge 11 = .ok (.iload_n 2, 1) := by decide +kernel
theorem dX6_judge_12 : decode cX6_judge 12 = .ok (.invokevirtual 121, 3) := by decide +kernel
theorem dX6_judge_15 : decode cX6_judge 15 = .ok (.ireturn, 1) := by decide +kernel
theorem dX6_judge_16 : decode cX6_judge 16 = .ok (.iconst 0, 1) := by decide +kernel
theorem dX6_judge_17 : decode cX6_judge 17 = .ok (.istore_n 3, 1) := by decide +kernel
theorem dX6_judge_18 : decode cX6_judge 18 = .ok (.iload_n 3, 1) := by decide +kernel
theorem dX6_judge_19 : decode cX6_judge 19 = .ok (.aload_n 0, 1) := by decide +kernel
theorem dX6_judge_20 : decode cX6_judge 20 = .ok (.getfield 32, 3) := by decide +kernel
theorem dX6_judge_23 : decode cX6_judge 23 = .ok (.iload_n 1, 1) := by decide +kernel
theorem dX6_judge_24 : decode cX6_judge 24 = .ok (.iaload, 1) := by decide +kernel
theorem dX6_judge_25 : decode cX6_judge 25 = .ok (.if_icmp .ge 43, 3) := by decide +kernel
theorem dX6_judge_28 : decode cX6_judge 28 = .ok (.iload_n 3, 1) := by decide +kernel
theorem dX6_judge_29 : decode cX6_judge 29 = .ok (.invokestatic 126, 3) := by decide +kernel
theorem dX6_judge_32 : decode cX6_judge 32 = .ok (.ifCond .eq 26, 3) := by decide +kernel
theorem dX6_judge_35 : decode cX6_judge 35 = .ok (.aload_n 0, 1) := by decide +kernel
theorem dX6_judge_36 : decode cX6_judge 36 = .ok (.getfield 35, 3) := by decide +kernel
theorem dX6_judge_39 : decode cX6_judge 39 = .ok (.bipush 40, 2) := by decide +kernel
theorem dX6_judge_41 : decode cX6_judge 41 = .ok (.iload_n 1, 1) := by decide +kernel
theorem dX6_judge_42 : decode cX6_judge 42 = .ok (.imul, 1) := by decide +kernel
theorem dX6_judge_43 : decode cX6_judge 43 = .ok (.iload_n 3, 1) := by decide +kernel
theorem dX6_judge_44 : decode cX6_judge 44 = .ok (.iadd, 1) := by decide +kernel
theorem dX6_judge_45 : decode cX6_judge 45 = .ok (.iaload, 1) := by decide +kernel
theorem dX6_judge_46 : decode cX6_judge 46 = .ok (.aload_n 0, 1) := by decide +kernel
theorem dX6_judge_47 : decode cX6_judge 47 = .ok (.getfield 7, 3) := by decide +kernel
theorem dX6_judge_50 : decode cX6_judge 50 = .ok (.bipush 13, 2) := by decide +kernel
theorem dX6_judge_52 : decode cX6_judge 52 = .ok (.iload_n 3, 1) := by decide +kernel
theorem dX6_judge_53 : decode cX6_judge 53 = .ok (.iadd, 1) := by decide +kernel
theorem dX6_judge_54 : decode cX6_judge 54 = .ok (.iaload, 1) := by decide +kernel
theorem dX6_judge_55 : decode cX6_judge 55 = .ok (.if_icmp .eq 7, 3) := by decide +kernel
theorem dX6_judge_58 : decode cX6_judge 58 = .ok (.iconst 1, 1) := by decide +kernel
theorem dX6_judge_59 : decode cX6_judge 59 = .ok (.iload_n 3, 1) := by decide +kernel
theorem dX6_judge_60 : decode cX6_judge 60 = .ok (.iadd, 1) := by decide +kernel
theorem dX6_judge_61 : decode cX6_judge 61 = .ok (.ireturn, 1) := by decide +kernel
theorem dX6_judge_62 : decode cX6_judge 62 = .ok (.iinc 3 1, 3) := by decide +kernel
theorem dX6_judge_65 : decode cX6_judge 65 = .ok (.goto (-47), 3) := by decide +kernel
theorem dX6_judge_68 : decode cX6_judge 68 = .ok (.iconst 0, 1) := by decide +kernel
theorem dX6_judge_69 : decode cX6_judge 69 = .ok (.ireturn, 1) := by decide +kernel
set_option maxRecDepth 20000 in
theorem ggX6_image_X6_copies : GoodIn wsX6_image wsX6_copies := goodIn_r _ [7] (by decide +kernel) (by decide +kernel)
set_option maxRecDepth 20000 in
theorem gX6_image_X6_copies : GoodIn wsX6_image (va_wsS RX6 158 yX6_copies wsX6_copies) := goodIn_app (goodIn_of _ (by decide +kernel)) ggX6_image_X6_copies
theorem dX6_image_0 : decode cX6_image 0 = .ok (.aload_n 0, 1) := by decide +kernel
theorem dX6_image_1 : decode cX6_image 1 = .ok (.getfield 7, 3) := by decide +kernel
theorem dX6_image_4 : decode cX6_image 4 = .ok (.aload_n 0, 1) := by decide +kernel
theorem dX6_image_5 : decode cX6_image 5 = .ok (.getfield 19, 3) := by decide +kernel
theorem dX6_image_8 : decode cX6_image 8 = .ok (.invokestatic 158, 3) := by decide +kernel
theorem dX6_image_11 : decode cX6_image 11 = .ok (.aload_n 0, 1) := by decide +kernel
theorem dX6_image_12 : decode cX6_image 12 = .ok (.iconst 1, 1) := by decide +kernel
theorem dX6_image_13 : decode cX6_image 13 = .ok (.putfield 318, 3) := by decide +kernel
theorem dX6_image_16 : decode cX6_image 16 = .ok (.iconst 1, 1) := by decide +kernel
theorem dX6_image_17 : decode cX6_image 17 = .ok (.ireturn, 1) := by decide +kernel
set_option maxRecDepth 20000 in
theorem ggX6_undo_X6_finds : GoodIn wsX6_undo wsX6_finds := goodIn_r _ [8, 9, 10, 14, 15, 16, 17, 18, 19, 20, 21, 22, 23, 24, 25, 26, 27, 28, 29, 30] (by decide +kernel) (by decide +kernel)
set_option maxRecDepth 20000 in
theorem gX6_undo_X6_finds : GoodIn wsX6_undo (wsV RX6 121 RX6 yX6_finds wsX6_finds) := goodIn_app (goodIn_of _ (by decide +kernel)) ggX6_undo_X6_finds
set_option maxRecDepth 20000 in
theorem ggX6_undo_X6_copies : GoodIn wsX6_undo wsX6_copies := goodIn_r _ [13] (by decide +kernel) (by decide +kernel)
set_option maxRecDepth 20000 in
theorem gX6_undo_X6_copies : GoodIn wsX6_undo (va_wsS RX6 158 yX6_copies wsX6_copies) := goodIn_app (goodIn_of _ (by decide +kernel)) ggX6_undo_X6_copies
theorem dX6_undo_0 : decode cX6_undo 0 = .ok (.aload_n 0, 1) := by decide +kernel
theorem dX6_undo_1 : decode cX6_undo 1 = .ok (.getfield 318, 3) := by decide +kernel
theorem dX6_undo_4 : decode cX6_undo 4 = .ok (.ifCond .ne 9, 3) := by decide +kernel
theorem dX6_undo_7 : decode cX6_undo 7 = .ok (.aload_n 0, 1) := by decide +kernel
theorem dX6_undo_8 : decode cX6_undo 8 = .ok (.iconst 3, 1) := by decide +kernel
theorem dX6_undo_9 : decode cX6_undo 9 = .ok (.invokevirtual 121, 3) := by decide +kernel
theorem dX6_undo_12 : decode cX6_undo 12 = .ok (.ireturn, 1) := by decide +kernel
theorem dX6_undo_13 : decode cX6_undo 13 = .ok (.aload_n 0, 1) := by decide +kernel
theorem dX6_undo_14 : decode cX6_undo 14 = .ok (.getfield 19, 3) := by decide +kernel
theorem dX6_undo_17 : decode cX6_undo 17 = .ok (.aload_n 0, 1) := by decide +kernel
theorem dX6_undo_18 : decode cX6_undo 18 = .ok (.getfield 7, 3) := by decide +kernel
theorem dX6_undo_21 : decode cX6_undo 21 = .ok (.invokestatic 158, 3) := by decide +kernel
theorem dX6_undo_24 : decode cX6_undo 24 = .ok (.aload_n 0, 1) := by decide +kernel
theorem dX6_undo_25 : decode cX6_undo 25 = .ok (.getfield 7, 3) := by decide +kernel
theorem dX6_undo_28 : decode cX6_undo 28 = .ok (.iconst 1, 1) := by decide +kernel
theorem dX6_undo_29 : decode cX6_undo 29 = .ok (.iaload, 1) := by decide +kernel
theorem dX6_undo_30 : decode cX6_undo 30 = .ok (.ireturn, 1) := by decide +kernel
theorem dX6_tear_0 : decode cX6_tear 0 = .ok (.aload_n 0, 1) := by decide +kernel
theorem dX6_tear_1 : decode cX6_tear 1 = .ok (.getfield 318, 3) := by decide +kernel
theorem dX6_tear_4 : decode cX6_tear 4 = .ok (.ifCond .eq 7, 3) := by decide +kernel
theorem dX6_tear_7 : decode cX6_tear 7 = .ok (.iconst 1, 1) := by decide +kernel
theorem dX6_tear_8 : decode cX6_tear 8 = .ok (.goto 4, 3) := by decide +kernel
theorem dX6_tear_11 : decode cX6_tear 11 = .ok (.iconst 0, 1) := by decide +kernel
theorem dX6_tear_12 : decode cX6_tear 12 = .ok (.istore_n 1, 1) := by decide +kernel
theorem dX6_tear_13 : decode cX6_tear 13 = .ok (.aload_n 0, 1) := by decide +kernel
theorem dX6_tear_14 : decode cX6_tear 14 = .ok (.iconst 0, 1) := by decide +kernel
theorem dX6_tear_15 : decode cX6_tear 15 = .ok (.putfield 318, 3) := by decide +kernel
theorem dX6_tear_18 : decode cX6_tear 18 = .ok (.iload_n 1, 1) := by decide +kernel
theorem dX6_tear_19 : decode cX6_tear 19 = .ok (.ireturn, 1) := by decide +kernel
theorem dX6_holding_0 : decode cX6_holding 0 = .ok (.iconst 0, 1) := by decide +kernel
theorem dX6_holding_1 : decode cX6_holding 1 = .ok (.istore_n 1, 1) := by decide +kernel
theorem dX6_holding_2 : decode cX6_holding 2 = .ok (.iconst 0, 1) := by decide +kernel
theorem dX6_holding_3 : decode cX6_holding 3 = .ok (.istore_n 2, 1) := by decide +kernel
theorem dX6_holding_4 : decode cX6_holding 4 = .ok (.iload_n 2, 1) := by decide +kernel
theorem dX6_holding_5 : decode cX6_holding 5 = .ok (.bipush 10, 2) := by decide +kernel
theorem dX6_holding_7 : decode cX6_holding 7 = .ok (.if_icmp .ge 29, 3) := by decide +kernel
theorem dX6_holding_10 : decode cX6_holding 10 = .ok (.iload_n 1, 1) := by decide +kernel
theorem dX6_holding_11 : decode cX6_holding 11 = .ok (.aload_n 0, 1) := by decide +kernel
theorem dX6_holding_12 : decode cX6_holding 12 = .ok (.getfield 7, 3) := by decide +kernel
theorem dX6_holding_15 : decode cX6_holding 15 = .ok (.bipush 73, 2) := by decide +kernel
theorem dX6_holding_17 : decode cX6_holding 17 = .ok (.iload_n 2, 1) := by decide +kernel
theorem dX6_holding_18 : decode cX6_holding 18 = .ok (.iadd, 1) := by decide +kernel
theorem dX6_holding_19 : decode cX6_holding 19 = .ok (.iaload, 1) := by decide +kernel
theorem dX6_holding_20 : decode cX6_holding 20 = .ok (.ifCond .le 7, 3) := by decide +kernel
theorem dX6_holding_23 : decode cX6_holding 23 = .ok (.iconst 1, 1) := by decide +kernel
theorem dX6_holding_24 : decode cX6_holding 24 = .ok (.goto 4, 3) := by decide +kernel
theorem dX6_holding_27 : decode cX6_holding 27 = .ok (.iconst 0, 1) := by decide +kernel
theorem dX6_holding_28 : decode cX6_holding 28 = .ok (.iadd, 1) := by decide +kernel
theorem dX6_holding_29 : decode cX6_holding 29 = .ok (.istore_n 1, 1) := by decide +kernel
theorem dX6_holding_30 : decode cX6_holding 30 = .ok (.iinc 2 1, 3) := by decide +kernel
theorem dX6_holding_33 : decode cX6_holding 33 = .ok (.goto (-29), 3) := by decide +kernel
theorem dX6_holding_36 : decode cX6_holding 36 = .ok (.iload_n 1, 1) := by decide +kernel
theorem dX6_holding_37 : decode cX6_holding 37 = .ok (.ireturn, 1) := by decide +kernel
set_option maxRecDepth 20000 in
theorem ggX6_count_X6_sumOf : GoodIn wsX6_count wsX6_sumOf := goodIn_r _ [7, 1, 8, 9, 10, 6, 11, 22, 23, 24, 25, 26, 27, 28, 29, 30, 31, 32, 33, 34, 35, 36, 37, 38] (by decide +kernel) (by decide +kernel)
set_option maxRecDepth 20000 in
theorem gX6_count_X6_sumOf : GoodIn wsX6_count (wsV RX6 151 RX6 yX6_sumOf wsX6_sumOf) := goodIn_app (goodIn_of _ (by decide +kernel)) ggX6_count_X6_sumOf
set_option maxRecDepth 20000 in
theorem ggX6_count_X6_holding : GoodIn wsX6_count wsX6_holding := goodIn_r _ [15, 1, 22, 23, 24, 25, 26, 27, 28, 29, 30, 31, 32, 33, 34, 35, 36, 37, 38] (by decide +kernel) (by decide +kernel)
set_option maxRecDepth 20000 in
theorem gX6_count_X6_holding : GoodIn wsX6_count (wsV RX6 322 RX6 yX6_holding wsX6_holding) := goodIn_app (goodIn_of _ (by decide +kernel)) ggX6_count_X6_holding
set_option maxRecDepth 20000 in
theorem ggX6_count_X6_finds : GoodIn wsX6_count wsX6_finds := goodIn_r _ [19, 20, 21, 22, 23, 24, 25, 26, 27, 28, 29, 30, 31, 32, 33, 34, 35, 36, 37, 38] (by decide +kernel) (by decide +kernel)
set_option maxRecDepth 20000 in
theorem gX6_count_X6_finds : GoodIn wsX6_count (wsV RX6 121 RX6 yX6_finds wsX6_finds) := goodIn_app (goodIn_of _ (by decide +kernel)) ggX6_count_X6_finds
theorem dX6_count_0 : decode cX6_count 0 = .ok (.iload_n 1, 1) := by decide +kernel
theorem dX6_count_1 : decode cX6_count 1 = .ok (.tableswitch 98 0 7 #[47, 54, 61, 69, 75, 81, 86, 93], 47) := by decide +kernel
theorem dX6_count_48 : decode cX6_count 48 = .ok (.aload_n 0, 1) := by decide +kernel
theorem dX6_count_49 : decode cX6_count 49 = .ok (.getfield 7, 3) := by decide +kernel
theorem dX6_count_52 : decode cX6_count 52 = .ok (.iconst 1, 1) := by decide +kernel
theorem dX6_count_53 : decode cX6_count 53 = .ok (.iaload, 1) := by decide +kernel
theorem dX6_count_54 : decode cX6_count 54 = .ok (.ireturn, 1) := by decide +kernel
theorem dX6_count_55 : decode cX6_count 55 = .ok (.aload_n 0, 1) := by decide +kernel
theorem dX6_count_56 : decode cX6_count 56 = .ok (.getfield 7, 3) := by decide +kernel
theorem dX6_count_59 : decode cX6_count 59 = .ok (.iconst 0, 1) := by decide +kernel
theorem dX6_count_60 : decode cX6_count 60 = .ok (.iaload, 1) := by decide +kernel
theorem dX6_count_61 : decode cX6_count 61 = .ok (.ireturn, 1) := by decide +kernel
theorem dX6_count_62 : decode cX6_count 62 = .ok (.aload_n 0, 1) := by decide +kernel
theorem dX6_count_63 : decode cX6_count 63 = .ok (.getfield 7, 3) := by decide +kernel
theorem dX6_count_66 : decode cX6_count 66 = .ok (.bipush 6, 2) := by decide +kernel
theorem dX6_count_68 : decode cX6_count 68 = .ok (.iaload, 1) := by decide +kernel
theorem dX6_count_69 : decode cX6_count 69 = .ok (.ireturn, 1) := by decide +kernel
theorem dX6_count_70 : decode cX6_count 70 = .ok (.aload_n 0, 1) := by decide +kernel
theorem dX6_count_71 : decode cX6_count 71 = .ok (.iconst 4, 1) := by decide +kernel
theorem dX6_count_72 : decode cX6_count 72 = .ok (.invokevirtual 151, 3) := by decide +kernel
theorem dX6_count_75 : decode cX6_count 75 = .ok (.ireturn, 1) := by decide +kernel
theorem dX6_count_76 : decode cX6_count 76 = .ok (.aload_n 0, 1) := by decide +kernel
theorem dX6_count_77 : decode cX6_count 77 = .ok (.iconst 3, 1) := by decide +kernel
theorem dX6_count_78 : decode cX6_count 78 = .ok (.invokevirtual 151, 3) := by decide +kernel
theorem dX6_count_81 : decode cX6_count 81 = .ok (.ireturn, 1) := by decide +kernel
theorem dX6_count_82 : decode cX6_count 82 = .ok (.aload_n 0, 1) := by decide +kernel
theorem dX6_count_83 : decode cX6_count 83 = .ok (.getfield 208, 3) := by decide +kernel
theorem dX6_count_86 : decode cX6_count 86 = .ok (.ireturn, 1) := by decide +kernel
theorem dX6_count_87 : decode cX6_count 87 = .ok (.aload_n 0, 1) := by decide +kernel
theorem dX6_count_88 : decode cX6_count 88 = .ok (.getfield 7, 3) := by decide +kernel
theorem dX6_count_91 : decode cX6_count 91 = .ok (.iconst 2, 1) := by decide +kernel
theorem dX6_count_92 : decode cX6_count 92 = .ok (.iaload, 1) := by decide +kernel
theorem dX6_count_93 : decode cX6_count 93 = .ok (.ireturn, 1) := by decide +kernel
theorem dX6_count_94 : decode cX6_count 94 = .ok (.aload_n 0, 1) := by decide +kernel
theorem dX6_count_95 : decode cX6_count 95 = .ok (.invokevirtual 322, 3) := by decide +kernel
theorem dX6_count_98 : decode cX6_count 98 = .ok (.ireturn, 1) := by decide +kernel
theorem dX6_count_99 : decode cX6_count 99 = .ok (.aload_n 0, 1) := by decide +kernel
theorem dX6_count_100 : decode cX6_count 100 = .ok (.iconst 0, 1) := by decide +kernel
theorem dX6_count_101 : decode cX6_count 101 = .ok (.invokevirtual 121, 3) := by decide +kernel
theorem dX6_count_104 : decode cX6_count 104 = .ok (.ireturn, 1) := by decide +kernel
set_option maxRecDepth 20000 in
theorem ggX6_status_X6_in : GoodIn wsX6_status wsX6_in := goodIn_r _ [7] (by decide +kernel) (by decide +kernel)
set_option maxRecDepth 20000 in
theorem gX6_status_X6_in : GoodIn wsX6_status (va_wsS RX6 42 yX6_in wsX6_in) := goodIn_app (goodIn_of _ (by decide +kernel)) ggX6_status_X6_in
set_option maxRecDepth 20000 in
theorem ggX6_status_X6_finds : GoodIn wsX6_status wsX6_finds := goodIn_r _ [11, 3, 12, 13, 14, 15, 16, 17, 18, 19, 20, 21, 22, 23, 24, 25, 26, 27, 28, 29] (by decide +kernel) (by decide +kernel)
set_option maxRecDepth 20000 in
theorem gX6_status_X6_finds : GoodIn wsX6_status (wsV RX6 121 RX6 yX6_finds wsX6_finds) := goodIn_app (goodIn_of _ (by decide +kernel)) ggX6_status_X6_finds
theorem dX6_status_0 : decode cX6_status 0 = .ok (.iload_n 1, 1) := by decide +kernel
theorem dX6_status_1 : decode cX6_status 1 = .ok (.i2l, 1) := by decide +kernel
theorem dX6_status_2 : decode cX6_status 2 = .ok (.ldc2_w 308, 3) := by decide +kernel
theorem dX6_status_5 : decode cX6_status 5 = .ok (.ldc2_w 129, 3) := by decide +kernel
theorem dX6_status_8 : decode cX6_status 8 = .ok (.invokestatic 42, 3) := by decide +kernel
theorem dX6_status_11 : decode cX6_status 11 = .ok (.ifCond .ne 9, 3) := by decide +kernel
theorem dX6_status_14 : decode cX6_status 14 = .ok (.aload_n 0, 1) := by decide +kernel
theorem dX6_status_15 : decode cX6_status 15 = .ok (.iconst 0, 1) := by decide +kernel
theorem dX6_status_16 : decode cX6_status 16 = .ok (.invokevirtual 121, 3) := by decide +kernel
theorem dX6_status_19 : decode cX6_status 19 = .ok (.ireturn, 1) := by decide +kernel
theorem dX6_status_20 : decode cX6_status 20 = .ok (.iconst 0, 1) := by decide +kernel
theorem dX6_status_21 : decode cX6_status 21 = .ok (.istore_n 2, 1) := by decide +kernel
theorem dX6_status_22 : decode cX6_status 22 = .ok (.iconst 0, 1) := by decide +kernel
theorem dX6_status_23 : decode cX6_status 23 = .ok (.istore_n 3, 1) := by decide +kernel
theorem dX6_status_24 : decode cX6_status 24 = .ok (.iload_n 3, 1) := by decide +kernel
theorem dX6_status_25 : decode cX6_status 25 = .ok (.bipush 7, 2) := by decide +kernel
theorem dX6_status_27 : decode cX6_status 27 = .ok (.if_icmp .ge 18, 3) := by decide +kernel
theorem dX6_status_30 : decode cX6_status 30 = .ok (.iload_n 2, 1) := by decide +kernel
theorem dX6_status_31 : decode cX6_status 31 = .ok (.aload_n 0, 1) := by decide +kernel
theorem dX6_status_32 : decode cX6_status 32 = .ok (.getfield 22, 3) := by decide +kernel
theorem dX6_status_35 : decode cX6_status 35 = .ok (.iload_n 3, 1) := by decide +kernel
theorem dX6_status_36 : decode cX6_status 36 = .ok (.iaload, 1) := by decide +kernel
theorem dX6_status_37 : decode cX6_status 37 = .ok (.iadd, 1) := by decide +kernel
theorem dX6_status_38 : decode cX6_status 38 = .ok (.istore_n 2, 1) := by decide +kernel
theorem dX6_status_39 : decode cX6_status 39 = .ok (.iinc 3 1, 3) := by decide +kernel
theorem dX6_status_42 : decode cX6_status 42 = .ok (.goto (-18), 3) := by decide +kernel
theorem dX6_status_45 : decode cX6_status 45 = .ok (.iload_n 1, 1) := by decide +kernel
theorem dX6_status_46 : decode cX6_status 46 = .ok (.ifCond .ge 7, 3) := by decide +kernel
theorem dX6_status_49 : decode cX6_status 49 = .ok (.iload_n 2, 1) := by decide +kernel
theorem dX6_status_50 : decode cX6_status 50 = .ok (.goto 9, 3) := by decide +kernel
theorem dX6_status_53 : decode cX6_status 53 = .ok (.aload_n 0, 1) := by decide +kernel
theorem dX6_status_54 : decode cX6_status 54 = .ok (.getfield 22, 3) := by decide +kernel
theorem dX6_status_57 : decode cX6_status 57 = .ok (.iload_n 1, 1) := by decide +kernel
theorem dX6_status_58 : decode cX6_status 58 = .ok (.iaload, 1) := by decide +kernel
theorem dX6_status_59 : decode cX6_status 59 = .ok (.ireturn, 1) := by decide +kernel
theorem dJ6_bitCount_0f7a4_0 : decode cJ6_bitCount_0f7a4 0 = .ok (.iload_n 0, 1) := by decide +kernel
theorem dJ6_bitCount_0f7a4_1 : decode cJ6_bitCount_0f7a4 1 = .ok (.iload_n 0, 1) := by decide +kernel
theorem dJ6_bitCount_0f7a4_2 : decode cJ6_bitCount_0f7a4 2 = .ok (.iconst 1, 1) := by decide +kernel
theorem dJ6_bitCount_0f7a4_3 : decode cJ6_bitCount_0f7a4 3 = .ok (.iushr, 1) := by decide +kernel
theorem dJ6_bitCount_0f7a4_4 : decode cJ6_bitCount_0f7a4 4 = .ok (.ldc_w 265, 3) := by decide +kernel
theorem dJ6_bitCount_0f7a4_7 : decode cJ6_bitCount_0f7a4 7 = .ok (.iand, 1) := by decide +kernel
theorem dJ6_bitCount_0f7a4_8 : decode cJ6_bitCount_0f7a4 8 = .ok (.isub, 1) := by decide +kernel
theorem dJ6_bitCount_0f7a4_9 : decode cJ6_bitCount_0f7a4 9 = .ok (.istore_n 0, 1) := by decide +kernel
theorem dJ6_bitCount_0f7a4_10 : decode cJ6_bitCount_0f7a4 10 = .ok (.iload_n 0, 1) := by decide +kernel
theorem dJ6_bitCount_0f7a4_11 : decode cJ6_bitCount_0f7a4 11 = .ok (.ldc_w 266, 3) := by decide +kernel
theorem dJ6_bitCount_0f7a4_14 : decode cJ6_bitCount_0f7a4 14 = .ok (.iand, 1) := by decide +kernel
theorem dJ6_bitCount_0f7a4_15 : decode cJ6_bitCount_0f7a4 15 = .ok (.iload_n 0, 1) := by decide +kernel
theorem dJ6_bitCount_0f7a4_16 : decode cJ6_bitCount_0f7a4 16 = .ok (.iconst 2, 1) := by decide +kernel
theorem dJ6_bitCount_0f7a4_17 : decode cJ6_bitCount_0f7a4 17 = .ok (.iushr, 1) := by decide +kernel
theorem dJ6_bitCount_0f7a4_18 : decode cJ6_bitCount_0f7a4 18 = .ok (.ldc_w 266, 3) := by decide +kernel
theorem dJ6_bitCount_0f7a4_21 : decode cJ6_bitCount_0f7a4 21 = .ok (.iand, 1) := by decide +kernel
theorem dJ6_bitCount_0f7a4_22 : decode cJ6_bitCount_0f7a4 22 = .ok (.iadd, 1) := by decide +kernel
theorem dJ6_bitCount_0f7a4_23 : decode cJ6_bitCount_0f7a4 23 = .ok (.istore_n 0, 1) := by decide +kernel
theorem dJ6_bitCount_0f7a4_24 : decode cJ6_bitCount_0f7a4 24 = .ok (.iload_n 0, 1) := by decide +kernel
theorem dJ6_bitCount_0f7a4_25 : decode cJ6_bitCount_0f7a4 25 = .ok (.iload_n 0, 1) := by decide +kernel
theorem dJ6_bitCount_0f7a4_26 : decode cJ6_bitCount_0f7a4 26 = .ok (.iconst 4, 1) := by decide +kernel
theorem dJ6_bitCount_0f7a4_27 : decode cJ6_bitCount_0f7a4 27 = .ok (.iushr, 1) := by decide +kernel
theorem dJ6_bitCount_0f7a4_28 : decode cJ6_bitCount_0f7a4 28 = .ok (.iadd, 1) := by decide +kernel
theorem dJ6_bitCount_0f7a4_29 : decode cJ6_bitCount_0f7a4 29 = .ok (.ldc_w 267, 3) := by decide +kernel
theorem dJ6_bitCount_0f7a4_32 : decode cJ6_bitCount_0f7a4 32 = .ok (.iand, 1) := by decide +kernel
theorem dJ6_bitCount_0f7a4_33 : decode cJ6_bitCount_0f7a4 33 = .ok (.istore_n 0, 1) := by decide +kernel
theorem dJ6_bitCount_0f7a4_34 : decode cJ6_bitCount_0f7a4 34 = .ok (.iload_n 0, 1) := by decide +kernel
theorem dJ6_bitCount_0f7a4_35 : decode cJ6_bitCount_0f7a4 35 = .ok (.iload_n 0, 1) := by decide +kernel
theorem dJ6_bitCount_0f7a4_36 : decode cJ6_bitCount_0f7a4 36 = .ok (.bipush 8, 2) := by decide +kernel
theorem dJ6_bitCount_0f7a4_38 : decode cJ6_bitCount_0f7a4 38 = .ok (.iushr, 1) := by decide +kernel
theorem dJ6_bitCount_0f7a4_39 : decode cJ6_bitCount_0f7a4 39 = .ok (.iadd, 1) := by decide +kernel
theorem dJ6_bitCount_0f7a4_40 : decode cJ6_bitCount_0f7a4 40 = .ok (.istore_n 0, 1) := by decide +kernel
theorem dJ6_bitCount_0f7a4_41 : decode cJ6_bitCount_0f7a4 41 = .ok (.iload_n 0, 1) := by decide +kernel
theorem dJ6_bitCount_0f7a4_42 : decode cJ6_bitCount_0f7a4 42 = .ok (.iload_n 0, 1) := by decide +kernel
theorem dJ6_bitCount_0f7a4_43 : decode cJ6_bitCount_0f7a4 43 = .ok (.bipush 16, 2) := by decide +kernel
theorem dJ6_bitCount_0f7a4_45 : decode cJ6_bitCount_0f7a4 45 = .ok (.iushr, 1) := by decide +kernel
theorem dJ6_bitCount_0f7a4_46 : decode cJ6_bitCount_0f7a4 46 = .ok (.iadd, 1) := by decide +kernel
theorem dJ6_bitCount_0f7a4_47 : decode cJ6_bitCount_0f7a4 47 = .ok (.istore_n 0, 1) := by decide +kernel
theorem dJ6_bitCount_0f7a4_48 : decode cJ6_bitCount_0f7a4 48 = .ok (.iload_n 0, 1) := by decide +kernel
theorem dJ6_bitCount_0f7a4_49 : decode cJ6_bitCount_0f7a4 49 = .ok (.bipush 63, 2) := by decide +kernel
theorem dJ6_bitCount_0f7a4_51 : decode cJ6_bitCount_0f7a4 51 = .ok (.iand, 1) := by decide +kernel
theorem dJ6_bitCount_0f7a4_52 : decode cJ6_bitCount_0f7a4 52 = .ok (.ireturn, 1) := by decide +kernel
theorem dJ9_abs_0f7a4_0 : decode cJ9_abs_0f7a4 0 = .ok (.iload_n 0, 1) := by decide +kernel
theorem dJ9_abs_0f7a4_1 : decode cJ9_abs_0f7a4 1 = .ok (.ifCond .ge 8, 3) := by decide +kernel
theorem dJ9_abs_0f7a4_4 : decode cJ9_abs_0f7a4 4 = .ok (.iload_n 0, 1) := by decide +kernel
theorem dJ9_abs_0f7a4_5 : decode cJ9_abs_0f7a4 5 = .ok (.ineg, 1) := by decide +kernel
theorem dJ9_abs_0f7a4_6 : decode cJ9_abs_0f7a4 6 = .ok (.goto 4, 3) := by decide +kernel
theorem dJ9_abs_0f7a4_9 : decode cJ9_abs_0f7a4 9 = .ok (.iload_n 0, 1) := by decide +kernel
theorem dJ9_abs_0f7a4_10 : decode cJ9_abs_0f7a4 10 = .ok (.ireturn, 1) := by decide +kernel
theorem dJ9_max_7cf53_0 : decode cJ9_max_7cf53 0 = .ok (.iload_n 0, 1) := by decide +kernel
theorem dJ9_max_7cf53_1 : decode cJ9_max_7cf53 1 = .ok (.iload_n 1, 1) := by decide +kernel
theorem dJ9_max_7cf53_2 : decode cJ9_max_7cf53 2 = .ok (.if_icmp .lt 7, 3) := by decide +kernel
theorem dJ9_max_7cf53_5 : decode cJ9_max_7cf53 5 = .ok (.iload_n 0, 1) := by decide +kernel
theorem dJ9_max_7cf53_6 : decode cJ9_max_7cf53 6 = .ok (.goto 4, 3) := by decide +kernel
theorem dJ9_max_7cf53_9 : decode cJ9_max_7cf53 9 = .ok (.iload_n 1, 1) := by decide +kernel
theorem dJ9_max_7cf53_10 : decode cJ9_max_7cf53 10 = .ok (.ireturn, 1) := by decide +kernel
theorem dJ9_min_7cf53_0 : decode cJ9_min_7cf53 0 = .ok (.iload_n 0, 1) := by decide +kernel
theorem dJ9_min_7cf53_1 : decode cJ9_min_7cf53 1 = .ok (.iload_n 1, 1) := by decide +kernel
theorem dJ9_min_7cf53_2 : decode cJ9_min_7cf53 2 = .ok (.if_icmp .gt 7, 3) := by decide +kernel
theorem dJ9_min_7cf53_5 : decode cJ9_min_7cf53 5 = .ok (.iload_n 0, 1) := by decide +kernel
theorem dJ9_min_7cf53_6 : decode cJ9_min_7cf53 6 = .ok (.goto 4, 3) := by decide +kernel
theorem dJ9_min_7cf53_9 : decode cJ9_min_7cf53 9 = .ok (.iload_n 1, 1) := by decide +kernel
theorem dJ9_min_7cf53_10 : decode cJ9_min_7cf53 10 = .ok (.ireturn, 1) := by decide +kernel
set_option maxRecDepth 20000 in
theorem ggJ0_length_8abf5_J0_coder_7d493 : GoodIn wsJ0_length_8abf5 wsJ0_coder_7d493 := goodIn_r _ [6, 7, 8] (by decide +kernel) (by decide +kernel)
set_option maxRecDepth 20000 in
theorem gJ0_length_8abf5_J0_coder_7d493 : GoodIn wsJ0_length_8abf5 (wsV RJ0 335 RJ0 yJ0_coder_7d493 wsJ0_coder_7d493) := goodIn_app (goodIn_of _ (by decide +kernel)) ggJ0_length_8abf5_J0_coder_7d493
theorem dJ0_length_8abf5_0 : decode cJ0_length_8abf5 0 = .ok (.aload_n 0, 1) := by decide +kernel
theorem dJ0_length_8abf5_1 : decode cJ0_length_8abf5 1 = .ok (.getfield 9, 3) := by decide +kernel
theorem dJ0_length_8abf5_4 : decode cJ0_length_8abf5 4 = .ok (.arraylength, 1) := by decide +kernel
theorem dJ0_length_8abf5_5 : decode cJ0_length_8abf5 5 = .ok (.aload_n 0, 1) := by decide +kernel
theorem dJ0_length_8abf5_6 : decode cJ0_length_8abf5 6 = .ok (.invokevirtual 335, 3) := by decide +kernel
theorem dJ0_length_8abf5_9 : decode cJ0_length_8abf5 9 = .ok (.ishr, 1) := by decide +kernel
theorem dJ0_length_8abf5_10 : decode cJ0_length_8abf5 10 = .ok (.ireturn, 1) := by decide +kernel
set_option maxRecDepth 20000 in
theorem ggJ0_charAt_5068e_J0_isLatin1_aae02 : GoodIn wsJ0_charAt_5068e wsJ0_isLatin1_aae02 := goodIn_r _ [6, 7, 8] (by decide +kernel) (by decide +kernel)
set_option maxRecDepth 20000 in
theorem gJ0_charAt_5068e_J0_isLatin1_aae02 : GoodIn wsJ0_charAt_5068e (wsV RJ0 492 RJ0 yJ0_isLatin1_aae02 wsJ0_isLatin1_aae02) := goodIn_app (goodIn_of _ (by decide +kernel)) ggJ0_charAt_5068e_J0_isLatin1_aae02
set_option maxRecDepth 20000 in
theorem ggJ0_charAt_5068e_J1_charAt_3b067 : GoodIn wsJ0_charAt_5068e wsJ1_charAt_3b067 := goodIn_r _ [12, 13, 14, 5, 15, 16, 17, 18, 19, 20] (by decide +kernel) (by decide +kernel)
set_option maxRecDepth 20000 in
theorem gJ0_charAt_5068e_J1_charAt_3b067 : GoodIn wsJ0_charAt_5068e (va_wsS RJ0 495 yJ1_charAt_3b067 wsJ1_charAt_3b067) := goodIn_app (goodIn_of _ (by decide +kernel)) ggJ0_charAt_5068e_J1_charAt_3b067
set_option maxRecDepth 20000 in
theorem ggJ0_charAt_5068e_J2_charAt_3b067 : GoodIn wsJ0_charAt_5068e wsJ2_charAt_3b067 := goodIn_r _ [24, 25, 26, 23, 27, 28, 29, 30, 31, 14, 5, 15, 16, 17, 18, 19, 20, 32, 33, 34, 35, 36, 37] (by decide +kernel) (by decide +kernel)
set_option maxRecDepth 20000 in
theorem gJ0_charAt_5068e_J2_charAt_3b067 : GoodIn wsJ0_charAt_5068e (va_wsS RJ0 498 yJ2_charAt_3b067 wsJ2_charAt_3b067) := goodIn_app (goodIn_of _ (by decide +kernel)) ggJ0_charAt_5068e_J2_charAt_3b067
theorem dJ0_charAt_5068e_0 : decode cJ0_charAt_5068e 0 = .ok (.aload_n 0, 1) := by decide +kernel
theorem dJ0_charAt_5068e_1 : decode cJ0_charAt_5068e 1 = .ok (.invokevirtual 492, 3) := by decide +kernel
theorem dJ0_charAt_5068e_4 : decode cJ0_charAt_5068e 4 = .ok (.ifCond .eq 12, 3) := by decide +kernel
theorem dJ0_charAt_5068e_7 : decode cJ0_charAt_5068e 7 = .ok (.aload_n 0, 1) := by decide +kernel
theorem dJ0_charAt_5068e_8 : decode cJ0_charAt_5068e 8 = .ok (.getfield 9, 3) := by decide +kernel
theorem dJ0_charAt_5068e_11 : decode cJ0_charAt_5068e 11 = .ok (.iload_n 1, 1) := by decide +kernel
theorem dJ0_charAt_5068e_12 : decode cJ0_charAt_5068e 12 = .ok (.invokestatic 495, 3) := by decide +kernel
theorem dJ0_charAt_5068e_15 : decode cJ0_charAt_5068e 15 = .ok (.ireturn, 1) := by decide +kernel
theorem dJ0_charAt_5068e_16 : decode cJ0_charAt_5068e 16 = .ok (.aload_n 0, 1) := by decide +kernel
theorem dJ0_charAt_5068e_17 : decode cJ0_charAt_5068e 17 = .ok (.getfield 9, 3) := by decide +kernel
theorem dJ0_charAt_5068e_20 : decode cJ0_charAt_5068e 20 = .ok (.iload_n 1, 1) := by decide +kernel
theorem dJ0_charAt_5068e_21 : decode cJ0_charAt_5068e 21 = .ok (.invokestatic 498, 3) := by decide +kernel
theorem dJ0_charAt_5068e_24 : decode cJ0_charAt_5068e 24 = .ok (.ireturn, 1) := by decide +kernel
theorem dJ0_coder_7d493_0 : decode cJ0_coder_7d493 0 = .ok (.getstatic 38, 3) := by decide +kernel
theorem dJ0_coder_7d493_3 : decode cJ0_coder_7d493 3 = .ok (.ifCond .eq 10, 3) := by decide +kernel
theorem dJ0_coder_7d493_6 : decode cJ0_coder_7d493 6 = .ok (.aload_n 0, 1) := by decide +kernel
theorem dJ0_coder_7d493_7 : decode cJ0_coder_7d493 7 = .ok (.getfield 15, 3) := by decide +kernel
theorem dJ0_coder_7d493_10 : decode cJ0_coder_7d493 10 = .ok (.goto 4, 3) := by decide +kernel
theorem dJ0_coder_7d493_13 : decode cJ0_coder_7d493 13 = .ok (.iconst 1, 1) := by decide +kernel
theorem dJ0_coder_7d493_14 : decode cJ0_coder_7d493 14 = .ok (.ireturn, 1) := by decide +kernel
theorem dJ0_isLatin1_aae02_0 : decode cJ0_isLatin1_aae02 0 = .ok (.getstatic 38, 3) := by decide +kernel
theorem dJ0_isLatin1_aae02_3 : decode cJ0_isLatin1_aae02 3 = .ok (.ifCond .eq 14, 3) := by decide +kernel
theorem dJ0_isLatin1_aae02_6 : decode cJ0_isLatin1_aae02 6 = .ok (.aload_n 0, 1) := by decide +kernel
theorem dJ0_isLatin1_aae02_7 : decode cJ0_isLatin1_aae02 7 = .ok (.getfield 15, 3) := by decide +kernel
theorem dJ0_isLatin1_aae02_10 : decode cJ0_isLatin1_aae02 10 = .ok (.ifCond .ne 7, 3) := by decide +kernel
theorem dJ0_isLatin1_aae02_13 : decode cJ0_isLatin1_aae02 13 = .ok (.iconst 1, 1) := by decide +kernel
theorem dJ0_isLatin1_aae02_14 : decode cJ0_isLatin1_aae02 14 = .ok (.goto 4, 3) := by decide +kernel
theorem dJ0_isLatin1_aae02_17 : decode cJ0_isLatin1_aae02 17 = .ok (.iconst 0, 1) := by decide +kernel
theorem dJ0_isLatin1_aae02_18 : decode cJ0_isLatin1_aae02 18 = .ok (.ireturn, 1) := by decide +kernel
set_option maxRecDepth 20000 in
theorem ggJ0_checkIndex_df160_J3_checkIndex_8e157 : GoodIn wsJ0_checkIndex_df160 wsJ3_checkIndex_8e157 := goodIn_r _ [5] (by decide +kernel) (by decide +kernel)
set_option maxRecDepth 20000 in
theorem gJ0_checkIndex_df160_J3_checkIndex_8e157 : GoodIn wsJ0_checkIndex_df160 (va_wsS RJ0 1059 yJ3_checkIndex_8e157 wsJ3_checkIndex_8e157) := goodIn_app (goodIn_of _ (by decide +kernel)) ggJ0_checkIndex_df160_J3_checkIndex_8e157
theorem dJ0_checkIndex_df160_0 : decode cJ0_checkIndex_df160 0 = .ok (.iload_n 0, 1) := by decide +kernel
theorem dJ0_checkIndex_df160_1 : decode cJ0_checkIndex_df160 1 = .ok (.iload_n 1, 1) := by decide +kernel
theorem dJ0_checkIndex_df160_2 : decode cJ0_checkIndex_df160 2 = .ok (.getstatic 1053, 3) := by decide +kernel
theorem dJ0_checkIndex_df160_5 : decode cJ0_checkIndex_df160 5 = .ok (.invokestatic 1059, 3) := by decide +kernel
theorem dJ0_checkIndex_df160_8 : decode cJ0_checkIndex_df160 8 = .ok (.pop, 1) := by decide +kernel
theorem dJ0_checkIndex_df160_9 : decode cJ0_checkIndex_df160 9 = .ok (.return_, 1) := by decide +kernel
set_option maxRecDepth 20000 in
theorem ggJ1_charAt_3b067_J0_checkIndex_df160 : GoodIn wsJ1_charAt_3b067 wsJ0_checkIndex_df160 := goodIn_r _ [4, 5, 6, 7, 8, 9] (by decide +kernel) (by decide +kernel)
set_option maxRecDepth 20000 in
theorem gJ1_charAt_3b067_J0_checkIndex_df160 : GoodIn wsJ1_charAt_3b067 (va_wsS RJ1 9 yJ0_checkIndex_df160 wsJ0_checkIndex_df160) := goodIn_app (goodIn_of _ (by decide +kernel)) ggJ1_charAt_3b067_J0_checkIndex_df160
theorem dJ1_charAt_3b067_0 : decode cJ1_charAt_3b067 0 = .ok (.iload_n 1, 1) := by decide +kernel
theorem dJ1_charAt_3b067_1 : decode cJ1_charAt_3b067 1 = .ok (.aload_n 0, 1) := by decide +kernel
theorem dJ1_charAt_3b067_2 : decode cJ1_charAt_3b067 2 = .ok (.arraylength, 1) := by decide +kernel
theorem dJ1_charAt_3b067_3 : decode cJ1_charAt_3b067 3 = .ok (.invokestatic 9, 3) := by decide +kernel
theorem dJ1_charAt_3b067_6 : decode cJ1_charAt_3b067 6 = .ok (.aload_n 0, 1) := by decide +kernel
theorem dJ1_charAt_3b067_7 : decode cJ1_charAt_3b067 7 = .ok (.iload_n 1, 1) := by decide +kernel
theorem dJ1_charAt_3b067_8 : decode cJ1_charAt_3b067 8 = .ok (.baload, 1) := by decide +kernel
theorem dJ1_charAt_3b067_9 : decode cJ1_charAt_3b067 9 = .ok (.sipush 255, 3) := by decide +kernel
theorem dJ1_charAt_3b067_12 : decode cJ1_charAt_3b067 12 = .ok (.iand, 1) := by decide +kernel
theorem dJ1_charAt_3b067_13 : decode cJ1_charAt_3b067 13 = .ok (.i2c, 1) := by decide +kernel
theorem dJ1_charAt_3b067_14 : decode cJ1_charAt_3b067 14 = .ok (.ireturn, 1) := by decide +kernel
set_option maxRecDepth 20000 in
theorem ggJ2_getChar_3b067_J2_length_9d52b : GoodIn wsJ2_getChar_3b067 wsJ2_length_9d52b := goodIn_r _ [7] (by decide +kernel) (by decide +kernel)
set_option maxRecDepth 20000 in
theorem gJ2_getChar_3b067_J2_length_9d52b : GoodIn wsJ2_getChar_3b067 (va_wsS RJ2 48 yJ2_length_9d52b wsJ2_length_9d52b) := goodIn_app (goodIn_of _ (by decide +kernel)) ggJ2_getChar_3b067_J2_length_9d52b
theorem dJ2_getChar_3b067_0 : decode cJ2_getChar_3b067 0 = .ok (.getstatic 44, 3) := by decide +kernel
theorem dJ2_getChar_3b067_3 : decode cJ2_getChar_3b067 3 = .ok (.ifCond .ne 25, 3) := by decide +kernel
theorem dJ2_getChar_3b067_6 : decode cJ2_getChar_3b067 6 = .ok (.iload_n 1, 1) := by decide +kernel
theorem dJ2_getChar_3b067_7 : decode cJ2_getChar_3b067 7 = .ok (.ifCond .lt 11, 3) := by decide +kernel
theorem dJ2_getChar_3b067_10 : decode cJ2_getChar_3b067 10 = .ok (.iload_n 1, 1) := by decide +kernel
theorem dJ2_getChar_3b067_11 : decode cJ2_getChar_3b067 11 = .ok (.aload_n 0, 1) := by decide +kernel
theorem dJ2_getChar_3b067_12 : decode cJ2_getChar_3b067 12 = .ok (.invokestatic 48, 3) := by decide +kernel
theorem dJ2_getChar_3b067_15 : decode cJ2_getChar_3b067 15 = .ok (.if_icmp .lt 13, 3) := by decide +kernel
theorem dJ2_getChar_3b067_18 : decode cJ2_getChar_3b067 18 = .ok (.new 52, 3) := by decide +kernel
theorem dJ2_getChar_3b067_21 : decode cJ2_getChar_3b067 21 = .ok (.dup, 1) := by decide +kernel
theorem dJ2_getChar_3b067_22 : decode cJ2_getChar_3b067 22 = .ok (.ldc 54, 2) := by decide +kernel
theorem dJ2_getChar_3b067_24 : decode cJ2_getChar_3b067 24 = .ok (.invokespecial 56, 3) := by decide +kernel
theorem dJ2_getChar_3b067_27 : decode cJ2_getChar_3b067 27 = .ok (.athrow, 1) := by decide +kernel
theorem dJ2_getChar_3b067_28 : decode cJ2_getChar_3b067 28 = .ok (.iload_n 1, 1) := by decide +kernel
theorem dJ2_getChar_3b067_29 : decode cJ2_getChar_3b067 29 = .ok (.iconst 1, 1) := by decide +kernel
theorem dJ2_getChar_3b067_30 : decode cJ2_getChar_3b067 30 = .ok (.ishl, 1) := by decide +kernel
theorem dJ2_getChar_3b067_31 : decode cJ2_getChar_3b067 31 = .ok (.istore_n 1, 1) := by decide +kernel
theorem dJ2_getChar_3b067_32 : decode cJ2_getChar_3b067 32 = .ok (.aload_n 0, 1) := by decide +kernel
theorem dJ2_getChar_3b067_33 : decode cJ2_getChar_3b067 33 = .ok (.iload_n 1, 1) := by decide +kernel
theorem dJ2_getChar_3b067_34 : decode cJ2_getChar_3b067 34 = .ok (.iinc 1 1, 3) := by decide +kernel
theorem dJ2_getChar_3b067_37 : decode cJ2_getChar_3b067 37 = .ok (.baload, 1) := by decide +kernel
theorem dJ2_getChar_3b067_38 : decode cJ2_getChar_3b067 38 = .ok (.sipush 255, 3) := by decide +kernel
theorem dJ2_getChar_3b067_41 : decode cJ2_getChar_3b067 41 = .ok (.iand, 1) := by decide +kernel
theorem dJ2_getChar_3b067_42 : decode cJ2_getChar_3b067 42 = .ok (.getstatic 59, 3) := by decide +kernel
theorem dJ2_getChar_3b067_45 : decode cJ2_getChar_3b067 45 = .ok (.ishl, 1) := by decide +kernel
theorem dJ2_getChar_3b067_46 : decode cJ2_getChar_3b067 46 = .ok (.aload_n 0, 1) := by decide +kernel
theorem dJ2_getChar_3b067_47 : decode cJ2_getChar_3b067 47 = .ok (.iload_n 1, 1) := by decide +kernel
theorem dJ2_getChar_3b067_48 : decode cJ2_getChar_3b067 48 = .ok (.baload, 1) := by decide +kernel
theorem dJ2_getChar_3b067_49 : decode cJ2_getChar_3b067 49 = .ok (.sipush 255, 3) := by decide +kernel
theorem dJ2_getChar_3b067_52 : decode cJ2_getChar_3b067 52 = .ok (.iand, 1) := by decide +kernel
theorem dJ2_getChar_3b067_53 : decode cJ2_getChar_3b067 53 = .ok (.getstatic 63, 3) := by decide +kernel
theorem dJ2_getChar_3b067_56 : decode cJ2_getChar_3b067 56 = .ok (.ishl, 1) := by decide +kernel
theorem dJ2_getChar_3b067_57 : decode cJ2_getChar_3b067 57 = .ok (.ior, 1) := by decide +kernel
theorem dJ2_getChar_3b067_58 : decode cJ2_getChar_3b067 58 = .ok (.i2c, 1) := by decide +kernel
theorem dJ2_getChar_3b067_59 : decode cJ2_getChar_3b067 59 = .ok (.ireturn, 1) := by decide +kernel
theorem dJ2_length_9d52b_0 : decode cJ2_length_9d52b 0 = .ok (.aload_n 0, 1) := by decide +kernel
theorem dJ2_length_9d52b_1 : decode cJ2_length_9d52b 1 = .ok (.arraylength, 1) := by decide +kernel
theorem dJ2_length_9d52b_2 : decode cJ2_length_9d52b 2 = .ok (.iconst 1, 1) := by decide +kernel
theorem dJ2_length_9d52b_3 : decode cJ2_length_9d52b 3 = .ok (.ishr, 1) := by decide +kernel
theorem dJ2_length_9d52b_4 : decode cJ2_length_9d52b 4 = .ok (.ireturn, 1) := by decide +kernel
set_option maxRecDepth 20000 in
theorem ggJ2_charAt_3b067_J2_checkIndex_2214a : GoodIn wsJ2_charAt_3b067 wsJ2_checkIndex_2214a := goodIn_r _ [4, 5, 6, 3, 7, 8, 9, 10, 11, 12, 13, 14, 15, 16] (by decide +kernel) (by decide +kernel)
set_option maxRecDepth 20000 in
theorem gJ2_charAt_3b067_J2_checkIndex_2214a : GoodIn wsJ2_charAt_3b067 (va_wsS RJ2 67 yJ2_checkIndex_2214a wsJ2_checkIndex_2214a) := goodIn_app (goodIn_of _ (by decide +kernel)) ggJ2_charAt_3b067_J2_checkIndex_2214a
set_option maxRecDepth 20000 in
theorem ggJ2_charAt_3b067_J2_getChar_3b067 : GoodIn wsJ2_charAt_3b067 wsJ2_getChar_3b067 := goodIn_r _ [19, 20, 21, 22, 5, 6, 3, 7] (by decide +kernel) (by decide +kernel)
set_option maxRecDepth 20000 in
theorem gJ2_charAt_3b067_J2_getChar_3b067 : GoodIn wsJ2_charAt_3b067 (va_wsS RJ2 71 yJ2_getChar_3b067 wsJ2_getChar_3b067) := goodIn_app (goodIn_of _ (by decide +kernel)) ggJ2_charAt_3b067_J2_getChar_3b067
theorem dJ2_charAt_3b067_0 : decode cJ2_charAt_3b067 0 = .ok (.iload_n 1, 1) := by decide +kernel
theorem dJ2_charAt_3b067_1 : decode cJ2_charAt_3b067 1 = .ok (.aload_n 0, 1) := by decide +kernel
theorem dJ2_charAt_3b067_2 : decode cJ2_charAt_3b067 2 = .ok (.invokestatic 67, 3) := by decide +kernel
theorem dJ2_charAt_3b067_5 : decode cJ2_charAt_3b067 5 = .ok (.aload_n 0, 1) := by decide +kernel
theorem dJ2_charAt_3b067_6 : decode cJ2_charAt_3b067 6 = .ok (.iload_n 1, 1) := by decide +kernel
theorem dJ2_charAt_3b067_7 : decode cJ2_charAt_3b067 7 = .ok (.invokestatic 71, 3) := by decide +kernel
theorem dJ2_charAt_3b067_10 : decode cJ2_charAt_3b067 10 = .ok (.ireturn, 1) := by decide +kernel
set_option maxRecDepth 20000 in
theorem ggJ2_checkIndex_2214a_J2_length_9d52b : GoodIn wsJ2_checkIndex_2214a wsJ2_length_9d52b := goodIn_r _ [4] (by decide +kernel) (by decide +kernel)
set_option maxRecDepth 20000 in
theorem gJ2_checkIndex_2214a_J2_length_9d52b : GoodIn wsJ2_checkIndex_2214a (va_wsS RJ2 48 yJ2_length_9d52b wsJ2_length_9d52b) := goodIn_app (goodIn_of _ (by decide +kernel)) ggJ2_checkIndex_2214a_J2_length_9d52b
set_option maxRecDepth 20000 in
theorem ggJ2_checkIndex_2214a_J0_checkIndex_df160 : GoodIn wsJ2_checkIndex_2214a wsJ0_checkIndex_df160 := goodIn_r _ [8, 9, 10, 11, 12, 13] (by decide +kernel) (by decide +kernel)
set_option maxRecDepth 20000 in
theorem gJ2_checkIndex_2214a_J0_checkIndex_df160 : GoodIn wsJ2_checkIndex_2214a (va_wsS RJ2 414 yJ0_checkIndex_df160 wsJ0_checkIndex_df160) := goodIn_app (goodIn_of _ (by decide +kernel)) ggJ2_checkIndex_2214a_J0_checkIndex_df160
theorem dJ2_checkIndex_2214a_0 : decode cJ2_checkIndex_2214a 0 = .ok (.iload_n 0, 1) := by decide +kernel
theorem dJ2_checkIndex_2214a_1 : decode cJ2_checkIndex_2214a 1 = .ok (.aload_n 1, 1) := by decide +kernel
theorem dJ2_checkIndex_2214a_2 : decode cJ2_checkIndex_2214a 2 = .ok (.invokestatic 48, 3) := by decide +kernel
theorem dJ2_checkIndex_2214a_5 : decode cJ2_checkIndex_2214a 5 = .ok (.invokestatic 414, 3) := by decide +kernel
theorem dJ2_checkIndex_2214a_8 : decode cJ2_checkIndex_2214a 8 = .ok (.return_, 1) := by decide +kernel
theorem dJ7_fill_53178_0 : decode cJ7_fill_53178 0 = .ok (.iconst 0, 1) := by decide +kernel
theorem dJ7_fill_53178_1 : decode cJ7_fill_53178 1 = .ok (.istore_n 2, 1) := by decide +kernel
theorem dJ7_fill_53178_2 : decode cJ7_fill_53178 2 = .ok (.aload_n 0, 1) := by decide +kernel
theorem dJ7_fill_53178_3 : decode cJ7_fill_53178 3 = .ok (.arraylength, 1) := by decide +kernel
theorem dJ7_fill_53178_4 : decode cJ7_fill_53178 4 = .ok (.istore_n 3, 1) := by decide +kernel
theorem dJ7_fill_53178_5 : decode cJ7_fill_53178 5 = .ok (.iload_n 2, 1) := by decide +kernel
theorem dJ7_fill_53178_6 : decode cJ7_fill_53178 6 = .ok (.iload_n 3, 1) := by decide +kernel
theorem dJ7_fill_53178_7 : decode cJ7_fill_53178 7 = .ok (.if_icmp .ge 13, 3) := by decide +kernel
theorem dJ7_fill_53178_10 : decode cJ7_fill_53178 10 = .ok (.aload_n 0, 1) := by decide +kernel
theorem dJ7_fill_53178_11 : decode cJ7_fill_53178 11 = .ok (.iload_n 2, 1) := by decide +kernel
theorem dJ7_fill_53178_12 : decode cJ7_fill_53178 12 = .ok (.iload_n 1, 1) := by decide +kernel
theorem dJ7_fill_53178_13 : decode cJ7_fill_53178 13 = .ok (.iastore, 1) := by decide +kernel
theorem dJ7_fill_53178_14 : decode cJ7_fill_53178 14 = .ok (.iinc 2 1, 3) := by decide +kernel
theorem dJ7_fill_53178_17 : decode cJ7_fill_53178 17 = .ok (.goto (-12), 3) := by decide +kernel
theorem dJ7_fill_53178_20 : decode cJ7_fill_53178 20 = .ok (.return_, 1) := by decide +kernel
theorem dJ3_checkIndex_8e157_0 : decode cJ3_checkIndex_8e157 0 = .ok (.iload_n 0, 1) := by decide +kernel
theorem dJ3_checkIndex_8e157_1 : decode cJ3_checkIndex_8e157 1 = .ok (.ifCond .lt 8, 3) := by decide +kernel
theorem dJ3_checkIndex_8e157_4 : decode cJ3_checkIndex_8e157 4 = .ok (.iload_n 0, 1) := by decide +kernel
theorem dJ3_checkIndex_8e157_5 : decode cJ3_checkIndex_8e157 5 = .ok (.iload_n 1, 1) := by decide +kernel
theorem dJ3_checkIndex_8e157_6 : decode cJ3_checkIndex_8e157 6 = .ok (.if_icmp .lt 10, 3) := by decide +kernel
theorem dJ3_checkIndex_8e157_9 : decode cJ3_checkIndex_8e157 9 = .ok (.aload_n 2, 1) := by decide +kernel
theorem dJ3_checkIndex_8e157_10 : decode cJ3_checkIndex_8e157 10 = .ok (.iload_n 0, 1) := by decide +kernel
theorem dJ3_checkIndex_8e157_11 : decode cJ3_checkIndex_8e157 11 = .ok (.iload_n 1, 1) := by decide +kernel
theorem dJ3_checkIndex_8e157_12 : decode cJ3_checkIndex_8e157 12 = .ok (.invokestatic 95, 3) := by decide +kernel
theorem dJ3_checkIndex_8e157_15 : decode cJ3_checkIndex_8e157 15 = .ok (.athrow, 1) := by decide +kernel
theorem dJ3_checkIndex_8e157_16 : decode cJ3_checkIndex_8e157 16 = .ok (.iload_n 0, 1) := by decide +kernel
theorem dJ3_checkIndex_8e157_17 : decode cJ3_checkIndex_8e157 17 = .ok (.ireturn, 1) := by decide +kernel
