theorem dX6_loudFor_67 : decode cX6_loudFor 67 = .ok (.goto (-29), 3) := by decide +kernel
theorem dX6_loudFor_70 : decode cX6_loudFor 70 = .ok (.aload_n 0, 1) := by decide +kernel
theorem dX6_loudFor_71 : decode cX6_loudFor 71 = .ok (.iconst 3, 1) := by decide +kernel
theorem dX6_loudFor_72 : decode cX6_loudFor 72 = .ok (.invokevirtual 121, 3) := by decide +kernel
theorem dX6_loudFor_75 : decode cX6_loudFor 75 = .ok (.ireturn, 1) := by decide +kernel
set_option maxRecDepth 20000 in
theorem ggX6_kindFor_X6_isResident : GoodIn wsX6_kindFor wsX6_isResident := goodIn_r _ [5, 6, 7, 8, 4, 9, 98, 99, 100, 101, 102, 103, 104, 105, 106, 107, 108, 109, 110, 111, 112, 113, 114] (by decide +kernel) (by decide +kernel)
set_option maxRecDepth 20000 in
theorem gX6_kindFor_X6_isResident : GoodIn wsX6_kindFor (wsV RX6 134 RX6 yX6_isResident wsX6_isResident) := goodIn_app (goodIn_of _ (by decide +kernel)) ggX6_kindFor_X6_isResident
set_option maxRecDepth 20000 in
theorem ggX6_kindFor_X6_isShort : GoodIn wsX6_kindFor wsX6_isShort := goodIn_r _ [12, 13, 7, 8, 4, 9] (by decide +kernel) (by decide +kernel)
set_option maxRecDepth 20000 in
theorem gX6_kindFor_X6_isShort : GoodIn wsX6_kindFor (va_wsS RX6 176 yX6_isShort wsX6_isShort) := goodIn_app (goodIn_of _ (by decide +kernel)) ggX6_kindFor_X6_isShort
set_option maxRecDepth 20000 in
theorem ggX6_kindFor_X6_bestOf : GoodIn wsX6_kindFor wsX6_bestOf := goodIn_r _ [17, 6, 18, 19, 20, 4, 21, 22, 23, 24, 25, 26, 27, 28, 29, 30, 31, 32, 33, 34, 35, 36, 37, 38, 39, 40, 41, 42, 43, 44, 45, 46, 47, 48, 49, 50, 51, 52, 53, 54, 55, 56, 57, 58, 59, 60, 61, 62, 63, 64, 65, 66, 67, 68, 69, 70, 71, 72, 73, 74, 75, 76, 77, 78, 79, 80, 81, 82, 83, 84, 85, 86, 87, 88, 89, 90, 91, 98, 99, 100, 101, 102, 103, 104, 105, 106, 107, 108, 109, 110, 111, 112, 113, 114] (by decide +kernel) (by decide +kernel)
set_option maxRecDepth 20000 in
theorem gX6_kindFor_X6_bestOf : GoodIn wsX6_kindFor (wsV RX6 179 RX6 yX6_bestOf wsX6_bestOf) := goodIn_app (goodIn_of _ (by decide +kernel)) ggX6_kindFor_X6_bestOf
set_option maxRecDepth 20000 in
theorem ggX6_kindFor_X6_finds : GoodIn wsX6_kindFor wsX6_finds := goodIn_r _ [95, 96, 97, 98, 99, 100, 101, 102, 103, 104, 105, 106, 107, 108, 109, 110, 111, 112, 113, 114] (by decide +kernel) (by decide +kernel)
set_option maxRecDepth 20000 in
theorem gX6_kindFor_X6_finds : GoodIn wsX6_kindFor (wsV RX6 121 RX6 yX6_finds wsX6_finds) := goodIn_app (goodIn_of _ (by decide +kernel)) ggX6_kindFor_X6_finds
theorem dX6_kindFor_0 : decode cX6_kindFor 0 = .ok (.aload_n 0, 1) := by decide +kernel
theorem dX6_kindFor_1 : decode cX6_kindFor 1 = .ok (.iload_n 1, 1) := by decide +kernel
theorem dX6_kindFor_2 : decode cX6_kindFor 2 = .ok (.invokevirtual 134, 3) := by decide +kernel
theorem dX6_kindFor_5 : decode cX6_kindFor 5 = .ok (.ifCond .eq 28, 3) := by decide +kernel
theorem dX6_kindFor_8 : decode cX6_kindFor 8 = .ok (.iload_n 2, 1) := by decide +kernel
theorem dX6_kindFor_9 : decode cX6_kindFor 9 = .ok (.invokestatic 176, 3) := by decide +kernel
theorem dX6_kindFor_12 : decode cX6_kindFor 12 = .ok (.ifCond .eq 21, 3) := by decide +kernel
theorem dX6_kindFor_15 : decode cX6_kindFor 15 = .ok (.aload_n 0, 1) := by decide +kernel
theorem dX6_kindFor_16 : decode cX6_kindFor 16 = .ok (.bipush 25, 2) := by decide +kernel
theorem dX6_kindFor_18 : decode cX6_kindFor 18 = .ok (.iload_n 1, 1) := by decide +kernel
theorem dX6_kindFor_19 : decode cX6_kindFor 19 = .ok (.iadd, 1) := by decide +kernel
theorem dX6_kindFor_20 : decode cX6_kindFor 20 = .ok (.bipush 6, 2) := by decide +kernel
theorem dX6_kindFor_22 : decode cX6_kindFor 22 = .ok (.bipush 57, 2) := by decide +kernel
theorem dX6_kindFor_24 : decode cX6_kindFor 24 = .ok (.iload_n 1, 1) := by decide +kernel
theorem dX6_kindFor_25 : decode cX6_kindFor 25 = .ok (.iadd, 1) := by decide +kernel
theorem dX6_kindFor_26 : decode cX6_kindFor 26 = .ok (.iload_n 2, 1) := by decide +kernel
theorem dX6_kindFor_27 : decode cX6_kindFor 27 = .ok (.invokevirtual 179, 3) := by decide +kernel
theorem dX6_kindFor_30 : decode cX6_kindFor 30 = .ok (.goto 8, 3) := by decide +kernel
theorem dX6_kindFor_33 : decode cX6_kindFor 33 = .ok (.aload_n 0, 1) := by decide +kernel
theorem dX6_kindFor_34 : decode cX6_kindFor 34 = .ok (.iconst 0, 1) := by decide +kernel
theorem dX6_kindFor_35 : decode cX6_kindFor 35 = .ok (.invokevirtual 121, 3) := by decide +kernel
theorem dX6_kindFor_38 : decode cX6_kindFor 38 = .ok (.ireturn, 1) := by decide +kernel
set_option maxRecDepth 20000 in
theorem ggX6_empty_X6_in : GoodIn wsX6_empty wsX6_in := goodIn_r _ [7] (by decide +kernel) (by decide +kernel)
set_option maxRecDepth 20000 in
theorem gX6_empty_X6_in : GoodIn wsX6_empty (va_wsS RX6 42 yX6_in wsX6_in) := goodIn_app (goodIn_of _ (by decide +kernel)) ggX6_empty_X6_in
set_option maxRecDepth 20000 in
theorem ggX6_empty_X6_finds : GoodIn wsX6_empty wsX6_finds := goodIn_r _ [11, 12, 13, 87, 88, 89, 90, 91, 92, 93, 94, 95, 96, 97, 98, 99, 100, 101, 102, 103] (by decide +kernel) (by decide +kernel)
set_option maxRecDepth 20000 in
theorem gX6_empty_X6_finds : GoodIn wsX6_empty (wsV RX6 121 RX6 yX6_finds wsX6_finds) := goodIn_app (goodIn_of _ (by decide +kernel)) ggX6_empty_X6_finds
set_option maxRecDepth 20000 in
theorem ggX6_empty_X6_copies : GoodIn wsX6_empty wsX6_copies := goodIn_r _ [16] (by decide +kernel) (by decide +kernel)
set_option maxRecDepth 20000 in
theorem gX6_empty_X6_copies : GoodIn wsX6_empty (va_wsS RX6 158 yX6_copies wsX6_copies) := goodIn_app (goodIn_of _ (by decide +kernel)) ggX6_empty_X6_copies
set_option maxRecDepth 20000 in
theorem ggX6_empty_X6_ones : GoodIn wsX6_empty wsX6_ones := goodIn_r _ [19] (by decide +kernel) (by decide +kernel)
set_option maxRecDepth 20000 in
theorem gX6_empty_X6_ones : GoodIn wsX6_empty (va_wsS RX6 60 yX6_ones wsX6_ones) := goodIn_app (goodIn_of _ (by decide +kernel)) ggX6_empty_X6_ones
set_option maxRecDepth 20000 in
theorem ggX6_empty_X6_its : GoodIn wsX6_empty wsX6_its := goodIn_r _ [23, 2, 87, 88, 89, 90, 91, 92, 93, 94, 95, 96, 97, 98, 99, 100, 101, 102, 103] (by decide +kernel) (by decide +kernel)
set_option maxRecDepth 20000 in
theorem gX6_empty_X6_its : GoodIn wsX6_empty (wsV RX6 52 RX6 yX6_its wsX6_its) := goodIn_app (goodIn_of _ (by decide +kernel)) ggX6_empty_X6_its
set_option maxRecDepth 20000 in
theorem ggX6_empty_X6_sets : GoodIn wsX6_empty wsX6_sets := goodIn_r _ [27, 2, 87, 88, 89, 90, 91, 92, 93, 94, 95, 96, 97, 98, 99, 100, 101, 102, 103] (by decide +kernel) (by decide +kernel)
set_option maxRecDepth 20000 in
theorem gX6_empty_X6_sets : GoodIn wsX6_empty (wsV RX6 90 RX6 yX6_sets wsX6_sets) := goodIn_app (goodIn_of _ (by decide +kernel)) ggX6_empty_X6_sets
set_option maxRecDepth 20000 in
theorem ggX6_empty_X6_behind : GoodIn wsX6_empty wsX6_behind := goodIn_r _ [31, 2, 3, 32, 33, 34, 6, 35, 36, 37, 38, 39, 40, 41, 42, 43, 44, 20, 21, 22, 23, 45, 46, 47, 48, 49, 50, 51, 52, 53, 54, 55, 56, 57, 58, 59, 60, 61, 62, 63, 64, 65, 66, 67, 68, 69, 70, 71, 17, 18, 19, 72, 73, 74, 24, 25, 26, 27, 75, 76, 77, 78, 79, 80, 81, 82, 83, 84, 85, 86, 14, 15, 16, 87, 88, 89, 90, 91, 92, 93, 94, 95, 96, 97, 98, 99, 100, 101, 102, 103] (by decide +kernel) (by decide +kernel)
set_option maxRecDepth 20000 in
theorem gX6_empty_X6_behind : GoodIn wsX6_empty (wsV RX6 166 RX6 yX6_behind wsX6_behind) := goodIn_app (goodIn_of _ (by decide +kernel)) ggX6_empty_X6_behind
theorem dX6_empty_0 : decode cX6_empty 0 = .ok (.iload_n 1, 1) := by decide +kernel
theorem dX6_empty_1 : decode cX6_empty 1 = .ok (.i2l, 1) := by decide +kernel
theorem dX6_empty_2 : decode cX6_empty 2 = .ok (.lconst 0, 1) := by decide +kernel
theorem dX6_empty_3 : decode cX6_empty 3 = .ok (.ldc2_w 185, 3) := by decide +kernel
theorem dX6_empty_6 : decode cX6_empty 6 = .ok (.invokestatic 42, 3) := by decide +kernel
theorem dX6_empty_9 : decode cX6_empty 9 = .ok (.ifCond .ne 9, 3) := by decide +kernel
theorem dX6_empty_12 : decode cX6_empty 12 = .ok (.aload_n 0, 1) := by decide +kernel
theorem dX6_empty_13 : decode cX6_empty 13 = .ok (.iconst 0, 1) := by decide +kernel
theorem dX6_empty_14 : decode cX6_empty 14 = .ok (.invokevirtual 121, 3) := by decide +kernel
theorem dX6_empty_17 : decode cX6_empty 17 = .ok (.ireturn, 1) := by decide +kernel
theorem dX6_empty_18 : decode cX6_empty 18 = .ok (.aload_n 0, 1) := by decide +kernel
theorem dX6_empty_19 : decode cX6_empty 19 = .ok (.getfield 7, 3) := by decide +kernel
theorem dX6_empty_22 : decode cX6_empty 22 = .ok (.aload_n 0, 1) := by decide +kernel
theorem dX6_empty_23 : decode cX6_empty 23 = .ok (.getfield 16, 3) := by decide +kernel
theorem dX6_empty_26 : decode cX6_empty 26 = .ok (.invokestatic 158, 3) := by decide +kernel
theorem dX6_empty_29 : decode cX6_empty 29 = .ok (.iconst (-1), 1) := by decide +kernel
theorem dX6_empty_30 : decode cX6_empty 30 = .ok (.istore_n 2, 1) := by decide +kernel
theorem dX6_empty_31 : decode cX6_empty 31 = .ok (.iconst 0, 1) := by decide +kernel
theorem dX6_empty_32 : decode cX6_empty 32 = .ok (.istore_n 3, 1) := by decide +kernel
theorem dX6_empty_33 : decode cX6_empty 33 = .ok (.iload_n 3, 1) := by decide +kernel
theorem dX6_empty_34 : decode cX6_empty 34 = .ok (.iconst 1, 1) := by decide +kernel
theorem dX6_empty_35 : decode cX6_empty 35 = .ok (.aload_n 0, 1) := by decide +kernel
theorem dX6_empty_36 : decode cX6_empty 36 = .ok (.getfield 7, 3) := by decide +kernel
theorem dX6_empty_39 : decode cX6_empty 39 = .ok (.iconst 0, 1) := by decide +kernel
theorem dX6_empty_40 : decode cX6_empty 40 = .ok (.iaload, 1) := by decide +kernel
theorem dX6_empty_41 : decode cX6_empty 41 = .ok (.ishl, 1) := by decide +kernel
theorem dX6_empty_42 : decode cX6_empty 42 = .ok (.if_icmp .ge 91, 3) := by decide +kernel
theorem dX6_empty_45 : decode cX6_empty 45 = .ok (.iload_n 2, 1) := by decide +kernel
theorem dX6_empty_46 : decode cX6_empty 46 = .ok (.ifCond .lt 17, 3) := by decide +kernel
theorem dX6_empty_49 : decode cX6_empty 49 = .ok (.iload_n 3, 1) := by decide +kernel
theorem dX6_empty_50 : decode cX6_empty 50 = .ok (.invokestatic 60, 3) := by decide +kernel
theorem dX6_empty_53 : decode cX6_empty 53 = .ok (.iload_n 2, 1) := by decide +kernel
theorem dX6_empty_54 : decode cX6_empty 54 = .ok (.invokestatic 60, 3) := by decide +kernel
theorem dX6_empty_57 : decode cX6_empty 57 = .ok (.if_icmp .lt 6, 3) := by decide +kernel
theorem dX6_empty_60 : decode cX6_empty 60 = .ok (.goto 67, 3) := by decide +kernel
theorem dX6_empty_63 : decode cX6_empty 63 = .ok (.iconst 0, 1) := by decide +kernel
theorem dX6_empty_64 : decode cX6_empty 64 = .ok (.istore 4, 2) := by decide +kernel
theorem dX6_empty_66 : decode cX6_empty 66 = .ok (.iload 4, 2) := by decide +kernel
theorem dX6_empty_68 : decode cX6_empty 68 = .ok (.aload_n 0, 1) := by decide +kernel
theorem dX6_empty_69 : decode cX6_empty 69 = .ok (.getfield 7, 3) := by decide +kernel
theorem dX6_empty_72 : decode cX6_empty 72 = .ok (.iconst 0, 1) := by decide +kernel
theorem dX6_empty_73 : decode cX6_empty 73 = .ok (.iaload, 1) := by decide +kernel
theorem dX6_empty_74 : decode cX6_empty 74 = .ok (.if_icmp .ge 30, 3) := by decide +kernel
theorem dX6_empty_77 : decode cX6_empty 77 = .ok (.aload_n 0, 1) := by decide +kernel
theorem dX6_empty_78 : decode cX6_empty 78 = .ok (.iload 4, 2) := by decide +kernel
theorem dX6_empty_80 : decode cX6_empty 80 = .ok (.iconst 5, 1) := by decide +kernel
theorem dX6_empty_81 : decode cX6_empty 81 = .ok (.aload_n 0, 1) := by decide +kernel
theorem dX6_empty_82 : decode cX6_empty 82 = .ok (.iload 4, 2) := by decide +kernel
theorem dX6_empty_84 : decode cX6_empty 84 = .ok (.iconst 5, 1) := by decide +kernel
theorem dX6_empty_85 : decode cX6_empty 85 = .ok (.invokevirtual 52, 3) := by decide +kernel
theorem dX6_empty_88 : decode cX6_empty 88 = .ok (.iload_n 3, 1) := by decide +kernel
theorem dX6_empty_89 : decode cX6_empty 89 = .ok (.iload 4, 2) := by decide +kernel
theorem dX6_empty_91 : decode cX6_empty 91 = .ok (.ishr, 1) := by decide +kernel
theorem dX6_empty_92 : decode cX6_empty 92 = .ok (.iconst 1, 1) := by decide +kernel
theorem dX6_empty_93 : decode cX6_empty 93 = .ok (.iand, 1) := by decide +kernel
theorem dX6_empty_94 : decode cX6_empty 94 = .ok (.ior, 1) := by decide +kernel
theorem dX6_empty_95 : decode cX6_empty 95 = .ok (.invokevirtual 90, 3) := by decide +kernel
theorem dX6_empty_98 : decode cX6_empty 98 = .ok (.iinc 4 1, 3) := by decide +kernel
theorem dX6_empty_101 : decode cX6_empty 101 = .ok (.goto (-35), 3) := by decide +kernel
theorem dX6_empty_104 : decode cX6_empty 104 = .ok (.aload_n 0, 1) := by decide +kernel
theorem dX6_empty_105 : decode cX6_empty 105 = .ok (.iload_n 1, 1) := by decide +kernel
theorem dX6_empty_106 : decode cX6_empty 106 = .ok (.bipush 6, 2) := by decide +kernel
theorem dX6_empty_108 : decode cX6_empty 108 = .ok (.invokevirtual 166, 3) := by decide +kernel
theorem dX6_empty_111 : decode cX6_empty 111 = .ok (.aload_n 0, 1) := by decide +kernel
theorem dX6_empty_112 : decode cX6_empty 112 = .ok (.getfield 7, 3) := by decide +kernel
theorem dX6_empty_115 : decode cX6_empty 115 = .ok (.bipush 6, 2) := by decide +kernel
theorem dX6_empty_117 : decode cX6_empty 117 = .ok (.iaload, 1) := by decide +kernel
theorem dX6_empty_118 : decode cX6_empty 118 = .ok (.if_icmp .ne 7, 3) := by decide +kernel
theorem dX6_empty_121 : decode cX6_empty 121 = .ok (.iload_n 3, 1) := by decide +kernel
theorem dX6_empty_122 : decode cX6_empty 122 = .ok (.goto 4, 3) := by decide +kernel
theorem dX6_empty_125 : decode cX6_empty 125 = .ok (.iload_n 2, 1) := by decide +kernel
theorem dX6_empty_126 : decode cX6_empty 126 = .ok (.istore_n 2, 1) := by decide +kernel
theorem dX6_empty_127 : decode cX6_empty 127 = .ok (.iinc 3 1, 3) := by decide +kernel
theorem dX6_empty_130 : decode cX6_empty 130 = .ok (.goto (-97), 3) := by decide +kernel
theorem dX6_empty_133 : decode cX6_empty 133 = .ok (.iload_n 2, 1) := by decide +kernel
theorem dX6_empty_134 : decode cX6_empty 134 = .ok (.ifCond .ge 11, 3) := by decide +kernel
theorem dX6_empty_137 : decode cX6_empty 137 = .ok (.aload_n 0, 1) := by decide +kernel
theorem dX6_empty_138 : decode cX6_empty 138 = .ok (.iconst 3, 1) := by decide +kernel
theorem dX6_empty_139 : decode cX6_empty 139 = .ok (.invokevirtual 121, 3) := by decide +kernel
theorem dX6_empty_142 : decode cX6_empty 142 = .ok (.goto 4, 3) := by decide +kernel
theorem dX6_empty_145 : decode cX6_empty 145 = .ok (.iload_n 2, 1) := by decide +kernel
theorem dX6_empty_146 : decode cX6_empty 146 = .ok (.ireturn, 1) := by decide +kernel
set_option maxRecDepth 20000 in
theorem ggX6_cover_X6_areGoods : GoodIn wsX6_cover wsX6_areGoods := goodIn_r _ [5, 6, 7, 8, 4, 9] (by decide +kernel) (by decide +kernel)
set_option maxRecDepth 20000 in
theorem gX6_cover_X6_areGoods : GoodIn wsX6_cover (va_wsS RX6 187 yX6_areGoods wsX6_areGoods) := goodIn_app (goodIn_of _ (by decide +kernel)) ggX6_cover_X6_areGoods
set_option maxRecDepth 20000 in
theorem ggX6_cover_X6_finds : GoodIn wsX6_cover wsX6_finds := goodIn_r _ [13, 14, 15, 23, 24, 25, 26, 27, 28, 29, 30, 31, 32, 33, 34, 35, 36, 37, 38, 39] (by decide +kernel) (by decide +kernel)
set_option maxRecDepth 20000 in
theorem gX6_cover_X6_finds : GoodIn wsX6_cover (wsV RX6 121 RX6 yX6_finds wsX6_finds) := goodIn_app (goodIn_of _ (by decide +kernel)) ggX6_cover_X6_finds
set_option maxRecDepth 20000 in
theorem ggX6_cover_X6_its : GoodIn wsX6_cover wsX6_its := goodIn_r _ [19, 1, 23, 24, 25, 26, 27, 28, 29, 30, 31, 32, 33, 34, 35, 36, 37, 38, 39] (by decide +kernel) (by decide +kernel)
set_option maxRecDepth 20000 in
theorem gX6_cover_X6_its : GoodIn wsX6_cover (wsV RX6 52 RX6 yX6_its wsX6_its) := goodIn_app (goodIn_of _ (by decide +kernel)) ggX6_cover_X6_its
set_option maxRecDepth 20000 in
theorem ggX6_cover_X6_ones : GoodIn wsX6_cover wsX6_ones := goodIn_r _ [22] (by decide +kernel) (by decide +kernel)
set_option maxRecDepth 20000 in
theorem gX6_cover_X6_ones : GoodIn wsX6_cover (va_wsS RX6 60 yX6_ones wsX6_ones) := goodIn_app (goodIn_of _ (by decide +kernel)) ggX6_cover_X6_ones
theorem dX6_cover_0 : decode cX6_cover 0 = .ok (.iload_n 1, 1) := by decide +kernel
theorem dX6_cover_1 : decode cX6_cover 1 = .ok (.invokestatic 187, 3) := by decide +kernel
theorem dX6_cover_4 : decode cX6_cover 4 = .ok (.ifCond .ne 9, 3) := by decide +kernel
theorem dX6_cover_7 : decode cX6_cover 7 = .ok (.aload_n 0, 1) := by decide +kernel
theorem dX6_cover_8 : decode cX6_cover 8 = .ok (.iconst 0, 1) := by decide +kernel
theorem dX6_cover_9 : decode cX6_cover 9 = .ok (.invokevirtual 121, 3) := by decide +kernel
theorem dX6_cover_12 : decode cX6_cover 12 = .ok (.ireturn, 1) := by decide +kernel
theorem dX6_cover_13 : decode cX6_cover 13 = .ok (.iconst (-1), 1) := by decide +kernel
theorem dX6_cover_14 : decode cX6_cover 14 = .ok (.istore_n 2, 1) := by decide +kernel
theorem dX6_cover_15 : decode cX6_cover 15 = .ok (.iconst 0, 1) := by decide +kernel
theorem dX6_cover_16 : decode cX6_cover 16 = .ok (.istore_n 3, 1) := by decide +kernel
theorem dX6_cover_17 : decode cX6_cover 17 = .ok (.iload_n 3, 1) := by decide +kernel
theorem dX6_cover_18 : decode cX6_cover 18 = .ok (.iconst 1, 1) := by decide +kernel
theorem dX6_cover_19 : decode cX6_cover 19 = .ok (.aload_n 0, 1) := by decide +kernel
theorem dX6_cover_20 : decode cX6_cover 20 = .ok (.getfield 7, 3) := by decide +kernel
theorem dX6_cover_23 : decode cX6_cover 23 = .ok (.iconst 0, 1) := by decide +kernel
theorem dX6_cover_24 : decode cX6_cover 24 = .ok (.iaload, 1) := by decide +kernel
theorem dX6_cover_25 : decode cX6_cover 25 = .ok (.ishl, 1) := by decide +kernel
theorem dX6_cover_26 : decode cX6_cover 26 = .ok (.if_icmp .ge 86, 3) := by decide +kernel
theorem dX6_cover_29 : decode cX6_cover 29 = .ok (.iload_n 1, 1) := by decide +kernel
theorem dX6_cover_30 : decode cX6_cover 30 = .ok (.istore 4, 2) := by decide +kernel
theorem dX6_cover_32 : decode cX6_cover 32 = .ok (.iconst 0, 1) := by decide +kernel
theorem dX6_cover_33 : decode cX6_cover 33 = .ok (.istore 5, 2) := by decide +kernel
theorem dX6_cover_35 : decode cX6_cover 35 = .ok (.iload 5, 2) := by decide +kernel
theorem dX6_cover_37 : decode cX6_cover 37 = .ok (.aload_n 0, 1) := by decide +kernel
theorem dX6_cover_38 : decode cX6_cover 38 = .ok (.getfield 7, 3) := by decide +kernel
theorem dX6_cover_41 : decode cX6_cover 41 = .ok (.iconst 0, 1) := by decide +kernel
theorem dX6_cover_42 : decode cX6_cover 42 = .ok (.iaload, 1) := by decide +kernel
theorem dX6_cover_43 : decode cX6_cover 43 = .ok (.if_icmp .ge 37, 3) := by decide +kernel
theorem dX6_cover_46 : decode cX6_cover 46 = .ok (.iload 4, 2) := by decide +kernel
theorem dX6_cover_48 : decode cX6_cover 48 = .ok (.iload_n 3, 1) := by decide +kernel
theorem dX6_cover_49 : decode cX6_cover 49 = .ok (.iload 5, 2) := by decide +kernel
theorem dX6_cover_51 : decode cX6_cover 51 = .ok (.ishr, 1) := by decide +kernel
theorem dX6_cover_52 : decode cX6_cover 52 = .ok (.iconst 1, 1) := by decide +kernel
theorem dX6_cover_53 : decode cX6_cover 53 = .ok (.iand, 1) := by decide +kernel
theorem dX6_cover_54 : decode cX6_cover 54 = .ok (.iconst 1, 1) := by decide +kernel
theorem dX6_cover_55 : decode cX6_cover 55 = .ok (.if_icmp .ne 15, 3) := by decide +kernel
theorem dX6_cover_58 : decode cX6_cover 58 = .ok (.aload_n 0, 1) := by decide +kernel
theorem dX6_cover_59 : decode cX6_cover 59 = .ok (.iload 5, 2) := by decide +kernel
theorem dX6_cover_61 : decode cX6_cover 61 = .ok (.iconst 2, 1) := by decide +kernel
theorem dX6_cover_62 : decode cX6_cover 62 = .ok (.invokevirtual 52, 3) := by decide +kernel
theorem dX6_cover_65 : decode cX6_cover 65 = .ok (.iconst (-1), 1) := by decide +kernel
theorem dX6_cover_66 : decode cX6_cover 66 = .ok (.ixor, 1) := by decide +kernel
theorem dX6_cover_67 : decode cX6_cover 67 = .ok (.goto 4, 3) := by decide +kernel
theorem dX6_cover_70 : decode cX6_cover 70 = .ok (.iconst (-1), 1) := by decide +kernel
theorem dX6_cover_71 : decode cX6_cover 71 = .ok (.iand, 1) := by decide +kernel
theorem dX6_cover_72 : decode cX6_cover 72 = .ok (.istore 4, 2) := by decide +kernel
theorem dX6_cover_74 : decode cX6_cover 74 = .ok (.iinc 5 1, 3) := by decide +kernel
theorem dX6_cover_77 : decode cX6_cover 77 = .ok (.goto (-42), 3) := by decide +kernel
theorem dX6_cover_80 : decode cX6_cover 80 = .ok (.iload 4, 2) := by decide +kernel
theorem dX6_cover_82 : decode cX6_cover 82 = .ok (.ifCond .ne 22, 3) := by decide +kernel
theorem dX6_cover_85 : decode cX6_cover 85 = .ok (.iload_n 2, 1) := by decide +kernel
theorem dX6_cover_86 : decode cX6_cover 86 = .ok (.ifCond .lt 14, 3) := by decide +kernel
theorem dX6_cover_89 : decode cX6_cover 89 = .ok (.iload_n 3, 1) := by decide +kernel
theorem dX6_cover_90 : decode cX6_cover 90 = .ok (.invokestatic 60, 3) := by decide +kernel
theorem dX6_cover_93 : decode cX6_cover 93 = .ok (.iload_n 2, 1) := by decide +kernel
theorem dX6_cover_94 : decode cX6_cover 94 = .ok (.invokestatic 60, 3) := by decide +kernel
theorem dX6_cover_97 : decode cX6_cover 97 = .ok (.if_icmp .ge 7, 3) := by decide +kernel
theorem dX6_cover_100 : decode cX6_cover 100 = .ok (.iload_n 3, 1) := by decide +kernel
theorem dX6_cover_101 : decode cX6_cover 101 = .ok (.goto 4, 3) := by decide +kernel
theorem dX6_cover_104 : decode cX6_cover 104 = .ok (.iload_n 2, 1) := by decide +kernel
theorem dX6_cover_105 : decode cX6_cover 105 = .ok (.istore_n 2, 1) := by decide +kernel
theorem dX6_cover_106 : decode cX6_cover 106 = .ok (.iinc 3 1, 3) := by decide +kernel
theorem dX6_cover_109 : decode cX6_cover 109 = .ok (.goto (-92), 3) := by decide +kernel
theorem dX6_cover_112 : decode cX6_cover 112 = .ok (.iload_n 2, 1) := by decide +kernel
theorem dX6_cover_113 : decode cX6_cover 113 = .ok (.ifCond .ge 11, 3) := by decide +kernel
theorem dX6_cover_116 : decode cX6_cover 116 = .ok (.aload_n 0, 1) := by decide +kernel
theorem dX6_cover_117 : decode cX6_cover 117 = .ok (.iconst 3, 1) := by decide +kernel
theorem dX6_cover_118 : decode cX6_cover 118 = .ok (.invokevirtual 121, 3) := by decide +kernel
theorem dX6_cover_121 : decode cX6_cover 121 = .ok (.goto 4, 3) := by decide +kernel
theorem dX6_cover_124 : decode cX6_cover 124 = .ok (.iload_n 2, 1) := by decide +kernel
theorem dX6_cover_125 : decode cX6_cover 125 = .ok (.ireturn, 1) := by decide +kernel
set_option maxRecDepth 20000 in
theorem ggX6_whyNot_X6_whyNone : GoodIn wsX6_whyNot wsX6_whyNone := goodIn_r _ [5, 6, 7, 8, 4, 9, 10, 11, 12, 13, 19, 20, 21, 22, 23, 24, 25, 26, 27, 28, 29, 30, 31, 32, 33, 34, 35] (by decide +kernel) (by decide +kernel)
set_option maxRecDepth 20000 in
theorem gX6_whyNot_X6_whyNone : GoodIn wsX6_whyNot (wsV RX6 190 RX6 yX6_whyNone wsX6_whyNone) := goodIn_app (goodIn_of _ (by decide +kernel)) ggX6_whyNot_X6_whyNone
set_option maxRecDepth 20000 in
theorem ggX6_whyNot_X6_isResident : GoodIn wsX6_whyNot wsX6_isResident := goodIn_r _ [17, 18, 11, 12, 4, 13, 19, 20, 21, 22, 23, 24, 25, 26, 27, 28, 29, 30, 31, 32, 33, 34, 35] (by decide +kernel) (by decide +kernel)
set_option maxRecDepth 20000 in
theorem gX6_whyNot_X6_isResident : GoodIn wsX6_whyNot (wsV RX6 134 RX6 yX6_isResident wsX6_isResident) := goodIn_app (goodIn_of _ (by decide +kernel)) ggX6_whyNot_X6_isResident
theorem dX6_whyNot_0 : decode cX6_whyNot 0 = .ok (.aload_n 0, 1) := by decide +kernel
theorem dX6_whyNot_1 : decode cX6_whyNot 1 = .ok (.iload_n 1, 1) := by decide +kernel
theorem dX6_whyNot_2 : decode cX6_whyNot 2 = .ok (.invokevirtual 190, 3) := by decide +kernel
theorem dX6_whyNot_5 : decode cX6_whyNot 5 = .ok (.istore_n 3, 1) := by decide +kernel
theorem dX6_whyNot_6 : decode cX6_whyNot 6 = .ok (.iload_n 3, 1) := by decide +kernel
theorem dX6_whyNot_7 : decode cX6_whyNot 7 = .ok (.ifCond .lt 7, 3) := by decide +kernel
theorem dX6_whyNot_10 : decode cX6_whyNot 10 = .ok (.iload_n 3, 1) := by decide +kernel
theorem dX6_whyNot_11 : decode cX6_whyNot 11 = .ok (.goto 16, 3) := by decide +kernel
theorem dX6_whyNot_14 : decode cX6_whyNot 14 = .ok (.aload_n 0, 1) := by decide +kernel
theorem dX6_whyNot_15 : decode cX6_whyNot 15 = .ok (.iload_n 2, 1) := by decide +kernel
theorem dX6_whyNot_16 : decode cX6_whyNot 16 = .ok (.invokevirtual 134, 3) := by decide +kernel
theorem dX6_whyNot_19 : decode cX6_whyNot 19 = .ok (.ifCond .eq 7, 3) := by decide +kernel
theorem dX6_whyNot_22 : decode cX6_whyNot 22 = .ok (.iconst (-1), 1) := by decide +kernel
theorem dX6_whyNot_23 : decode cX6_whyNot 23 = .ok (.goto 4, 3) := by decide +kernel
theorem dX6_whyNot_26 : decode cX6_whyNot 26 = .ok (.iconst 0, 1) := by decide +kernel
theorem dX6_whyNot_27 : decode cX6_whyNot 27 = .ok (.ireturn, 1) := by decide +kernel
set_option maxRecDepth 20000 in
theorem ggX6_isTold_X6_its : GoodIn wsX6_isTold wsX6_its := goodIn_r _ [9, 4, 71, 72, 73, 74, 75, 76, 77, 78, 79, 80, 81, 82, 83, 84, 85, 86, 87] (by decide +kernel) (by decide +kernel)
set_option maxRecDepth 20000 in
theorem gX6_isTold_X6_its : GoodIn wsX6_isTold (wsV RX6 52 RX6 yX6_its wsX6_its) := goodIn_app (goodIn_of _ (by decide +kernel)) ggX6_isTold_X6_its
set_option maxRecDepth 20000 in
theorem ggX6_isTold_X6_dayGoes : GoodIn wsX6_isTold wsX6_dayGoes := goodIn_r _ [13, 4, 14, 15, 16, 17, 8, 18, 5, 6, 7, 9, 19, 20, 21, 22, 23, 24, 25, 26, 27, 28, 29, 30, 31, 32, 33, 34, 35, 36, 37, 38, 39, 40, 41, 42, 43, 44, 45, 46, 47, 48, 49, 50, 51, 52, 53, 54, 55, 56, 57, 58, 59, 60, 61, 62, 63, 64, 65, 66, 67, 71, 72, 73, 74, 75, 76, 77, 78, 79, 80, 81, 82, 83, 84, 85, 86, 87] (by decide +kernel) (by decide +kernel)
set_option maxRecDepth 20000 in
theorem gX6_isTold_X6_dayGoes : GoodIn wsX6_isTold (wsV RX6 105 RX6 yX6_dayGoes wsX6_dayGoes) := goodIn_app (goodIn_of _ (by decide +kernel)) ggX6_isTold_X6_dayGoes
set_option maxRecDepth 20000 in
theorem ggX6_isTold_X6_copies : GoodIn wsX6_isTold wsX6_copies := goodIn_r _ [70] (by decide +kernel) (by decide +kernel)
set_option maxRecDepth 20000 in
theorem gX6_isTold_X6_copies : GoodIn wsX6_isTold (va_wsS RX6 158 yX6_copies wsX6_copies) := goodIn_app (goodIn_of _ (by decide +kernel)) ggX6_isTold_X6_copies
theorem dX6_isTold_0 : decode cX6_isTold 0 = .ok (.iconst 1, 1) := by decide +kernel
theorem dX6_isTold_1 : decode cX6_isTold 1 = .ok (.istore_n 3, 1) := by decide +kernel
theorem dX6_isTold_2 : decode cX6_isTold 2 = .ok (.iconst 0, 1) := by decide +kernel
theorem dX6_isTold_3 : decode cX6_isTold 3 = .ok (.istore 4, 2) := by decide +kernel
theorem dX6_isTold_5 : decode cX6_isTold 5 = .ok (.iload 4, 2) := by decide +kernel
theorem dX6_isTold_7 : decode cX6_isTold 7 = .ok (.aload_n 0, 1) := by decide +kernel
theorem dX6_isTold_8 : decode cX6_isTold 8 = .ok (.getfield 32, 3) := by decide +kernel
theorem dX6_isTold_11 : decode cX6_isTold 11 = .ok (.iload_n 1, 1) := by decide +kernel
theorem dX6_isTold_12 : decode cX6_isTold 12 = .ok (.iaload, 1) := by decide +kernel
theorem dX6_isTold_13 : decode cX6_isTold 13 = .ok (.if_icmp .ge 54, 3) := by decide +kernel
theorem dX6_isTold_16 : decode cX6_isTold 16 = .ok (.iload_n 3, 1) := by decide +kernel
theorem dX6_isTold_17 : decode cX6_isTold 17 = .ok (.ifCond .eq 50, 3) := by decide +kernel
theorem dX6_isTold_20 : decode cX6_isTold 20 = .ok (.aload_n 0, 1) := by decide +kernel
theorem dX6_isTold_21 : decode cX6_isTold 21 = .ok (.getfield 35, 3) := by decide +kernel
theorem dX6_isTold_24 : decode cX6_isTold 24 = .ok (.bipush 40, 2) := by decide +kernel
theorem dX6_isTold_26 : decode cX6_isTold 26 = .ok (.iload_n 1, 1) := by decide +kernel
theorem dX6_isTold_27 : decode cX6_isTold 27 = .ok (.imul, 1) := by decide +kernel
theorem dX6_isTold_28 : decode cX6_isTold 28 = .ok (.iload 4, 2) := by decide +kernel
theorem dX6_isTold_30 : decode cX6_isTold 30 = .ok (.iadd, 1) := by decide +kernel
theorem dX6_isTold_31 : decode cX6_isTold 31 = .ok (.iaload, 1) := by decide +kernel
theorem dX6_isTold_32 : decode cX6_isTold 32 = .ok (.istore 5, 2) := by decide +kernel
theorem dX6_isTold_34 : decode cX6_isTold 34 = .ok (.iload 5, 2) := by decide +kernel
theorem dX6_isTold_36 : decode cX6_isTold 36 = .ok (.iconst (-1), 1) := by decide +kernel
theorem dX6_isTold_37 : decode cX6_isTold 37 = .ok (.if_icmp .eq 14, 3) := by decide +kernel
theorem dX6_isTold_40 : decode cX6_isTold 40 = .ok (.iload 5, 2) := by decide +kernel
theorem dX6_isTold_42 : decode cX6_isTold 42 = .ok (.aload_n 0, 1) := by decide +kernel
theorem dX6_isTold_43 : decode cX6_isTold 43 = .ok (.iload_n 2, 1) := by decide +kernel
theorem dX6_isTold_44 : decode cX6_isTold 44 = .ok (.iconst 4, 1) := by decide +kernel
theorem dX6_isTold_45 : decode cX6_isTold 45 = .ok (.invokevirtual 52, 3) := by decide +kernel
theorem dX6_isTold_48 : decode cX6_isTold 48 = .ok (.if_icmp .ne 7, 3) := by decide +kernel
theorem dX6_isTold_51 : decode cX6_isTold 51 = .ok (.iconst 1, 1) := by decide +kernel
theorem dX6_isTold_52 : decode cX6_isTold 52 = .ok (.goto 4, 3) := by decide +kernel
theorem dX6_isTold_55 : decode cX6_isTold 55 = .ok (.iconst 0, 1) := by decide +kernel
theorem dX6_isTold_56 : decode cX6_isTold 56 = .ok (.istore_n 3, 1) := by decide +kernel
theorem dX6_isTold_57 : decode cX6_isTold 57 = .ok (.aload_n 0, 1) := by decide +kernel
theorem dX6_isTold_58 : decode cX6_isTold 58 = .ok (.invokevirtual 105, 3) := by decide +kernel
theorem dX6_isTold_61 : decode cX6_isTold 61 = .ok (.iinc 4 1, 3) := by decide +kernel
theorem dX6_isTold_64 : decode cX6_isTold 64 = .ok (.goto (-59), 3) := by decide +kernel
theorem dX6_isTold_67 : decode cX6_isTold 67 = .ok (.aload_n 0, 1) := by decide +kernel
theorem dX6_isTold_68 : decode cX6_isTold 68 = .ok (.getfield 16, 3) := by decide +kernel
theorem dX6_isTold_71 : decode cX6_isTold 71 = .ok (.aload_n 0, 1) := by decide +kernel
theorem dX6_isTold_72 : decode cX6_isTold 72 = .ok (.getfield 7, 3) := by decide +kernel
theorem dX6_isTold_75 : decode cX6_isTold 75 = .ok (.invokestatic 158, 3) := by decide +kernel
theorem dX6_isTold_78 : decode cX6_isTold 78 = .ok (.iload_n 3, 1) := by decide +kernel
theorem dX6_isTold_79 : decode cX6_isTold 79 = .ok (.ireturn, 1) := by decide +kernel
set_option maxRecDepth 20000 in
theorem ggX6_fits_X6_whyNot : GoodIn wsX6_fits wsX6_whyNot := goodIn_r _ [7, 8, 9, 10, 6, 11, 12, 13, 14, 15, 16, 17, 18, 19, 20, 21, 22, 23, 1, 101, 102, 103, 104, 105, 106, 107, 108, 109, 110, 111, 112, 113, 114, 115, 116, 117] (by decide +kernel) (by decide +kernel)
set_option maxRecDepth 20000 in
theorem gX6_fits_X6_whyNot : GoodIn wsX6_fits (wsV RX6 193 RX6 yX6_whyNot wsX6_whyNot) := goodIn_app (goodIn_of _ (by decide +kernel)) ggX6_fits_X6_whyNot
set_option maxRecDepth 20000 in
theorem ggX6_fits_X6_finds : GoodIn wsX6_fits wsX6_finds := goodIn_r _ [27, 28, 29, 101, 102, 103, 104, 105, 106, 107, 108, 109, 110, 111, 112, 113, 114, 115, 116, 117] (by decide +kernel) (by decide +kernel)
set_option maxRecDepth 20000 in
theorem gX6_fits_X6_finds : GoodIn wsX6_fits (wsV RX6 121 RX6 yX6_finds wsX6_finds) := goodIn_app (goodIn_of _ (by decide +kernel)) ggX6_fits_X6_finds
set_option maxRecDepth 20000 in
theorem ggX6_fits_X6_copies : GoodIn wsX6_fits wsX6_copies := goodIn_r _ [32] (by decide +kernel) (by decide +kernel)
set_option maxRecDepth 20000 in
theorem gX6_fits_X6_copies : GoodIn wsX6_fits (va_wsS RX6 158 yX6_copies wsX6_copies) := goodIn_app (goodIn_of _ (by decide +kernel)) ggX6_fits_X6_copies
set_option maxRecDepth 20000 in
theorem ggX6_fits_X6_sets : GoodIn wsX6_fits wsX6_sets := goodIn_r _ [36, 1, 101, 102, 103, 104, 105, 106, 107, 108, 109, 110, 111, 112, 113, 114, 115, 116, 117] (by decide +kernel) (by decide +kernel)
set_option maxRecDepth 20000 in
theorem gX6_fits_X6_sets : GoodIn wsX6_fits (wsV RX6 90 RX6 yX6_sets wsX6_sets) := goodIn_app (goodIn_of _ (by decide +kernel)) ggX6_fits_X6_sets
set_option maxRecDepth 20000 in
theorem ggX6_fits_X6_isTold : GoodIn wsX6_fits wsX6_isTold := goodIn_r _ [40, 41, 42, 2, 1, 43, 44, 45, 6, 46, 47, 48, 49, 50, 51, 52, 53, 54, 55, 56, 57, 58, 59, 60, 61, 62, 63, 64, 65, 66, 67, 68, 69, 70, 71, 72, 73, 74, 75, 76, 77, 78, 79, 80, 81, 82, 83, 84, 85, 86, 87, 88, 33, 34, 35, 36, 89, 90, 91, 92, 93, 94, 95, 96, 97, 98, 99, 100, 30, 31, 32, 101, 102, 103, 104, 105, 106, 107, 108, 109, 110, 111, 112, 113, 114, 115, 116, 117] (by decide +kernel) (by decide +kernel)
set_option maxRecDepth 20000 in
theorem gX6_fits_X6_isTold : GoodIn wsX6_fits (wsV RX6 196 RX6 yX6_isTold wsX6_isTold) := goodIn_app (goodIn_of _ (by decide +kernel)) ggX6_fits_X6_isTold
theorem dX6_fits_0 : decode cX6_fits 0 = .ok (.aload_n 0, 1) := by decide +kernel
theorem dX6_fits_1 : decode cX6_fits 1 = .ok (.iload_n 1, 1) := by decide +kernel
theorem dX6_fits_2 : decode cX6_fits 2 = .ok (.iload_n 2, 1) := by decide +kernel
theorem dX6_fits_3 : decode cX6_fits 3 = .ok (.invokevirtual 193, 3) := by decide +kernel
theorem dX6_fits_6 : decode cX6_fits 6 = .ok (.istore_n 3, 1) := by decide +kernel
theorem dX6_fits_7 : decode cX6_fits 7 = .ok (.iload_n 3, 1) := by decide +kernel
theorem dX6_fits_8 : decode cX6_fits 8 = .ok (.ifCond .lt 9, 3) := by decide +kernel
theorem dX6_fits_11 : decode cX6_fits 11 = .ok (.aload_n 0, 1) := by decide +kernel
theorem dX6_fits_12 : decode cX6_fits 12 = .ok (.iload_n 3, 1) := by decide +kernel
theorem dX6_fits_13 : decode cX6_fits 13 = .ok (.invokevirtual 121, 3) := by decide +kernel
theorem dX6_fits_16 : decode cX6_fits 16 = .ok (.ireturn, 1) := by decide +kernel
theorem dX6_fits_17 : decode cX6_fits 17 = .ok (.aload_n 0, 1) := by decide +kernel
theorem dX6_fits_18 : decode cX6_fits 18 = .ok (.getfield 7, 3) := by decide +kernel
theorem dX6_fits_21 : decode cX6_fits 21 = .ok (.aload_n 0, 1) := by decide +kernel
theorem dX6_fits_22 : decode cX6_fits 22 = .ok (.getfield 16, 3) := by decide +kernel
theorem dX6_fits_25 : decode cX6_fits 25 = .ok (.invokestatic 158, 3) := by decide +kernel
theorem dX6_fits_28 : decode cX6_fits 28 = .ok (.iconst 0, 1) := by decide +kernel
theorem dX6_fits_29 : decode cX6_fits 29 = .ok (.istore 4, 2) := by decide +kernel
theorem dX6_fits_31 : decode cX6_fits 31 = .ok (.iconst 0, 1) := by decide +kernel
theorem dX6_fits_32 : decode cX6_fits 32 = .ok (.istore 5, 2) := by decide +kernel
theorem dX6_fits_34 : decode cX6_fits 34 = .ok (.iload 5, 2) := by decide +kernel
theorem dX6_fits_36 : decode cX6_fits 36 = .ok (.bipush 12, 2) := by decide +kernel
theorem dX6_fits_38 : decode cX6_fits 38 = .ok (.if_icmp .ge 41, 3) := by decide +kernel
theorem dX6_fits_41 : decode cX6_fits 41 = .ok (.aload_n 0, 1) := by decide +kernel
theorem dX6_fits_42 : decode cX6_fits 42 = .ok (.iload_n 2, 1) := by decide +kernel
theorem dX6_fits_43 : decode cX6_fits 43 = .ok (.iconst 2, 1) := by decide +kernel
theorem dX6_fits_44 : decode cX6_fits 44 = .ok (.iconst 1, 1) := by decide +kernel
theorem dX6_fits_45 : decode cX6_fits 45 = .ok (.iload 5, 2) := by decide +kernel
theorem dX6_fits_47 : decode cX6_fits 47 = .ok (.ishl, 1) := by decide +kernel
theorem dX6_fits_48 : decode cX6_fits 48 = .ok (.invokevirtual 90, 3) := by decide +kernel
theorem dX6_fits_51 : decode cX6_fits 51 = .ok (.iload 4, 2) := by decide +kernel
theorem dX6_fits_53 : decode cX6_fits 53 = .ok (.aload_n 0, 1) := by decide +kernel
theorem dX6_fits_54 : decode cX6_fits 54 = .ok (.iload_n 1, 1) := by decide +kernel
theorem dX6_fits_55 : decode cX6_fits 55 = .ok (.iload_n 2, 1) := by decide +kernel
theorem dX6_fits_56 : decode cX6_fits 56 = .ok (.invokevirtual 196, 3) := by decide +kernel
theorem dX6_fits_59 : decode cX6_fits 59 = .ok (.ifCond .eq 10, 3) := by decide +kernel
theorem dX6_fits_62 : decode cX6_fits 62 = .ok (.iconst 1, 1) := by decide +kernel
theorem dX6_fits_63 : decode cX6_fits 63 = .ok (.iload 5, 2) := by decide +kernel
theorem dX6_fits_65 : decode cX6_fits 65 = .ok (.ishl, 1) := by decide +kernel
theorem dX6_fits_66 : decode cX6_fits 66 = .ok (.goto 4, 3) := by decide +kernel
theorem dX6_fits_69 : decode cX6_fits 69 = .ok (.iconst 0, 1) := by decide +kernel
theorem dX6_fits_70 : decode cX6_fits 70 = .ok (.ior, 1) := by decide +kernel
theorem dX6_fits_71 : decode cX6_fits 71 = .ok (.istore 4, 2) := by decide +kernel
theorem dX6_fits_73 : decode cX6_fits 73 = .ok (.iinc 5 1, 3) := by decide +kernel
theorem dX6_fits_76 : decode cX6_fits 76 = .ok (.goto (-42), 3) := by decide +kernel
theorem dX6_fits_79 : decode cX6_fits 79 = .ok (.iload 4, 2) := by decide +kernel
theorem dX6_fits_81 : decode cX6_fits 81 = .ok (.ireturn, 1) := by decide +kernel
set_option maxRecDepth 20000 in
theorem ggX6_kinds_X6_whyNot : GoodIn wsX6_kinds wsX6_whyNot := goodIn_r _ [7, 8, 9, 10, 6, 11, 12, 13, 14, 15, 16, 17, 18, 19, 20, 21, 22, 23, 1, 101, 102, 103, 104, 105, 106, 107, 108, 109, 110, 111, 112, 113, 114, 115, 116, 117] (by decide +kernel) (by decide +kernel)
set_option maxRecDepth 20000 in
theorem gX6_kinds_X6_whyNot : GoodIn wsX6_kinds (wsV RX6 193 RX6 yX6_whyNot wsX6_whyNot) := goodIn_app (goodIn_of _ (by decide +kernel)) ggX6_kinds_X6_whyNot
set_option maxRecDepth 20000 in
theorem ggX6_kinds_X6_finds : GoodIn wsX6_kinds wsX6_finds := goodIn_r _ [27, 28, 29, 101, 102, 103, 104, 105, 106, 107, 108, 109, 110, 111, 112, 113, 114, 115, 116, 117] (by decide +kernel) (by decide +kernel)
set_option maxRecDepth 20000 in
theorem gX6_kinds_X6_finds : GoodIn wsX6_kinds (wsV RX6 121 RX6 yX6_finds wsX6_finds) := goodIn_app (goodIn_of _ (by decide +kernel)) ggX6_kinds_X6_finds
set_option maxRecDepth 20000 in
theorem ggX6_kinds_X6_copies : GoodIn wsX6_kinds wsX6_copies := goodIn_r _ [32] (by decide +kernel) (by decide +kernel)
set_option maxRecDepth 20000 in
theorem gX6_kinds_X6_copies : GoodIn wsX6_kinds (va_wsS RX6 158 yX6_copies wsX6_copies) := goodIn_app (goodIn_of _ (by decide +kernel)) ggX6_kinds_X6_copies
set_option maxRecDepth 20000 in
theorem ggX6_kinds_X6_sets : GoodIn wsX6_kinds wsX6_sets := goodIn_r _ [36, 1, 101, 102, 103, 104, 105, 106, 107, 108, 109, 110, 111, 112, 113, 114, 115, 116, 117] (by decide +kernel) (by decide +kernel)
set_option maxRecDepth 20000 in
theorem gX6_kinds_X6_sets : GoodIn wsX6_kinds (wsV RX6 90 RX6 yX6_sets wsX6_sets) := goodIn_app (goodIn_of _ (by decide +kernel)) ggX6_kinds_X6_sets
set_option maxRecDepth 20000 in
theorem ggX6_kinds_X6_isTold : GoodIn wsX6_kinds wsX6_isTold := goodIn_r _ [40, 41, 42, 2, 1, 43, 44, 45, 6, 46, 47, 48, 49, 50, 51, 52, 53, 54, 55, 56, 57, 58, 59, 60, 61, 62, 63, 64, 65, 66, 67, 68, 69, 70, 71, 72, 73, 74, 75, 76, 77, 78, 79, 80, 81, 82, 83, 84, 85, 86, 87, 88, 33, 34, 35, 36, 89, 90, 91, 92, 93, 94, 95, 96, 97, 98, 99, 100, 30, 31, 32, 101, 102, 103, 104, 105, 106, 107, 108, 109, 110, 111, 112, 113, 114, 115, 116, 117] (by decide +kernel) (by decide +kernel)
set_option maxRecDepth 20000 in
theorem gX6_kinds_X6_isTold : GoodIn wsX6_kinds (wsV RX6 196 RX6 yX6_isTold wsX6_isTold) := goodIn_app (goodIn_of _ (by decide +kernel)) ggX6_kinds_X6_isTold
theorem dX6_kinds_0 : decode cX6_kinds 0 = .ok (.aload_n 0, 1) := by decide +kernel
theorem dX6_kinds_1 : decode cX6_kinds 1 = .ok (.iload_n 1, 1) := by decide +kernel
theorem dX6_kinds_2 : decode cX6_kinds 2 = .ok (.iload_n 2, 1) := by decide +kernel
theorem dX6_kinds_3 : decode cX6_kinds 3 = .ok (.invokevirtual 193, 3) := by decide +kernel
theorem dX6_kinds_6 : decode cX6_kinds 6 = .ok (.istore_n 3, 1) := by decide +kernel
theorem dX6_kinds_7 : decode cX6_kinds 7 = .ok (.iload_n 3, 1) := by decide +kernel
theorem dX6_kinds_8 : decode cX6_kinds 8 = .ok (.ifCond .lt 9, 3) := by decide +kernel
theorem dX6_kinds_11 : decode cX6_kinds 11 = .ok (.aload_n 0, 1) := by decide +kernel
theorem dX6_kinds_12 : decode cX6_kinds 12 = .ok (.iload_n 3, 1) := by decide +kernel
theorem dX6_kinds_13 : decode cX6_kinds 13 = .ok (.invokevirtual 121, 3) := by decide +kernel
theorem dX6_kinds_16 : decode cX6_kinds 16 = .ok (.ireturn, 1) := by decide +kernel
theorem dX6_kinds_17 : decode cX6_kinds 17 = .ok (.aload_n 0, 1) := by decide +kernel
theorem dX6_kinds_18 : decode cX6_kinds 18 = .ok (.getfield 7, 3) := by decide +kernel
theorem dX6_kinds_21 : decode cX6_kinds 21 = .ok (.aload_n 0, 1) := by decide +kernel
theorem dX6_kinds_22 : decode cX6_kinds 22 = .ok (.getfield 16, 3) := by decide +kernel
theorem dX6_kinds_25 : decode cX6_kinds 25 = .ok (.invokestatic 158, 3) := by decide +kernel
theorem dX6_kinds_28 : decode cX6_kinds 28 = .ok (.iconst 0, 1) := by decide +kernel
theorem dX6_kinds_29 : decode cX6_kinds 29 = .ok (.istore 4, 2) := by decide +kernel
theorem dX6_kinds_31 : decode cX6_kinds 31 = .ok (.iconst 0, 1) := by decide +kernel
theorem dX6_kinds_32 : decode cX6_kinds 32 = .ok (.istore 5, 2) := by decide +kernel
theorem dX6_kinds_34 : decode cX6_kinds 34 = .ok (.iload 5, 2) := by decide +kernel
theorem dX6_kinds_36 : decode cX6_kinds 36 = .ok (.bipush 7, 2) := by decide +kernel
theorem dX6_kinds_38 : decode cX6_kinds 38 = .ok (.if_icmp .ge 39, 3) := by decide +kernel
theorem dX6_kinds_41 : decode cX6_kinds 41 = .ok (.aload_n 0, 1) := by decide +kernel
theorem dX6_kinds_42 : decode cX6_kinds 42 = .ok (.iload_n 2, 1) := by decide +kernel
theorem dX6_kinds_43 : decode cX6_kinds 43 = .ok (.iconst 0, 1) := by decide +kernel
theorem dX6_kinds_44 : decode cX6_kinds 44 = .ok (.iload 5, 2) := by decide +kernel
theorem dX6_kinds_46 : decode cX6_kinds 46 = .ok (.invokevirtual 90, 3) := by decide +kernel
theorem dX6_kinds_49 : decode cX6_kinds 49 = .ok (.iload 4, 2) := by decide +kernel
theorem dX6_kinds_51 : decode cX6_kinds 51 = .ok (.aload_n 0, 1) := by decide +kernel
theorem dX6_kinds_52 : decode cX6_kinds 52 = .ok (.iload_n 1, 1) := by decide +kernel
theorem dX6_kinds_53 : decode cX6_kinds 53 = .ok (.iload_n 2, 1) := by decide +kernel
theorem dX6_kinds_54 : decode cX6_kinds 54 = .ok (.invokevirtual 196, 3) := by decide +kernel
theorem dX6_kinds_57 : decode cX6_kinds 57 = .ok (.ifCond .eq 10, 3) := by decide +kernel
theorem dX6_kinds_60 : decode cX6_kinds 60 = .ok (.iconst 1, 1) := by decide +kernel
theorem dX6_kinds_61 : decode cX6_kinds 61 = .ok (.iload 5, 2) := by decide +kernel
theorem dX6_kinds_63 : decode cX6_kinds 63 = .ok (.ishl, 1) := by decide +kernel
theorem dX6_kinds_64 : decode cX6_kinds 64 = .ok (.goto 4, 3) := by decide +kernel
theorem dX6_kinds_67 : decode cX6_kinds 67 = .ok (.iconst 0, 1) := by decide +kernel
theorem dX6_kinds_68 : decode cX6_kinds 68 = .ok (.ior, 1) := by decide +kernel
theorem dX6_kinds_69 : decode cX6_kinds 69 = .ok (.istore 4, 2) := by decide +kernel
theorem dX6_kinds_71 : decode cX6_kinds 71 = .ok (.iinc 5 1, 3) := by decide +kernel
theorem dX6_kinds_74 : decode cX6_kinds 74 = .ok (.goto (-40), 3) := by decide +kernel
theorem dX6_kinds_77 : decode cX6_kinds 77 = .ok (.iload 4, 2) := by decide +kernel
theorem dX6_kinds_79 : decode cX6_kinds 79 = .ok (.ireturn, 1) := by decide +kernel
theorem dX6_draw_0 : decode cX6_draw 0 = .ok (.aload_n 0, 1) := by decide +kernel
theorem dX6_draw_1 : decode cX6_draw 1 = .ok (.getfield 7, 3) := by decide +kernel
theorem dX6_draw_4 : decode cX6_draw 4 = .ok (.iconst 2, 1) := by decide +kernel
theorem dX6_draw_5 : decode cX6_draw 5 = .ok (.aload_n 0, 1) := by decide +kernel
theorem dX6_draw_6 : decode cX6_draw 6 = .ok (.getfield 7, 3) := by decide +kernel
theorem dX6_draw_9 : decode cX6_draw 9 = .ok (.iconst 2, 1) := by decide +kernel
theorem dX6_draw_10 : decode cX6_draw 10 = .ok (.iaload, 1) := by decide +kernel
theorem dX6_draw_11 : decode cX6_draw 11 = .ok (.ldc 199, 2) := by decide +kernel
theorem dX6_draw_13 : decode cX6_draw 13 = .ok (.imul, 1) := by decide +kernel
theorem dX6_draw_14 : decode cX6_draw 14 = .ok (.sipush 12345, 3) := by decide +kernel
theorem dX6_draw_17 : decode cX6_draw 17 = .ok (.iadd, 1) := by decide +kernel
theorem dX6_draw_18 : decode cX6_draw 18 = .ok (.iastore, 1) := by decide +kernel
theorem dX6_draw_19 : decode cX6_draw 19 = .ok (.aload_n 0, 1) := by decide +kernel
theorem dX6_draw_20 : decode cX6_draw 20 = .ok (.getfield 7, 3) := by decide +kernel
theorem dX6_draw_23 : decode cX6_draw 23 = .ok (.iconst 2, 1) := by decide +kernel
theorem dX6_draw_24 : decode cX6_draw 24 = .ok (.iaload, 1) := by decide +kernel
theorem dX6_draw_25 : decode cX6_draw 25 = .ok (.bipush 8, 2) := by decide +kernel
theorem dX6_draw_27 : decode cX6_draw 27 = .ok (.iushr, 1) := by decide +kernel
theorem dX6_draw_28 : decode cX6_draw 28 = .ok (.ireturn, 1) := by decide +kernel
set_option maxRecDepth 20000 in
theorem ggX6_hawk_X6_in : GoodIn wsX6_hawk wsX6_in := goodIn_r _ [7] (by decide +kernel) (by decide +kernel)
set_option maxRecDepth 20000 in
theorem gX6_hawk_X6_in : GoodIn wsX6_hawk (va_wsS RX6 42 yX6_in wsX6_in) := goodIn_app (goodIn_of _ (by decide +kernel)) ggX6_hawk_X6_in
set_option maxRecDepth 20000 in
theorem ggX6_hawk_X6_finds : GoodIn wsX6_hawk wsX6_finds := goodIn_r _ [11, 12, 13, 80, 81, 82, 83, 84, 85, 86, 87, 88, 89, 90, 91, 92, 93, 94, 95, 96] (by decide +kernel) (by decide +kernel)
set_option maxRecDepth 20000 in
theorem gX6_hawk_X6_finds : GoodIn wsX6_hawk (wsV RX6 121 RX6 yX6_finds wsX6_finds) := goodIn_app (goodIn_of _ (by decide +kernel)) ggX6_hawk_X6_finds
set_option maxRecDepth 20000 in
theorem ggX6_hawk_X6_draw : GoodIn wsX6_hawk wsX6_draw := goodIn_r _ [17, 2, 18, 80, 81, 82, 83, 84, 85, 86, 87, 88, 89, 90, 91, 92, 93, 94, 95, 96] (by decide +kernel) (by decide +kernel)
set_option maxRecDepth 20000 in
theorem gX6_hawk_X6_draw : GoodIn wsX6_hawk (wsV RX6 200 RX6 yX6_draw wsX6_draw) := goodIn_app (goodIn_of _ (by decide +kernel)) ggX6_hawk_X6_draw
set_option maxRecDepth 20000 in
theorem ggX6_hawk_X6_dayGoes : GoodIn wsX6_hawk wsX6_dayGoes := goodIn_r _ [22, 2, 3, 23, 24, 25, 6, 26, 27, 28, 29, 30, 31, 32, 33, 34, 35, 36, 37, 38, 39, 40, 41, 42, 43, 44, 45, 46, 47, 48, 49, 50, 51, 52, 53, 54, 55, 56, 57, 58, 59, 60, 61, 62, 63, 64, 65, 66, 67, 68, 69, 70, 71, 72, 73, 74, 75, 76, 77, 78, 79, 80, 81, 82, 83, 84, 85, 86, 87, 88, 89, 90, 91, 92, 93, 94, 95, 96] (by decide +kernel) (by decide +kernel)
set_option maxRecDepth 20000 in
theorem gX6_hawk_X6_dayGoes : GoodIn wsX6_hawk (wsV RX6 105 RX6 yX6_dayGoes wsX6_dayGoes) := goodIn_app (goodIn_of _ (by decide +kernel)) ggX6_hawk_X6_dayGoes
theorem dX6_hawk_0 : decode cX6_hawk 0 = .ok (.iload_n 1, 1) := by decide +kernel
theorem dX6_hawk_1 : decode cX6_hawk 1 = .ok (.i2l, 1) := by decide +kernel
theorem dX6_hawk_2 : decode cX6_hawk 2 = .ok (.lconst 1, 1) := by decide +kernel
theorem dX6_hawk_3 : decode cX6_hawk 3 = .ok (.ldc2_w 185, 3) := by decide +kernel
theorem dX6_hawk_6 : decode cX6_hawk 6 = .ok (.invokestatic 42, 3) := by decide +kernel
theorem dX6_hawk_9 : decode cX6_hawk 9 = .ok (.ifCond .ne 9, 3) := by decide +kernel
theorem dX6_hawk_12 : decode cX6_hawk 12 = .ok (.aload_n 0, 1) := by decide +kernel
theorem dX6_hawk_13 : decode cX6_hawk 13 = .ok (.iconst 0, 1) := by decide +kernel
theorem dX6_hawk_14 : decode cX6_hawk 14 = .ok (.invokevirtual 121, 3) := by decide +kernel
theorem dX6_hawk_17 : decode cX6_hawk 17 = .ok (.ireturn, 1) := by decide +kernel
theorem dX6_hawk_18 : decode cX6_hawk 18 = .ok (.aload_n 0, 1) := by decide +kernel
theorem dX6_hawk_19 : decode cX6_hawk 19 = .ok (.getfield 7, 3) := by decide +kernel
theorem dX6_hawk_22 : decode cX6_hawk 22 = .ok (.iconst 1, 1) := by decide +kernel
theorem dX6_hawk_23 : decode cX6_hawk 23 = .ok (.iaload, 1) := by decide +kernel
theorem dX6_hawk_24 : decode cX6_hawk 24 = .ok (.iload_n 1, 1) := by decide +kernel
theorem dX6_hawk_25 : decode cX6_hawk 25 = .ok (.iadd, 1) := by decide +kernel
theorem dX6_hawk_26 : decode cX6_hawk 26 = .ok (.ldc 104, 2) := by decide +kernel
theorem dX6_hawk_28 : decode cX6_hawk 28 = .ok (.if_icmp .le 9, 3) := by decide +kernel
theorem dX6_hawk_31 : decode cX6_hawk 31 = .ok (.aload_n 0, 1) := by decide +kernel
theorem dX6_hawk_32 : decode cX6_hawk 32 = .ok (.iconst 4, 1) := by decide +kernel
theorem dX6_hawk_33 : decode cX6_hawk 33 = .ok (.invokevirtual 121, 3) := by decide +kernel
theorem dX6_hawk_36 : decode cX6_hawk 36 = .ok (.ireturn, 1) := by decide +kernel
theorem dX6_hawk_37 : decode cX6_hawk 37 = .ok (.iconst 0, 1) := by decide +kernel
theorem dX6_hawk_38 : decode cX6_hawk 38 = .ok (.istore_n 2, 1) := by decide +kernel
theorem dX6_hawk_39 : decode cX6_hawk 39 = .ok (.iload_n 2, 1) := by decide +kernel
theorem dX6_hawk_40 : decode cX6_hawk 40 = .ok (.iload_n 1, 1) := by decide +kernel
theorem dX6_hawk_41 : decode cX6_hawk 41 = .ok (.if_icmp .ge 50, 3) := by decide +kernel
theorem dX6_hawk_44 : decode cX6_hawk 44 = .ok (.aload_n 0, 1) := by decide +kernel
theorem dX6_hawk_45 : decode cX6_hawk 45 = .ok (.getfield 7, 3) := by decide +kernel
theorem dX6_hawk_48 : decode cX6_hawk 48 = .ok (.bipush 7, 2) := by decide +kernel
theorem dX6_hawk_50 : decode cX6_hawk 50 = .ok (.aload_n 0, 1) := by decide +kernel
theorem dX6_hawk_51 : decode cX6_hawk 51 = .ok (.getfield 7, 3) := by decide +kernel
theorem dX6_hawk_54 : decode cX6_hawk 54 = .ok (.iconst 1, 1) := by decide +kernel
theorem dX6_hawk_55 : decode cX6_hawk 55 = .ok (.iaload, 1) := by decide +kernel
theorem dX6_hawk_56 : decode cX6_hawk 56 = .ok (.bipush 6, 2) := by decide +kernel
theorem dX6_hawk_58 : decode cX6_hawk 58 = .ok (.irem, 1) := by decide +kernel
theorem dX6_hawk_59 : decode cX6_hawk 59 = .ok (.iadd, 1) := by decide +kernel
theorem dX6_hawk_60 : decode cX6_hawk 60 = .ok (.aload_n 0, 1) := by decide +kernel
theorem dX6_hawk_61 : decode cX6_hawk 61 = .ok (.invokevirtual 200, 3) := by decide +kernel
theorem dX6_hawk_64 : decode cX6_hawk 64 = .ok (.bipush 12, 2) := by decide +kernel
theorem dX6_hawk_66 : decode cX6_hawk 66 = .ok (.irem, 1) := by decide +kernel
theorem dX6_hawk_67 : decode cX6_hawk 67 = .ok (.iastore, 1) := by decide +kernel
theorem dX6_hawk_68 : decode cX6_hawk 68 = .ok (.aload_n 0, 1) := by decide +kernel
theorem dX6_hawk_69 : decode cX6_hawk 69 = .ok (.getfield 7, 3) := by decide +kernel
theorem dX6_hawk_72 : decode cX6_hawk 72 = .ok (.iconst 5, 1) := by decide +kernel
theorem dX6_hawk_73 : decode cX6_hawk 73 = .ok (.aload_n 0, 1) := by decide +kernel
theorem dX6_hawk_74 : decode cX6_hawk 74 = .ok (.invokevirtual 200, 3) := by decide +kernel
theorem dX6_hawk_77 : decode cX6_hawk 77 = .ok (.bipush 10, 2) := by decide +kernel
theorem dX6_hawk_79 : decode cX6_hawk 79 = .ok (.irem, 1) := by decide +kernel
theorem dX6_hawk_80 : decode cX6_hawk 80 = .ok (.iastore, 1) := by decide +kernel
theorem dX6_hawk_81 : decode cX6_hawk 81 = .ok (.aload_n 0, 1) := by decide +kernel
theorem dX6_hawk_82 : decode cX6_hawk 82 = .ok (.invokevirtual 105, 3) := by decide +kernel
theorem dX6_hawk_85 : decode cX6_hawk 85 = .ok (.iinc 2 1, 3) := by decide +kernel
theorem dX6_hawk_88 : decode cX6_hawk 88 = .ok (.goto (-49), 3) := by decide +kernel
theorem dX6_hawk_91 : decode cX6_hawk 91 = .ok (.aload_n 0, 1) := by decide +kernel
theorem dX6_hawk_92 : decode cX6_hawk 92 = .ok (.getfield 7, 3) := by decide +kernel
theorem dX6_hawk_95 : decode cX6_hawk 95 = .ok (.bipush 6, 2) := by decide +kernel
theorem dX6_hawk_97 : decode cX6_hawk 97 = .ok (.iaload, 1) := by decide +kernel
theorem dX6_hawk_98 : decode cX6_hawk 98 = .ok (.ireturn, 1) := by decide +kernel
theorem dX6_common_0 : decode cX6_common 0 = .ok (.iload_n 0, 1) := by decide +kernel
theorem dX6_common_1 : decode cX6_common 1 = .ok (.istore_n 2, 1) := by decide +kernel
theorem dX6_common_2 : decode cX6_common 2 = .ok (.iload_n 1, 1) := by decide +kernel
theorem dX6_common_3 : decode cX6_common 3 = .ok (.istore_n 3, 1) := by decide +kernel
theorem dX6_common_4 : decode cX6_common 4 = .ok (.iload_n 3, 1) := by decide +kernel
theorem dX6_common_5 : decode cX6_common 5 = .ok (.ifCond .eq 16, 3) := by decide +kernel
theorem dX6_common_8 : decode cX6_common 8 = .ok (.iload_n 2, 1) := by decide +kernel
theorem dX6_common_9 : decode cX6_common 9 = .ok (.iload_n 3, 1) := by decide +kernel
theorem dX6_common_10 : decode cX6_common 10 = .ok (.irem, 1) := by decide +kernel
theorem dX6_common_11 : decode cX6_common 11 = .ok (.istore 4, 2) := by decide +kernel
theorem dX6_common_13 : decode cX6_common 13 = .ok (.iload_n 3, 1) := by decide +kernel
theorem dX6_common_14 : decode cX6_common 14 = .ok (.istore_n 2, 1) := by decide +kernel
theorem dX6_common_15 : decode cX6_common 15 = .ok (.iload 4, 2) := by decide +kernel
theorem dX6_common_17 : decode cX6_common 17 = .ok (.istore_n 3, 1) := by decide +kernel
theorem dX6_common_18 : decode cX6_common 18 = .ok (.goto (-14), 3) := by decide +kernel
theorem dX6_common_21 : decode cX6_common 21 = .ok (.iload_n 2, 1) := by decide +kernel
theorem dX6_common_22 : decode cX6_common 22 = .ok (.ireturn, 1) := by decide +kernel
set_option maxRecDepth 20000 in
theorem ggX6_odds_X6_isResident : GoodIn wsX6_odds wsX6_isResident := goodIn_r _ [6, 7, 8, 9, 5, 10, 27, 28, 29, 30, 31, 32, 33, 34, 35, 36, 37, 38, 39, 40, 41, 42, 43] (by decide +kernel) (by decide +kernel)
set_option maxRecDepth 20000 in
theorem gX6_odds_X6_isResident : GoodIn wsX6_odds (wsV RX6 134 RX6 yX6_isResident wsX6_isResident) := goodIn_app (goodIn_of _ (by decide +kernel)) ggX6_odds_X6_isResident
set_option maxRecDepth 20000 in
theorem ggX6_odds_X6_in : GoodIn wsX6_odds wsX6_in := goodIn_r _ [10] (by decide +kernel) (by decide +kernel)
set_option maxRecDepth 20000 in
theorem gX6_odds_X6_in : GoodIn wsX6_odds (va_wsS RX6 42 yX6_in wsX6_in) := goodIn_app (goodIn_of _ (by decide +kernel)) ggX6_odds_X6_in
set_option maxRecDepth 20000 in
theorem ggX6_odds_X6_finds : GoodIn wsX6_odds wsX6_finds := goodIn_r _ [14, 15, 16, 27, 28, 29, 30, 31, 32, 33, 34, 35, 36, 37, 38, 39, 40, 41, 42, 43] (by decide +kernel) (by decide +kernel)
set_option maxRecDepth 20000 in
theorem gX6_odds_X6_finds : GoodIn wsX6_odds (wsV RX6 121 RX6 yX6_finds wsX6_finds) := goodIn_app (goodIn_of _ (by decide +kernel)) ggX6_odds_X6_finds
set_option maxRecDepth 20000 in
theorem ggX6_odds_X6_its : GoodIn wsX6_odds wsX6_its := goodIn_r _ [20, 7, 27, 28, 29, 30, 31, 32, 33, 34, 35, 36, 37, 38, 39, 40, 41, 42, 43] (by decide +kernel) (by decide +kernel)
set_option maxRecDepth 20000 in
theorem gX6_odds_X6_its : GoodIn wsX6_odds (wsV RX6 52 RX6 yX6_its wsX6_its) := goodIn_app (goodIn_of _ (by decide +kernel)) ggX6_odds_X6_its
set_option maxRecDepth 20000 in
theorem ggX6_odds_X6_ones : GoodIn wsX6_odds wsX6_ones := goodIn_r _ [23] (by decide +kernel) (by decide +kernel)
set_option maxRecDepth 20000 in
theorem gX6_odds_X6_ones : GoodIn wsX6_odds (va_wsS RX6 60 yX6_ones wsX6_ones) := goodIn_app (goodIn_of _ (by decide +kernel)) ggX6_odds_X6_ones
set_option maxRecDepth 20000 in
theorem ggX6_odds_X6_common : GoodIn wsX6_odds wsX6_common := goodIn_r _ [26] (by decide +kernel) (by decide +kernel)
set_option maxRecDepth 20000 in
theorem gX6_odds_X6_common : GoodIn wsX6_odds (va_wsS RX6 205 yX6_common wsX6_common) := goodIn_app (goodIn_of _ (by decide +kernel)) ggX6_odds_X6_common
theorem dX6_odds_0 : decode cX6_odds 0 = .ok (.aload_n 0, 1) := by decide +kernel
theorem dX6_odds_1 : decode cX6_odds 1 = .ok (.iload_n 1, 1) := by decide +kernel
theorem dX6_odds_2 : decode cX6_odds 2 = .ok (.invokevirtual 134, 3) := by decide +kernel
theorem dX6_odds_5 : decode cX6_odds 5 = .ok (.ifCond .eq 25, 3) := by decide +kernel
theorem dX6_odds_8 : decode cX6_odds 8 = .ok (.iload_n 2, 1) := by decide +kernel
theorem dX6_odds_9 : decode cX6_odds 9 = .ok (.i2l, 1) := by decide +kernel
theorem dX6_odds_10 : decode cX6_odds 10 = .ok (.lconst 0, 1) := by decide +kernel
theorem dX6_odds_11 : decode cX6_odds 11 = .ok (.ldc2_w 203, 3) := by decide +kernel
theorem dX6_odds_14 : decode cX6_odds 14 = .ok (.invokestatic 42, 3) := by decide +kernel
theorem dX6_odds_17 : decode cX6_odds 17 = .ok (.ifCond .eq 13, 3) := by decide +kernel
theorem dX6_odds_20 : decode cX6_odds 20 = .ok (.iload_n 3, 1) := by decide +kernel
theorem dX6_odds_21 : decode cX6_odds 21 = .ok (.i2l, 1) := by decide +kernel
theorem dX6_odds_22 : decode cX6_odds 22 = .ok (.lconst 0, 1) := by decide +kernel
theorem dX6_odds_23 : decode cX6_odds 23 = .ok (.lconst 1, 1) := by decide +kernel
theorem dX6_odds_24 : decode cX6_odds 24 = .ok (.invokestatic 42, 3) := by decide +kernel
theorem dX6_odds_27 : decode cX6_odds 27 = .ok (.ifCond .ne 10, 3) := by decide +kernel
theorem dX6_odds_30 : decode cX6_odds 30 = .ok (.aload_n 0, 1) := by decide +kernel
theorem dX6_odds_31 : decode cX6_odds 31 = .ok (.iconst 0, 1) := by decide +kernel
theorem dX6_odds_32 : decode cX6_odds 32 = .ok (.invokevirtual 121, 3) := by decide +kernel
theorem dX6_odds_35 : decode cX6_odds 35 = .ok (.i2l, 1) := by decide +kernel
theorem dX6_odds_36 : decode cX6_odds 36 = .ok (.lreturn, 1) := by decide +kernel
theorem dX6_odds_37 : decode cX6_odds 37 = .ok (.aload_n 0, 1) := by decide +kernel
theorem dX6_odds_38 : decode cX6_odds 38 = .ok (.iload_n 1, 1) := by decide +kernel
theorem dX6_odds_39 : decode cX6_odds 39 = .ok (.iconst 2, 1) := by decide +kernel
theorem dX6_odds_40 : decode cX6_odds 40 = .ok (.invokevirtual 52, 3) := by decide +kernel
theorem dX6_odds_43 : decode cX6_odds 43 = .ok (.invokestatic 60, 3) := by decide +kernel
theorem dX6_odds_46 : decode cX6_odds 46 = .ok (.istore 4, 2) := by decide +kernel
theorem dX6_odds_48 : decode cX6_odds 48 = .ok (.iload 4, 2) := by decide +kernel
theorem dX6_odds_50 : decode cX6_odds 50 = .ok (.bipush 12, 2) := by decide +kernel
theorem dX6_odds_52 : decode cX6_odds 52 = .ok (.invokestatic 205, 3) := by decide +kernel
theorem dX6_odds_55 : decode cX6_odds 55 = .ok (.istore 5, 2) := by decide +kernel
theorem dX6_odds_57 : decode cX6_odds 57 = .ok (.lconst 1, 1) := by decide +kernel
theorem dX6_odds_58 : decode cX6_odds 58 = .ok (.lstore 6, 2) := by decide +kernel
theorem dX6_odds_60 : decode cX6_odds 60 = .ok (.iconst 0, 1) := by decide +kernel
theorem dX6_odds_61 : decode cX6_odds 61 = .ok (.istore 8, 2) := by decide +kernel
theorem dX6_odds_63 : decode cX6_odds 63 = .ok (.iload 8, 2) := by decide +kernel
theorem dX6_odds_65 : decode cX6_odds 65 = .ok (.iload_n 2, 1) := by decide +kernel
theorem dX6_odds_66 : decode cX6_odds 66 = .ok (.if_icmp .ge 33, 3) := by decide +kernel
theorem dX6_odds_69 : decode cX6_odds 69 = .ok (.lload 6, 2) := by decide +kernel
theorem dX6_odds_71 : decode cX6_odds 71 = .ok (.iload_n 3, 1) := by decide +kernel
theorem dX6_odds_72 : decode cX6_odds 72 = .ok (.ifCond .ne 12, 3) := by decide +kernel
theorem dX6_odds_75 : decode cX6_odds 75 = .ok (.iload 4, 2) := by decide +kernel
theorem dX6_odds_77 : decode cX6_odds 77 = .ok (.iload 5, 2) := by decide +kernel
theorem dX6_odds_79 : decode cX6_odds 79 = .ok (.idiv, 1) := by decide +kernel
theorem dX6_odds_80 : decode cX6_odds 80 = .ok (.i2l, 1) := by decide +kernel
theorem dX6_odds_81 : decode cX6_odds 81 = .ok (.goto 9, 3) := by decide +kernel
theorem dX6_odds_84 : decode cX6_odds 84 = .ok (.bipush 12, 2) := by decide +kernel
theorem dX6_odds_86 : decode cX6_odds 86 = .ok (.iload 5, 2) := by decide +kernel
theorem dX6_odds_88 : decode cX6_odds 88 = .ok (.idiv, 1) := by decide +kernel
theorem dX6_odds_89 : decode cX6_odds 89 = .ok (.i2l, 1) := by decide +kernel
theorem dX6_odds_90 : decode cX6_odds 90 = .ok (.lmul, 1) := by decide +kernel
theorem dX6_odds_91 : decode cX6_odds 91 = .ok (.lstore 6, 2) := by decide +kernel
theorem dX6_odds_93 : decode cX6_odds 93 = .ok (.iinc 8 1, 3) := by decide +kernel
theorem dX6_odds_96 : decode cX6_odds 96 = .ok (.goto (-33), 3) := by decide +kernel
theorem dX6_odds_99 : decode cX6_odds 99 = .ok (.lload 6, 2) := by decide +kernel
theorem dX6_odds_101 : decode cX6_odds 101 = .ok (.lreturn, 1) := by decide +kernel
set_option maxRecDepth 20000 in
theorem ggX6_seed_X6_becomes : GoodIn wsX6_seed wsX6_becomes := goodIn_r _ [5, 6, 7, 8, 9, 10, 11, 12, 13, 14, 15, 16, 17, 18, 19, 20, 21, 22, 23] (by decide +kernel) (by decide +kernel)
set_option maxRecDepth 20000 in
theorem gX6_seed_X6_becomes : GoodIn wsX6_seed (wsV RX6 118 RX6 yX6_becomes wsX6_becomes) := goodIn_app (goodIn_of _ (by decide +kernel)) ggX6_seed_X6_becomes
theorem dX6_seed_0 : decode cX6_seed 0 = .ok (.aload_n 0, 1) := by decide +kernel
theorem dX6_seed_1 : decode cX6_seed 1 = .ok (.iconst 2, 1) := by decide +kernel
theorem dX6_seed_2 : decode cX6_seed 2 = .ok (.iload_n 1, 1) := by decide +kernel
theorem dX6_seed_3 : decode cX6_seed 3 = .ok (.invokevirtual 118, 3) := by decide +kernel
theorem dX6_seed_6 : decode cX6_seed 6 = .ok (.ireturn, 1) := by decide +kernel
set_option maxRecDepth 20000 in
theorem ggX6_feed_X6_in : GoodIn wsX6_feed wsX6_in := goodIn_r _ [7] (by decide +kernel) (by decide +kernel)
set_option maxRecDepth 20000 in
theorem gX6_feed_X6_in : GoodIn wsX6_feed (va_wsS RX6 42 yX6_in wsX6_in) := goodIn_app (goodIn_of _ (by decide +kernel)) ggX6_feed_X6_in
set_option maxRecDepth 20000 in
theorem ggX6_feed_X6_finds : GoodIn wsX6_feed wsX6_finds := goodIn_r _ [11, 12, 13, 14, 15, 16, 17, 18, 19, 20, 21, 22, 23, 24, 25, 26, 27, 28, 29, 30] (by decide +kernel) (by decide +kernel)
set_option maxRecDepth 20000 in
theorem gX6_feed_X6_finds : GoodIn wsX6_feed (wsV RX6 121 RX6 yX6_finds wsX6_finds) := goodIn_app (goodIn_of _ (by decide +kernel)) ggX6_feed_X6_finds
theorem dX6_feed_0 : decode cX6_feed 0 = .ok (.iload_n 2, 1) := by decide +kernel
theorem dX6_feed_1 : decode cX6_feed 1 = .ok (.i2l, 1) := by decide +kernel
theorem dX6_feed_2 : decode cX6_feed 2 = .ok (.lconst 1, 1) := by decide +kernel
theorem dX6_feed_3 : decode cX6_feed 3 = .ok (.ldc2_w 162, 3) := by decide +kernel
theorem dX6_feed_6 : decode cX6_feed 6 = .ok (.invokestatic 42, 3) := by decide +kernel
theorem dX6_feed_9 : decode cX6_feed 9 = .ok (.ifCond .ne 9, 3) := by decide +kernel
theorem dX6_feed_12 : decode cX6_feed 12 = .ok (.aload_n 0, 1) := by decide +kernel
theorem dX6_feed_13 : decode cX6_feed 13 = .ok (.iconst 0, 1) := by decide +kernel
theorem dX6_feed_14 : decode cX6_feed 14 = .ok (.invokevirtual 121, 3) := by decide +kernel
theorem dX6_feed_17 : decode cX6_feed 17 = .ok (.ireturn, 1) := by decide +kernel
theorem dX6_feed_18 : decode cX6_feed 18 = .ok (.aload_n 0, 1) := by decide +kernel
theorem dX6_feed_19 : decode cX6_feed 19 = .ok (.getfield 208, 3) := by decide +kernel
theorem dX6_feed_22 : decode cX6_feed 22 = .ok (.iload_n 2, 1) := by decide +kernel
theorem dX6_feed_23 : decode cX6_feed 23 = .ok (.iadd, 1) := by decide +kernel
theorem dX6_feed_24 : decode cX6_feed 24 = .ok (.bipush 120, 2) := by decide +kernel
theorem dX6_feed_26 : decode cX6_feed 26 = .ok (.if_icmp .le 9, 3) := by decide +kernel
theorem dX6_feed_29 : decode cX6_feed 29 = .ok (.aload_n 0, 1) := by decide +kernel
theorem dX6_feed_30 : decode cX6_feed 30 = .ok (.iconst 1, 1) := by decide +kernel
theorem dX6_feed_31 : decode cX6_feed 31 = .ok (.invokevirtual 121, 3) := by decide +kernel
theorem dX6_feed_34 : decode cX6_feed 34 = .ok (.ireturn, 1) := by decide +kernel
theorem dX6_feed_35 : decode cX6_feed 35 = .ok (.iload_n 2, 1) := by decide +kernel
theorem dX6_feed_36 : decode cX6_feed 36 = .ok (.iconst 1, 1) := by decide +kernel
theorem dX6_feed_37 : decode cX6_feed 37 = .ok (.isub, 1) := by decide +kernel
theorem dX6_feed_38 : decode cX6_feed 38 = .ok (.istore_n 3, 1) := by decide +kernel
theorem dX6_feed_39 : decode cX6_feed 39 = .ok (.iload_n 3, 1) := by decide +kernel
theorem dX6_feed_40 : decode cX6_feed 40 = .ok (.ifCond .lt 35, 3) := by decide +kernel
theorem dX6_feed_43 : decode cX6_feed 43 = .ok (.aload_n 0, 1) := by decide +kernel
theorem dX6_feed_44 : decode cX6_feed 44 = .ok (.getfield 25, 3) := by decide +kernel
theorem dX6_feed_47 : decode cX6_feed 47 = .ok (.aload_n 0, 1) := by decide +kernel
theorem dX6_feed_48 : decode cX6_feed 48 = .ok (.getfield 208, 3) := by decide +kernel
theorem dX6_feed_51 : decode cX6_feed 51 = .ok (.iload_n 1, 1) := by decide +kernel
theorem dX6_feed_52 : decode cX6_feed 52 = .ok (.bipush 8, 2) := by decide +kernel
theorem dX6_feed_54 : decode cX6_feed 54 = .ok (.iload_n 3, 1) := by decide +kernel
theorem dX6_feed_55 : decode cX6_feed 55 = .ok (.imul, 1) := by decide +kernel
theorem dX6_feed_56 : decode cX6_feed 56 = .ok (.ishr, 1) := by decide +kernel
theorem dX6_feed_57 : decode cX6_feed 57 = .ok (.i2b, 1) := by decide +kernel
theorem dX6_feed_58 : decode cX6_feed 58 = .ok (.bastore, 1) := by decide +kernel
theorem dX6_feed_59 : decode cX6_feed 59 = .ok (.aload_n 0, 1) := by decide +kernel
theorem dX6_feed_60 : decode cX6_feed 60 = .ok (.dup, 1) := by decide +kernel
theorem dX6_feed_61 : decode cX6_feed 61 = .ok (.getfield 208, 3) := by decide +kernel
theorem dX6_feed_64 : decode cX6_feed 64 = .ok (.iconst 1, 1) := by decide +kernel
theorem dX6_feed_65 : decode cX6_feed 65 = .ok (.iadd, 1) := by decide +kernel
theorem dX6_feed_66 : decode cX6_feed 66 = .ok (.putfield 208, 3) := by decide +kernel
theorem dX6_feed_69 : decode cX6_feed 69 = .ok (.iinc 3 (-1), 3) := by decide +kernel
theorem dX6_feed_72 : decode cX6_feed 72 = .ok (.goto (-33), 3) := by decide +kernel
theorem dX6_feed_75 : decode cX6_feed 75 = .ok (.aload_n 0, 1) := by decide +kernel
theorem dX6_feed_76 : decode cX6_feed 76 = .ok (.getfield 208, 3) := by decide +kernel
theorem dX6_feed_79 : decode cX6_feed 79 = .ok (.ireturn, 1) := by decide +kernel
theorem dX6_wipe_0 : decode cX6_wipe 0 = .ok (.aload_n 0, 1) := by decide +kernel
theorem dX6_wipe_1 : decode cX6_wipe 1 = .ok (.getfield 208, 3) := by decide +kernel
theorem dX6_wipe_4 : decode cX6_wipe 4 = .ok (.istore_n 1, 1) := by decide +kernel
theorem dX6_wipe_5 : decode cX6_wipe 5 = .ok (.aload_n 0, 1) := by decide +kernel
theorem dX6_wipe_6 : decode cX6_wipe 6 = .ok (.iconst 0, 1) := by decide +kernel
theorem dX6_wipe_7 : decode cX6_wipe 7 = .ok (.putfield 208, 3) := by decide +kernel
theorem dX6_wipe_10 : decode cX6_wipe 10 = .ok (.iload_n 1, 1) := by decide +kernel
theorem dX6_wipe_11 : decode cX6_wipe 11 = .ok (.ireturn, 1) := by decide +kernel
theorem dX6_letter_0 : decode cX6_letter 0 = .ok (.iload_n 0, 1) := by decide +kernel
theorem dX6_letter_1 : decode cX6_letter 1 = .ok (.bipush 97, 2) := by decide +kernel
theorem dX6_letter_3 : decode cX6_letter 3 = .ok (.if_icmp .lt 18, 3) := by decide +kernel
theorem dX6_letter_6 : decode cX6_letter 6 = .ok (.iload_n 0, 1) := by decide +kernel
theorem dX6_letter_7 : decode cX6_letter 7 = .ok (.bipush 122, 2) := by decide +kernel
theorem dX6_letter_9 : decode cX6_letter 9 = .ok (.if_icmp .gt 12, 3) := by decide +kernel
theorem dX6_letter_12 : decode cX6_letter 12 = .ok (.iload_n 0, 1) := by decide +kernel
theorem dX6_letter_13 : decode cX6_letter 13 = .ok (.bipush 97, 2) := by decide +kernel
theorem dX6_letter_15 : decode cX6_letter 15 = .ok (.isub, 1) := by decide +kernel
theorem dX6_letter_16 : decode cX6_letter 16 = .ok (.iconst 1, 1) := by decide +kernel
theorem dX6_letter_17 : decode cX6_letter 17 = .ok (.iadd, 1) := by decide +kernel
theorem dX6_letter_18 : decode cX6_letter 18 = .ok (.goto 4, 3) := by decide +kernel
theorem dX6_letter_21 : decode cX6_letter 21 = .ok (.iconst 0, 1) := by decide +kernel
theorem dX6_letter_22 : decode cX6_letter 22 = .ok (.ireturn, 1) := by decide +kernel
theorem dX6_isDigit_0 : decode cX6_isDigit 0 = .ok (.iload_n 0, 1) := by decide +kernel
theorem dX6_isDigit_1 : decode cX6_isDigit 1 = .ok (.bipush 48, 2) := by decide +kernel
theorem dX6_isDigit_3 : decode cX6_isDigit 3 = .ok (.if_icmp .lt 13, 3) := by decide +kernel
theorem dX6_isDigit_6 : decode cX6_isDigit 6 = .ok (.iload_n 0, 1) := by decide +kernel
theorem dX6_isDigit_7 : decode cX6_isDigit 7 = .ok (.bipush 57, 2) := by decide +kernel
theorem dX6_isDigit_9 : decode cX6_isDigit 9 = .ok (.if_icmp .gt 7, 3) := by decide +kernel
theorem dX6_isDigit_12 : decode cX6_isDigit 12 = .ok (.iconst 1, 1) := by decide +kernel
theorem dX6_isDigit_13 : decode cX6_isDigit 13 = .ok (.goto 4, 3) := by decide +kernel
theorem dX6_isDigit_16 : decode cX6_isDigit 16 = .ok (.iconst 0, 1) := by decide +kernel
theorem dX6_isDigit_17 : decode cX6_isDigit 17 = .ok (.ireturn, 1) := by decide +kernel
theorem dX6_byteAt_0 : decode cX6_byteAt 0 = .ok (.iload_n 1, 1) := by decide +kernel
theorem dX6_byteAt_1 : decode cX6_byteAt 1 = .ok (.aload_n 0, 1) := by decide +kernel
theorem dX6_byteAt_2 : decode cX6_byteAt 2 = .ok (.getfield 208, 3) := by decide +kernel
theorem dX6_byteAt_5 : decode cX6_byteAt 5 = .ok (.if_icmp .ge 12, 3) := by decide +kernel
theorem dX6_byteAt_8 : decode cX6_byteAt 8 = .ok (.aload_n 0, 1) := by decide +kernel
theorem dX6_byteAt_9 : decode cX6_byteAt 9 = .ok (.getfield 25, 3) := by decide +kernel
theorem dX6_byteAt_12 : decode cX6_byteAt 12 = .ok (.iload_n 1, 1) := by decide +kernel
theorem dX6_byteAt_13 : decode cX6_byteAt 13 = .ok (.baload, 1) := by decide +kernel
theorem dX6_byteAt_14 : decode cX6_byteAt 14 = .ok (.goto 4, 3) := by decide +kernel
theorem dX6_byteAt_17 : decode cX6_byteAt 17 = .ok (.iconst (-1), 1) := by decide +kernel
theorem dX6_byteAt_18 : decode cX6_byteAt 18 = .ok (.ireturn, 1) := by decide +kernel
set_option maxRecDepth 20000 in
theorem ggX6_next_X6_byteAt : GoodIn wsX6_next wsX6_byteAt := goodIn_r _ [15, 4, 16, 23, 24, 25, 26, 27, 28, 29, 30, 31, 32, 33, 34, 35, 36, 37, 38, 39] (by decide +kernel) (by decide +kernel)
set_option maxRecDepth 20000 in
theorem gX6_next_X6_byteAt : GoodIn wsX6_next (wsV RX6 215 RX6 yX6_byteAt wsX6_byteAt) := goodIn_app (goodIn_of _ (by decide +kernel)) ggX6_next_X6_byteAt
set_option maxRecDepth 20000 in
theorem ggX6_next_X6_letter : GoodIn wsX6_next wsX6_letter := goodIn_r _ [19] (by decide +kernel) (by decide +kernel)
set_option maxRecDepth 20000 in
theorem gX6_next_X6_letter : GoodIn wsX6_next (va_wsS RX6 228 yX6_letter wsX6_letter) := goodIn_app (goodIn_of _ (by decide +kernel)) ggX6_next_X6_letter
set_option maxRecDepth 20000 in
theorem ggX6_next_X6_isDigit : GoodIn wsX6_next wsX6_isDigit := goodIn_r _ [22] (by decide +kernel) (by decide +kernel)
set_option maxRecDepth 20000 in
theorem gX6_next_X6_isDigit : GoodIn wsX6_next (va_wsS RX6 235 yX6_isDigit wsX6_isDigit) := goodIn_app (goodIn_of _ (by decide +kernel)) ggX6_next_X6_isDigit
theorem dX6_next_0 : decode cX6_next 0 = .ok (.aload_n 0, 1) := by decide +kernel
theorem dX6_next_1 : decode cX6_next 1 = .ok (.aload_n 0, 1) := by decide +kernel
theorem dX6_next_2 : decode cX6_next 2 = .ok (.getfield 212, 3) := by decide +kernel
theorem dX6_next_5 : decode cX6_next 5 = .ok (.invokevirtual 215, 3) := by decide +kernel
theorem dX6_next_8 : decode cX6_next 8 = .ok (.bipush 32, 2) := by decide +kernel
theorem dX6_next_10 : decode cX6_next 10 = .ok (.if_icmp .ne 16, 3) := by decide +kernel
theorem dX6_next_13 : decode cX6_next 13 = .ok (.aload_n 0, 1) := by decide +kernel
theorem dX6_next_14 : decode cX6_next 14 = .ok (.dup, 1) := by decide +kernel
theorem dX6_next_15 : decode cX6_next 15 = .ok (.getfield 212, 3) := by decide +kernel
theorem dX6_next_18 : decode cX6_next 18 = .ok (.iconst 1, 1) := by decide +kernel
theorem dX6_next_19 : decode cX6_next 19 = .ok (.iadd, 1) := by decide +kernel
theorem dX6_next_20 : decode cX6_next 20 = .ok (.putfield 212, 3) := by decide +kernel
theorem dX6_next_23 : decode cX6_next 23 = .ok (.goto (-23), 3) := by decide +kernel
theorem dX6_next_26 : decode cX6_next 26 = .ok (.aload_n 0, 1) := by decide +kernel
theorem dX6_next_27 : decode cX6_next 27 = .ok (.aload_n 0, 1) := by decide +kernel
theorem dX6_next_28 : decode cX6_next 28 = .ok (.getfield 212, 3) := by decide +kernel
theorem dX6_next_31 : decode cX6_next 31 = .ok (.putfield 218, 3) := by decide +kernel
theorem dX6_next_34 : decode cX6_next 34 = .ok (.aload_n 0, 1) := by decide +kernel
theorem dX6_next_35 : decode cX6_next 35 = .ok (.lconst 0, 1) := by decide +kernel
theorem dX6_next_36 : decode cX6_next 36 = .ok (.putfield 221, 3) := by decide +kernel
theorem dX6_next_39 : decode cX6_next 39 = .ok (.aload_n 0, 1) := by decide +kernel
theorem dX6_next_40 : decode cX6_next 40 = .ok (.aload_n 0, 1) := by decide +kernel
theorem dX6_next_41 : decode cX6_next 41 = .ok (.getfield 212, 3) := by decide +kernel
theorem dX6_next_44 : decode cX6_next 44 = .ok (.invokevirtual 215, 3) := by decide +kernel
theorem dX6_next_47 : decode cX6_next 47 = .ok (.istore_n 1, 1) := by decide +kernel
theorem dX6_next_48 : decode cX6_next 48 = .ok (.aload_n 0, 1) := by decide +kernel
theorem dX6_next_49 : decode cX6_next 49 = .ok (.getfield 212, 3) := by decide +kernel
theorem dX6_next_52 : decode cX6_next 52 = .ok (.aload_n 0, 1) := by decide +kernel
theorem dX6_next_53 : decode cX6_next 53 = .ok (.getfield 208, 3) := by decide +kernel
theorem dX6_next_56 : decode cX6_next 56 = .ok (.if_icmp .ne 11, 3) := by decide +kernel
theorem dX6_next_59 : decode cX6_next 59 = .ok (.aload_n 0, 1) := by decide +kernel
theorem dX6_next_60 : decode cX6_next 60 = .ok (.iconst 0, 1) := by decide +kernel
theorem dX6_next_61 : decode cX6_next 61 = .ok (.putfield 225, 3) := by decide +kernel
theorem dX6_next_64 : decode cX6_next 64 = .ok (.goto 197, 3) := by decide +kernel
theorem dX6_next_67 : decode cX6_next 67 = .ok (.iload_n 1, 1) := by decide +kernel
theorem dX6_next_68 : decode cX6_next 68 = .ok (.bipush 59, 2) := by decide +kernel
theorem dX6_next_70 : decode cX6_next 70 = .ok (.if_icmp .ne 21, 3) := by decide +kernel
theorem dX6_next_73 : decode cX6_next 73 = .ok (.aload_n 0, 1) := by decide +kernel
theorem dX6_next_74 : decode cX6_next 74 = .ok (.iconst 3, 1) := by decide +kernel
theorem dX6_next_75 : decode cX6_next 75 = .ok (.putfield 225, 3) := by decide +kernel
theorem dX6_next_78 : decode cX6_next 78 = .ok (.aload_n 0, 1) := by decide +kernel
theorem dX6_next_79 : decode cX6_next 79 = .ok (.dup, 1) := by decide +kernel
theorem dX6_next_80 : decode cX6_next 80 = .ok (.getfield 212, 3) := by decide +kernel
theorem dX6_next_83 : decode cX6_next 83 = .ok (.iconst 1, 1) := by decide +kernel
theorem dX6_next_84 : decode cX6_next 84 = .ok (.iadd, 1) := by decide +kernel
theorem dX6_next_85 : decode cX6_next 85 = .ok (.putfield 212, 3) := by decide +kernel
theorem dX6_next_88 : decode cX6_next 88 = .ok (.goto 173, 3) := by decide +kernel
theorem dX6_next_91 : decode cX6_next 91 = .ok (.iload_n 1, 1) := by decide +kernel
theorem dX6_next_92 : decode cX6_next 92 = .ok (.invokestatic 228, 3) := by decide +kernel
theorem dX6_next_95 : decode cX6_next 95 = .ok (.ifCond .le 78, 3) := by decide +kernel
theorem dX6_next_98 : decode cX6_next 98 = .ok (.aload_n 0, 1) := by decide +kernel
theorem dX6_next_99 : decode cX6_next 99 = .ok (.iconst 1, 1) := by decide +kernel
theorem dX6_next_100 : decode cX6_next 100 = .ok (.putfield 225, 3) := by decide +kernel
theorem dX6_next_103 : decode cX6_next 103 = .ok (.aload_n 0, 1) := by decide +kernel
theorem dX6_next_104 : decode cX6_next 104 = .ok (.aload_n 0, 1) := by decide +kernel
theorem dX6_next_105 : decode cX6_next 105 = .ok (.getfield 212, 3) := by decide +kernel
theorem dX6_next_108 : decode cX6_next 108 = .ok (.invokevirtual 215, 3) := by decide +kernel
theorem dX6_next_111 : decode cX6_next 111 = .ok (.invokestatic 228, 3) := by decide +kernel
theorem dX6_next_114 : decode cX6_next 114 = .ok (.ifCond .le 147, 3) := by decide +kernel
theorem dX6_next_117 : decode cX6_next 117 = .ok (.aload_n 0, 1) := by decide +kernel
theorem dX6_next_118 : decode cX6_next 118 = .ok (.aload_n 0, 1) := by decide +kernel
theorem dX6_next_119 : decode cX6_next 119 = .ok (.getfield 221, 3) := by decide +kernel
theorem dX6_next_122 : decode cX6_next 122 = .ok (.ldc2_w 231, 3) := by decide +kernel
theorem dX6_next_125 : decode cX6_next 125 = .ok (.lcmp, 1) := by decide +kernel
theorem dX6_next_126 : decode cX6_next 126 = .ok (.ifCond .le 10, 3) := by decide +kernel
theorem dX6_next_129 : decode cX6_next 129 = .ok (.aload_n 0, 1) := by decide +kernel
theorem dX6_next_130 : decode cX6_next 130 = .ok (.getfield 221, 3) := by decide +kernel
theorem dX6_next_133 : decode cX6_next 133 = .ok (.goto 24, 3) := by decide +kernel
theorem dX6_next_136 : decode cX6_next 136 = .ok (.aload_n 0, 1) := by decide +kernel
theorem dX6_next_137 : decode cX6_next 137 = .ok (.getfield 221, 3) := by decide +kernel
theorem dX6_next_140 : decode cX6_next 140 = .ok (.ldc2_w 233, 3) := by decide +kernel
theorem dX6_next_143 : decode cX6_next 143 = .ok (.lmul, 1) := by decide +kernel
theorem dX6_next_144 : decode cX6_next 144 = .ok (.aload_n 0, 1) := by decide +kernel
theorem dX6_next_145 : decode cX6_next 145 = .ok (.aload_n 0, 1) := by decide +kernel
theorem dX6_next_146 : decode cX6_next 146 = .ok (.getfield 212, 3) := by decide +kernel
theorem dX6_next_149 : decode cX6_next 149 = .ok (.invokevirtual 215, 3) := by decide +kernel
theorem dX6_next_152 : decode cX6_next 152 = .ok (.invokestatic 228, 3) := by decide +kernel
theorem dX6_next_155 : decode cX6_next 155 = .ok (.i2l, 1) := by decide +kernel
theorem dX6_next_156 : decode cX6_next 156 = .ok (.ladd, 1) := by decide +kernel
theorem dX6_next_157 : decode cX6_next 157 = .ok (.putfield 221, 3) := by decide +kernel
theorem dX6_next_160 : decode cX6_next 160 = .ok (.aload_n 0, 1) := by decide +kernel
theorem dX6_next_161 : decode cX6_next 161 = .ok (.dup, 1) := by decide +kernel
theorem dX6_next_162 : decode cX6_next 162 = .ok (.getfield 212, 3) := by decide +kernel
theorem dX6_next_165 : decode cX6_next 165 = .ok (.iconst 1, 1) := by decide +kernel
theorem dX6_next_166 : decode cX6_next 166 = .ok (.iadd, 1) := by decide +kernel
theorem dX6_next_167 : decode cX6_next 167 = .ok (.putfield 212, 3) := by decide +kernel
theorem dX6_next_170 : decode cX6_next 170 = .ok (.goto (-67), 3) := by decide +kernel
theorem dX6_next_173 : decode cX6_next 173 = .ok (.iload_n 1, 1) := by decide +kernel
theorem dX6_next_174 : decode cX6_next 174 = .ok (.invokestatic 235, 3) := by decide +kernel
theorem dX6_next_177 : decode cX6_next 177 = .ok (.ifCond .eq 79, 3) := by decide +kernel
theorem dX6_next_180 : decode cX6_next 180 = .ok (.aload_n 0, 1) := by decide +kernel
theorem dX6_next_181 : decode cX6_next 181 = .ok (.iconst 2, 1) := by decide +kernel
theorem dX6_next_182 : decode cX6_next 182 = .ok (.putfield 225, 3) := by decide +kernel
theorem dX6_next_185 : decode cX6_next 185 = .ok (.aload_n 0, 1) := by decide +kernel
theorem dX6_next_186 : decode cX6_next 186 = .ok (.aload_n 0, 1) := by decide +kernel
theorem dX6_next_187 : decode cX6_next 187 = .ok (.getfield 212, 3) := by decide +kernel
theorem dX6_next_190 : decode cX6_next 190 = .ok (.invokevirtual 215, 3) := by decide +kernel
theorem dX6_next_193 : decode cX6_next 193 = .ok (.invokestatic 235, 3) := by decide +kernel
theorem dX6_next_196 : decode cX6_next 196 = .ok (.ifCond .eq 65, 3) := by decide +kernel
theorem dX6_next_199 : decode cX6_next 199 = .ok (.aload_n 0, 1) := by decide +kernel
theorem dX6_next_200 : decode cX6_next 200 = .ok (.aload_n 0, 1) := by decide +kernel
theorem dX6_next_201 : decode cX6_next 201 = .ok (.getfield 221, 3) := by decide +kernel
theorem dX6_next_204 : decode cX6_next 204 = .ok (.ldc2_w 169, 3) := by decide +kernel
theorem dX6_next_207 : decode cX6_next 207 = .ok (.lcmp, 1) := by decide +kernel
theorem dX6_next_208 : decode cX6_next 208 = .ok (.ifCond .le 10, 3) := by decide +kernel
theorem dX6_next_211 : decode cX6_next 211 = .ok (.aload_n 0, 1) := by decide +kernel
theorem dX6_next_212 : decode cX6_next 212 = .ok (.getfield 221, 3) := by decide +kernel
theorem dX6_next_215 : decode cX6_next 215 = .ok (.goto 25, 3) := by decide +kernel
theorem dX6_next_218 : decode cX6_next 218 = .ok (.aload_n 0, 1) := by decide +kernel
theorem dX6_next_219 : decode cX6_next 219 = .ok (.getfield 221, 3) := by decide +kernel
theorem dX6_next_222 : decode cX6_next 222 = .ok (.ldc2_w 137, 3) := by decide +kernel
theorem dX6_next_225 : decode cX6_next 225 = .ok (.lmul, 1) := by decide +kernel
theorem dX6_next_226 : decode cX6_next 226 = .ok (.aload_n 0, 1) := by decide +kernel
theorem dX6_next_227 : decode cX6_next 227 = .ok (.aload_n 0, 1) := by decide +kernel
theorem dX6_next_228 : decode cX6_next 228 = .ok (.getfield 212, 3) := by decide +kernel
theorem dX6_next_231 : decode cX6_next 231 = .ok (.invokevirtual 215, 3) := by decide +kernel
theorem dX6_next_234 : decode cX6_next 234 = .ok (.i2l, 1) := by decide +kernel
theorem dX6_next_235 : decode cX6_next 235 = .ok (.ladd, 1) := by decide +kernel
theorem dX6_next_236 : decode cX6_next 236 = .ok (.ldc2_w 238, 3) := by decide +kernel
theorem dX6_next_239 : decode cX6_next 239 = .ok (.lsub, 1) := by decide +kernel
theorem dX6_next_240 : decode cX6_next 240 = .ok (.putfield 221, 3) := by decide +kernel
theorem dX6_next_243 : decode cX6_next 243 = .ok (.aload_n 0, 1) := by decide +kernel
theorem dX6_next_244 : decode cX6_next 244 = .ok (.dup, 1) := by decide +kernel
theorem dX6_next_245 : decode cX6_next 245 = .ok (.getfield 212, 3) := by decide +kernel
theorem dX6_next_248 : decode cX6_next 248 = .ok (.iconst 1, 1) := by decide +kernel
theorem dX6_next_249 : decode cX6_next 249 = .ok (.iadd, 1) := by decide +kernel
theorem dX6_next_250 : decode cX6_next 250 = .ok (.putfield 212, 3) := by decide +kernel
theorem dX6_next_253 : decode cX6_next 253 = .ok (.goto (-68), 3) := by decide +kernel
theorem dX6_next_256 : decode cX6_next 256 = .ok (.aload_n 0, 1) := by decide +kernel
theorem dX6_next_257 : decode cX6_next 257 = .ok (.iconst 4, 1) := by decide +kernel
theorem dX6_next_258 : decode cX6_next 258 = .ok (.putfield 225, 3) := by decide +kernel
theorem dX6_next_261 : decode cX6_next 261 = .ok (.return_, 1) := by decide +kernel
theorem dX6_wrongHere_0 : decode cX6_wrongHere 0 = .ok (.aload_n 0, 1) := by decide +kernel
theorem dX6_wrongHere_1 : decode cX6_wrongHere 1 = .ok (.aload_n 0, 1) := by decide +kernel
theorem dX6_wrongHere_2 : decode cX6_wrongHere 2 = .ok (.getfield 240, 3) := by decide +kernel
theorem dX6_wrongHere_5 : decode cX6_wrongHere 5 = .ok (.ifCond .ge 10, 3) := by decide +kernel
theorem dX6_wrongHere_8 : decode cX6_wrongHere 8 = .ok (.aload_n 0, 1) := by decide +kernel
theorem dX6_wrongHere_9 : decode cX6_wrongHere 9 = .ok (.getfield 218, 3) := by decide +kernel
theorem dX6_wrongHere_12 : decode cX6_wrongHere 12 = .ok (.goto 7, 3) := by decide +kernel
theorem dX6_wrongHere_15 : decode cX6_wrongHere 15 = .ok (.aload_n 0, 1) := by decide +kernel
theorem dX6_wrongHere_16 : decode cX6_wrongHere 16 = .ok (.getfield 240, 3) := by decide +kernel
theorem dX6_wrongHere_19 : decode cX6_wrongHere 19 = .ok (.putfield 240, 3) := by decide +kernel
theorem dX6_wrongHere_22 : decode cX6_wrongHere 22 = .ok (.return_, 1) := by decide +kernel
theorem dX6_isWord_0 : decode cX6_isWord 0 = .ok (.aload_n 0, 1) := by decide +kernel
theorem dX6_isWord_1 : decode cX6_isWord 1 = .ok (.getfield 225, 3) := by decide +kernel
theorem dX6_isWord_4 : decode cX6_isWord 4 = .ok (.iconst 1, 1) := by decide +kernel
theorem dX6_isWord_5 : decode cX6_isWord 5 = .ok (.if_icmp .ne 16, 3) := by decide +kernel
theorem dX6_isWord_8 : decode cX6_isWord 8 = .ok (.aload_n 0, 1) := by decide +kernel
theorem dX6_isWord_9 : decode cX6_isWord 9 = .ok (.getfield 221, 3) := by decide +kernel
theorem dX6_isWord_12 : decode cX6_isWord 12 = .ok (.lload_n 1, 1) := by decide +kernel
theorem dX6_isWord_13 : decode cX6_isWord 13 = .ok (.lcmp, 1) := by decide +kernel
theorem dX6_isWord_14 : decode cX6_isWord 14 = .ok (.ifCond .ne 7, 3) := by decide +kernel
theorem dX6_isWord_17 : decode cX6_isWord 17 = .ok (.iconst 1, 1) := by decide +kernel
theorem dX6_isWord_18 : decode cX6_isWord 18 = .ok (.goto 4, 3) := by decide +kernel
theorem dX6_isWord_21 : decode cX6_isWord 21 = .ok (.iconst 0, 1) := by decide +kernel
theorem dX6_isWord_22 : decode cX6_isWord 22 = .ok (.ireturn, 1) := by decide +kernel
set_option maxRecDepth 20000 in
theorem ggX6_kindHere_X6_isWord : GoodIn wsX6_kindHere wsX6_isWord := goodIn_r _ [12, 13, 14, 15, 16, 17, 18, 19, 20, 21, 22, 23, 24, 25, 26, 27, 28, 29, 30, 31] (by decide +kernel) (by decide +kernel)
set_option maxRecDepth 20000 in
theorem gX6_kindHere_X6_isWord : GoodIn wsX6_kindHere (wsV RX6 245 RX6 yX6_isWord wsX6_isWord) := goodIn_app (goodIn_of _ (by decide +kernel)) ggX6_kindHere_X6_isWord
theorem dX6_kindHere_0 : decode cX6_kindHere 0 = .ok (.aload_n 0, 1) := by decide +kernel
theorem dX6_kindHere_1 : decode cX6_kindHere 1 = .ok (.ldc2_w 243, 3) := by decide +kernel
theorem dX6_kindHere_4 : decode cX6_kindHere 4 = .ok (.invokevirtual 245, 3) := by decide +kernel
theorem dX6_kindHere_7 : decode cX6_kindHere 7 = .ok (.ifCond .eq 7, 3) := by decide +kernel
theorem dX6_kindHere_10 : decode cX6_kindHere 10 = .ok (.iconst 0, 1) := by decide +kernel
theorem dX6_kindHere_11 : decode cX6_kindHere 11 = .ok (.goto 89, 3) := by decide +kernel
theorem dX6_kindHere_14 : decode cX6_kindHere 14 = .ok (.aload_n 0, 1) := by decide +kernel
theorem dX6_kindHere_15 : decode cX6_kindHere 15 = .ok (.ldc2_w 249, 3) := by decide +kernel
theorem dX6_kindHere_18 : decode cX6_kindHere 18 = .ok (.invokevirtual 245, 3) := by decide +kernel
theorem dX6_kindHere_21 : decode cX6_kindHere 21 = .ok (.ifCond .eq 7, 3) := by decide +kernel
theorem dX6_kindHere_24 : decode cX6_kindHere 24 = .ok (.iconst 1, 1) := by decide +kernel
theorem dX6_kindHere_25 : decode cX6_kindHere 25 = .ok (.goto 75, 3) := by decide +kernel
theorem dX6_kindHere_28 : decode cX6_kindHere 28 = .ok (.aload_n 0, 1) := by decide +kernel
theorem dX6_kindHere_29 : decode cX6_kindHere 29 = .ok (.ldc2_w 251, 3) := by decide +kernel
theorem dX6_kindHere_32 : decode cX6_kindHere 32 = .ok (.invokevirtual 245, 3) := by decide +kernel
theorem dX6_kindHere_35 : decode cX6_kindHere 35 = .ok (.ifCond .eq 7, 3) := by decide +kernel
theorem dX6_kindHere_38 : decode cX6_kindHere 38 = .ok (.iconst 2, 1) := by decide +kernel
theorem dX6_kindHere_39 : decode cX6_kindHere 39 = .ok (.goto 61, 3) := by decide +kernel
theorem dX6_kindHere_42 : decode cX6_kindHere 42 = .ok (.aload_n 0, 1) := by decide +kernel
theorem dX6_kindHere_43 : decode cX6_kindHere 43 = .ok (.ldc2_w 253, 3) := by decide +kernel
theorem dX6_kindHere_46 : decode cX6_kindHere 46 = .ok (.invokevirtual 245, 3) := by decide +kernel
theorem dX6_kindHere_49 : decode cX6_kindHere 49 = .ok (.ifCond .eq 7, 3) := by decide +kernel
theorem dX6_kindHere_52 : decode cX6_kindHere 52 = .ok (.iconst 3, 1) := by decide +kernel
theorem dX6_kindHere_53 : decode cX6_kindHere 53 = .ok (.goto 47, 3) := by decide +kernel
theorem dX6_kindHere_56 : decode cX6_kindHere 56 = .ok (.aload_n 0, 1) := by decide +kernel
theorem dX6_kindHere_57 : decode cX6_kindHere 57 = .ok (.ldc2_w 255, 3) := by decide +kernel
theorem dX6_kindHere_60 : decode cX6_kindHere 60 = .ok (.invokevirtual 245, 3) := by decide +kernel
theorem dX6_kindHere_63 : decode cX6_kindHere 63 = .ok (.ifCond .eq 7, 3) := by decide +kernel
theorem dX6_kindHere_66 : decode cX6_kindHere 66 = .ok (.iconst 4, 1) := by decide +kernel
theorem dX6_kindHere_67 : decode cX6_kindHere 67 = .ok (.goto 33, 3) := by decide +kernel
theorem dX6_kindHere_70 : decode cX6_kindHere 70 = .ok (.aload_n 0, 1) := by decide +kernel
theorem dX6_kindHere_71 : decode cX6_kindHere 71 = .ok (.ldc2_w 257, 3) := by decide +kernel
theorem dX6_kindHere_74 : decode cX6_kindHere 74 = .ok (.invokevirtual 245, 3) := by decide +kernel
theorem dX6_kindHere_77 : decode cX6_kindHere 77 = .ok (.ifCond .eq 7, 3) := by decide +kernel
theorem dX6_kindHere_80 : decode cX6_kindHere 80 = .ok (.iconst 5, 1) := by decide +kernel
theorem dX6_kindHere_81 : decode cX6_kindHere 81 = .ok (.goto 19, 3) := by decide +kernel
theorem dX6_kindHere_84 : decode cX6_kindHere 84 = .ok (.aload_n 0, 1) := by decide +kernel
theorem dX6_kindHere_85 : decode cX6_kindHere 85 = .ok (.ldc2_w 259, 3) := by decide +kernel
theorem dX6_kindHere_88 : decode cX6_kindHere 88 = .ok (.invokevirtual 245, 3) := by decide +kernel
theorem dX6_kindHere_91 : decode cX6_kindHere 91 = .ok (.ifCond .eq 8, 3) := by decide +kernel
theorem dX6_kindHere_94 : decode cX6_kindHere 94 = .ok (.bipush 6, 2) := by decide +kernel
theorem dX6_kindHere_96 : decode cX6_kindHere 96 = .ok (.goto 4, 3) := by decide +kernel
theorem dX6_kindHere_99 : decode cX6_kindHere 99 = .ok (.iconst (-1), 1) := by decide +kernel
theorem dX6_kindHere_100 : decode cX6_kindHere 100 = .ok (.ireturn, 1) := by decide +kernel
set_option maxRecDepth 20000 in
theorem ggX6_numberHere_X6_wrongHere : GoodIn wsX6_numberHere wsX6_wrongHere := goodIn_r _ [7, 8, 9, 32, 33, 34, 35, 36, 37, 38, 39, 40, 41, 42, 43, 44, 45, 46, 47, 48] (by decide +kernel) (by decide +kernel)
set_option maxRecDepth 20000 in
theorem gX6_numberHere_X6_wrongHere : GoodIn wsX6_numberHere (wsV RX6 261 RX6 yX6_wrongHere wsX6_wrongHere) := goodIn_app (goodIn_of _ (by decide +kernel)) ggX6_numberHere_X6_wrongHere
set_option maxRecDepth 20000 in
theorem ggX6_numberHere_X6_next : GoodIn wsX6_numberHere wsX6_next := goodIn_r _ [13, 14, 9, 1, 15, 2, 16, 17, 18, 19, 20, 21, 22, 23, 6, 24, 25, 26, 27, 28, 29, 30, 31, 32, 33, 34, 35, 36, 37, 38, 39, 40, 41, 42, 43, 44, 45, 46, 47, 48] (by decide +kernel) (by decide +kernel)
set_option maxRecDepth 20000 in
theorem gX6_numberHere_X6_next : GoodIn wsX6_numberHere (wsV RX6 264 RX6 yX6_next wsX6_next) := goodIn_app (goodIn_of _ (by decide +kernel)) ggX6_numberHere_X6_next
theorem dX6_numberHere_0 : decode cX6_numberHere 0 = .ok (.aload_n 0, 1) := by decide +kernel
theorem dX6_numberHere_1 : decode cX6_numberHere 1 = .ok (.getfield 221, 3) := by decide +kernel
theorem dX6_numberHere_4 : decode cX6_numberHere 4 = .ok (.l2i, 1) := by decide +kernel
theorem dX6_numberHere_5 : decode cX6_numberHere 5 = .ok (.istore_n 2, 1) := by decide +kernel
theorem dX6_numberHere_6 : decode cX6_numberHere 6 = .ok (.aload_n 0, 1) := by decide +kernel
theorem dX6_numberHere_7 : decode cX6_numberHere 7 = .ok (.getfield 225, 3) := by decide +kernel
theorem dX6_numberHere_10 : decode cX6_numberHere 10 = .ok (.iconst 2, 1) := by decide +kernel
theorem dX6_numberHere_11 : decode cX6_numberHere 11 = .ok (.if_icmp .ne 13, 3) := by decide +kernel
theorem dX6_numberHere_14 : decode cX6_numberHere 14 = .ok (.aload_n 0, 1) := by decide +kernel
theorem dX6_numberHere_15 : decode cX6_numberHere 15 = .ok (.getfield 221, 3) := by decide +kernel
theorem dX6_numberHere_18 : decode cX6_numberHere 18 = .ok (.iload_n 1, 1) := by decide +kernel
theorem dX6_numberHere_19 : decode cX6_numberHere 19 = .ok (.i2l, 1) := by decide +kernel
theorem dX6_numberHere_20 : decode cX6_numberHere 20 = .ok (.lcmp, 1) := by decide +kernel
theorem dX6_numberHere_21 : decode cX6_numberHere 21 = .ok (.ifCond .le 9, 3) := by decide +kernel
theorem dX6_numberHere_24 : decode cX6_numberHere 24 = .ok (.aload_n 0, 1) := by decide +kernel
theorem dX6_numberHere_25 : decode cX6_numberHere 25 = .ok (.invokevirtual 261, 3) := by decide +kernel
theorem dX6_numberHere_28 : decode cX6_numberHere 28 = .ok (.iconst 0, 1) := by decide +kernel
theorem dX6_numberHere_29 : decode cX6_numberHere 29 = .ok (.ireturn, 1) := by decide +kernel
theorem dX6_numberHere_30 : decode cX6_numberHere 30 = .ok (.aload_n 0, 1) := by decide +kernel
theorem dX6_numberHere_31 : decode cX6_numberHere 31 = .ok (.invokevirtual 264, 3) := by decide +kernel
theorem dX6_numberHere_34 : decode cX6_numberHere 34 = .ok (.iload_n 2, 1) := by decide +kernel
theorem dX6_numberHere_35 : decode cX6_numberHere 35 = .ok (.ireturn, 1) := by decide +kernel
set_option maxRecDepth 20000 in
theorem ggX6_perhaps_X6_isWord : GoodIn wsX6_perhaps wsX6_isWord := goodIn_r _ [7, 8, 9, 41, 42, 43, 44, 45, 46, 47, 48, 49, 50, 51, 52, 53, 54, 55, 56, 57] (by decide +kernel) (by decide +kernel)
set_option maxRecDepth 20000 in
theorem gX6_perhaps_X6_isWord : GoodIn wsX6_perhaps (wsV RX6 245 RX6 yX6_isWord wsX6_isWord) := goodIn_app (goodIn_of _ (by decide +kernel)) ggX6_perhaps_X6_isWord
set_option maxRecDepth 20000 in
theorem ggX6_perhaps_X6_next : GoodIn wsX6_perhaps wsX6_next := goodIn_r _ [13, 14, 15, 9, 16, 8, 17, 18, 19, 20, 21, 22, 23, 24, 6, 25, 26, 27, 28, 29, 30, 31, 32, 41, 42, 43, 44, 45, 46, 47, 48, 49, 50, 51, 52, 53, 54, 55, 56, 57] (by decide +kernel) (by decide +kernel)
set_option maxRecDepth 20000 in
theorem gX6_perhaps_X6_next : GoodIn wsX6_perhaps (wsV RX6 264 RX6 yX6_next wsX6_next) := goodIn_app (goodIn_of _ (by decide +kernel)) ggX6_perhaps_X6_next
set_option maxRecDepth 20000 in
theorem ggX6_perhaps_X6_numberHere : GoodIn wsX6_perhaps wsX6_numberHere := goodIn_r _ [36, 9, 8, 37, 38, 39, 6, 40, 1, 15, 10, 11, 12, 13, 14, 16, 17, 18, 19, 20, 21, 22, 23, 24, 25, 26, 27, 28, 29, 30, 31, 32, 41, 42, 43, 44, 45, 46, 47, 48, 49, 50, 51, 52, 53, 54, 55, 56, 57] (by decide +kernel) (by decide +kernel)
set_option maxRecDepth 20000 in
theorem gX6_perhaps_X6_numberHere : GoodIn wsX6_perhaps (wsV RX6 267 RX6 yX6_numberHere wsX6_numberHere) := goodIn_app (goodIn_of _ (by decide +kernel)) ggX6_perhaps_X6_numberHere
theorem dX6_perhaps_0 : decode cX6_perhaps 0 = .ok (.aload_n 0, 1) := by decide +kernel
theorem dX6_perhaps_1 : decode cX6_perhaps 1 = .ok (.getfield 240, 3) := by decide +kernel
theorem dX6_perhaps_4 : decode cX6_perhaps 4 = .ok (.ifCond .ge 38, 3) := by decide +kernel
theorem dX6_perhaps_7 : decode cX6_perhaps 7 = .ok (.aload_n 0, 1) := by decide +kernel
theorem dX6_perhaps_8 : decode cX6_perhaps 8 = .ok (.lload_n 1, 1) := by decide +kernel
theorem dX6_perhaps_9 : decode cX6_perhaps 9 = .ok (.invokevirtual 245, 3) := by decide +kernel
theorem dX6_perhaps_12 : decode cX6_perhaps 12 = .ok (.ifCond .eq 30, 3) := by decide +kernel
theorem dX6_perhaps_15 : decode cX6_perhaps 15 = .ok (.aload_n 0, 1) := by decide +kernel
theorem dX6_perhaps_16 : decode cX6_perhaps 16 = .ok (.invokevirtual 264, 3) := by decide +kernel
theorem dX6_perhaps_19 : decode cX6_perhaps 19 = .ok (.aload_n 0, 1) := by decide +kernel
theorem dX6_perhaps_20 : decode cX6_perhaps 20 = .ok (.iload 4, 2) := by decide +kernel
theorem dX6_perhaps_22 : decode cX6_perhaps 22 = .ok (.invokevirtual 267, 3) := by decide +kernel
theorem dX6_perhaps_25 : decode cX6_perhaps 25 = .ok (.istore 5, 2) := by decide +kernel
theorem dX6_perhaps_27 : decode cX6_perhaps 27 = .ok (.aload_n 0, 1) := by decide +kernel
theorem dX6_perhaps_28 : decode cX6_perhaps 28 = .ok (.getfield 240, 3) := by decide +kernel
theorem dX6_perhaps_31 : decode cX6_perhaps 31 = .ok (.ifCond .ge 11, 3) := by decide +kernel
theorem dX6_perhaps_34 : decode cX6_perhaps 34 = .ok (.aload_n 0, 1) := by decide +kernel
theorem dX6_perhaps_35 : decode cX6_perhaps 35 = .ok (.getfield 7, 3) := by decide +kernel
theorem dX6_perhaps_38 : decode cX6_perhaps 38 = .ok (.iload_n 3, 1) := by decide +kernel
theorem dX6_perhaps_39 : decode cX6_perhaps 39 = .ok (.iload 5, 2) := by decide +kernel
theorem dX6_perhaps_41 : decode cX6_perhaps 41 = .ok (.iastore, 1) := by decide +kernel
theorem dX6_perhaps_42 : decode cX6_perhaps 42 = .ok (.return_, 1) := by decide +kernel
set_option maxRecDepth 20000 in
theorem ggX6_residentHere_X6_wrongHere : GoodIn wsX6_residentHere wsX6_wrongHere := goodIn_r _ [11, 5, 12, 57, 58, 59, 60, 61, 62, 63, 64, 65, 66, 67, 68, 69, 70, 71, 72, 73] (by decide +kernel) (by decide +kernel)
set_option maxRecDepth 20000 in
theorem gX6_residentHere_X6_wrongHere : GoodIn wsX6_residentHere (wsV RX6 261 RX6 yX6_wrongHere wsX6_wrongHere) := goodIn_app (goodIn_of _ (by decide +kernel)) ggX6_residentHere_X6_wrongHere
set_option maxRecDepth 20000 in
theorem ggX6_residentHere_X6_next : GoodIn wsX6_residentHere wsX6_next := goodIn_r _ [16, 17, 12, 18, 19, 20, 21, 22, 23, 24, 25, 26, 27, 28, 10, 29, 30, 31, 32, 33, 34, 35, 36, 57, 58, 59, 60, 61, 62, 63, 64, 65, 66, 67, 68, 69, 70, 71, 72, 73] (by decide +kernel) (by decide +kernel)
set_option maxRecDepth 20000 in
theorem gX6_residentHere_X6_next : GoodIn wsX6_residentHere (wsV RX6 264 RX6 yX6_next wsX6_next) := goodIn_app (goodIn_of _ (by decide +kernel)) ggX6_residentHere_X6_next
set_option maxRecDepth 20000 in
theorem ggX6_residentHere_X6_comes : GoodIn wsX6_residentHere wsX6_comes := goodIn_r _ [40, 1, 41, 42, 43, 10, 44, 57, 58, 59, 60, 61, 62, 63, 64, 65, 66, 67, 68, 69, 70, 71, 72, 73] (by decide +kernel) (by decide +kernel)
set_option maxRecDepth 20000 in
theorem gX6_residentHere_X6_comes : GoodIn wsX6_residentHere (wsV RX6 131 RX6 yX6_comes wsX6_comes) := goodIn_app (goodIn_of _ (by decide +kernel)) ggX6_residentHere_X6_comes
set_option maxRecDepth 20000 in
theorem ggX6_residentHere_X6_perhaps : GoodIn wsX6_residentHere wsX6_perhaps := goodIn_r _ [48, 5, 1, 49, 50, 51, 10, 52, 20, 18, 13, 14, 15, 16, 17, 12, 19, 21, 22, 23, 24, 25, 26, 27, 28, 29, 30, 31, 32, 33, 34, 35, 36, 53, 54, 55, 56, 7, 8, 9, 11, 57, 58, 59, 60, 61, 62, 63, 64, 65, 66, 67, 68, 69, 70, 71, 72, 73] (by decide +kernel) (by decide +kernel)
set_option maxRecDepth 20000 in
theorem gX6_residentHere_X6_perhaps : GoodIn wsX6_residentHere (wsV RX6 272 RX6 yX6_perhaps wsX6_perhaps) := goodIn_app (goodIn_of _ (by decide +kernel)) ggX6_residentHere_X6_perhaps
set_option maxRecDepth 20000 in
theorem ggX6_residentHere_X6_isWord : GoodIn wsX6_residentHere wsX6_isWord := goodIn_r _ [52, 20, 18, 57, 58, 59, 60, 61, 62, 63, 64, 65, 66, 67, 68, 69, 70, 71, 72, 73] (by decide +kernel) (by decide +kernel)
set_option maxRecDepth 20000 in
theorem gX6_residentHere_X6_isWord : GoodIn wsX6_residentHere (wsV RX6 245 RX6 yX6_isWord wsX6_isWord) := goodIn_app (goodIn_of _ (by decide +kernel)) ggX6_residentHere_X6_isWord
set_option maxRecDepth 20000 in
theorem ggX6_residentHere_X6_sets : GoodIn wsX6_residentHere wsX6_sets := goodIn_r _ [44, 1, 57, 58, 59, 60, 61, 62, 63, 64, 65, 66, 67, 68, 69, 70, 71, 72, 73] (by decide +kernel) (by decide +kernel)
set_option maxRecDepth 20000 in
theorem gX6_residentHere_X6_sets : GoodIn wsX6_residentHere (wsV RX6 90 RX6 yX6_sets wsX6_sets) := goodIn_app (goodIn_of _ (by decide +kernel)) ggX6_residentHere_X6_sets
theorem dX6_residentHere_0 : decode cX6_residentHere 0 = .ok (.aload_n 0, 1) := by decide +kernel
theorem dX6_residentHere_1 : decode cX6_residentHere 1 = .ok (.getfield 7, 3) := by decide +kernel
theorem dX6_residentHere_4 : decode cX6_residentHere 4 = .ok (.iconst 0, 1) := by decide +kernel
theorem dX6_residentHere_5 : decode cX6_residentHere 5 = .ok (.iaload, 1) := by decide +kernel
theorem dX6_residentHere_6 : decode cX6_residentHere 6 = .ok (.bipush 8, 2) := by decide +kernel
theorem dX6_residentHere_8 : decode cX6_residentHere 8 = .ok (.if_icmp .ne 8, 3) := by decide +kernel
theorem dX6_residentHere_11 : decode cX6_residentHere 11 = .ok (.aload_n 0, 1) := by decide +kernel
theorem dX6_residentHere_12 : decode cX6_residentHere 12 = .ok (.invokevirtual 261, 3) := by decide +kernel
theorem dX6_residentHere_15 : decode cX6_residentHere 15 = .ok (.return_, 1) := by decide +kernel
theorem dX6_residentHere_16 : decode cX6_residentHere 16 = .ok (.aload_n 0, 1) := by decide +kernel
theorem dX6_residentHere_17 : decode cX6_residentHere 17 = .ok (.invokevirtual 264, 3) := by decide +kernel
theorem dX6_residentHere_20 : decode cX6_residentHere 20 = .ok (.aload_n 0, 1) := by decide +kernel
theorem dX6_residentHere_21 : decode cX6_residentHere 21 = .ok (.iload_n 1, 1) := by decide +kernel
theorem dX6_residentHere_22 : decode cX6_residentHere 22 = .ok (.iconst 0, 1) := by decide +kernel
theorem dX6_residentHere_23 : decode cX6_residentHere 23 = .ok (.invokevirtual 131, 3) := by decide +kernel
theorem dX6_residentHere_26 : decode cX6_residentHere 26 = .ok (.istore_n 2, 1) := by decide +kernel
theorem dX6_residentHere_27 : decode cX6_residentHere 27 = .ok (.aload_n 0, 1) := by decide +kernel
theorem dX6_residentHere_28 : decode cX6_residentHere 28 = .ok (.ldc2_w 270, 3) := by decide +kernel
theorem dX6_residentHere_31 : decode cX6_residentHere 31 = .ok (.bipush 33, 2) := by decide +kernel
theorem dX6_residentHere_33 : decode cX6_residentHere 33 = .ok (.iload_n 2, 1) := by decide +kernel
theorem dX6_residentHere_34 : decode cX6_residentHere 34 = .ok (.iadd, 1) := by decide +kernel
theorem dX6_residentHere_35 : decode cX6_residentHere 35 = .ok (.bipush 15, 2) := by decide +kernel
theorem dX6_residentHere_37 : decode cX6_residentHere 37 = .ok (.invokevirtual 272, 3) := by decide +kernel
theorem dX6_residentHere_40 : decode cX6_residentHere 40 = .ok (.aload_n 0, 1) := by decide +kernel
theorem dX6_residentHere_41 : decode cX6_residentHere 41 = .ok (.ldc2_w 276, 3) := by decide +kernel
theorem dX6_residentHere_44 : decode cX6_residentHere 44 = .ok (.bipush 41, 2) := by decide +kernel
theorem dX6_residentHere_46 : decode cX6_residentHere 46 = .ok (.iload_n 2, 1) := by decide +kernel
theorem dX6_residentHere_47 : decode cX6_residentHere 47 = .ok (.iadd, 1) := by decide +kernel
theorem dX6_residentHere_48 : decode cX6_residentHere 48 = .ok (.sipush 4095, 3) := by decide +kernel
theorem dX6_residentHere_51 : decode cX6_residentHere 51 = .ok (.invokevirtual 272, 3) := by decide +kernel
theorem dX6_residentHere_54 : decode cX6_residentHere 54 = .ok (.aload_n 0, 1) := by decide +kernel
theorem dX6_residentHere_55 : decode cX6_residentHere 55 = .ok (.ldc2_w 278, 3) := by decide +kernel
theorem dX6_residentHere_58 : decode cX6_residentHere 58 = .ok (.bipush 49, 2) := by decide +kernel
theorem dX6_residentHere_60 : decode cX6_residentHere 60 = .ok (.iload_n 2, 1) := by decide +kernel
theorem dX6_residentHere_61 : decode cX6_residentHere 61 = .ok (.iadd, 1) := by decide +kernel
theorem dX6_residentHere_62 : decode cX6_residentHere 62 = .ok (.bipush 99, 2) := by decide +kernel
theorem dX6_residentHere_64 : decode cX6_residentHere 64 = .ok (.invokevirtual 272, 3) := by decide +kernel
theorem dX6_residentHere_67 : decode cX6_residentHere 67 = .ok (.aload_n 0, 1) := by decide +kernel
theorem dX6_residentHere_68 : decode cX6_residentHere 68 = .ok (.getfield 240, 3) := by decide +kernel
theorem dX6_residentHere_71 : decode cX6_residentHere 71 = .ok (.ifCond .ge 24, 3) := by decide +kernel
theorem dX6_residentHere_74 : decode cX6_residentHere 74 = .ok (.aload_n 0, 1) := by decide +kernel
theorem dX6_residentHere_75 : decode cX6_residentHere 75 = .ok (.ldc2_w 280, 3) := by decide +kernel
theorem dX6_residentHere_78 : decode cX6_residentHere 78 = .ok (.invokevirtual 245, 3) := by decide +kernel
theorem dX6_residentHere_81 : decode cX6_residentHere 81 = .ok (.ifCond .eq 14, 3) := by decide +kernel
theorem dX6_residentHere_84 : decode cX6_residentHere 84 = .ok (.aload_n 0, 1) := by decide +kernel
theorem dX6_residentHere_85 : decode cX6_residentHere 85 = .ok (.iload_n 2, 1) := by decide +kernel
theorem dX6_residentHere_86 : decode cX6_residentHere 86 = .ok (.iconst 5, 1) := by decide +kernel
theorem dX6_residentHere_87 : decode cX6_residentHere 87 = .ok (.iconst 1, 1) := by decide +kernel
theorem dX6_residentHere_88 : decode cX6_residentHere 88 = .ok (.invokevirtual 90, 3) := by decide +kernel
theorem dX6_residentHere_91 : decode cX6_residentHere 91 = .ok (.aload_n 0, 1) := by decide +kernel
theorem dX6_residentHere_92 : decode cX6_residentHere 92 = .ok (.invokevirtual 264, 3) := by decide +kernel
theorem dX6_residentHere_95 : decode cX6_residentHere 95 = .ok (.return_, 1) := by decide +kernel
set_option maxRecDepth 20000 in
theorem ggX6_crierHere_X6_next : GoodIn wsX6_crierHere wsX6_next := goodIn_r _ [9, 10, 11, 12, 13, 14, 15, 16, 17, 18, 19, 20, 21, 22, 8, 23, 24, 25, 26, 27, 28, 29, 30, 47, 48, 49, 50, 51, 52, 53, 54, 55, 56, 57, 58, 59, 60, 61, 62, 63] (by decide +kernel) (by decide +kernel)
set_option maxRecDepth 20000 in
theorem gX6_crierHere_X6_next : GoodIn wsX6_crierHere (wsV RX6 264 RX6 yX6_next wsX6_next) := goodIn_app (goodIn_of _ (by decide +kernel)) ggX6_crierHere_X6_next
set_option maxRecDepth 20000 in
theorem ggX6_crierHere_X6_numberHere : GoodIn wsX6_crierHere wsX6_numberHere := goodIn_r _ [34, 12, 14, 35, 36, 37, 8, 38, 1, 11, 5, 6, 7, 9, 10, 13, 15, 16, 17, 18, 19, 20, 21, 22, 23, 24, 25, 26, 27, 28, 29, 30, 47, 48, 49, 50, 51, 52, 53, 54, 55, 56, 57, 58, 59, 60, 61, 62, 63] (by decide +kernel) (by decide +kernel)
set_option maxRecDepth 20000 in
theorem gX6_crierHere_X6_numberHere : GoodIn wsX6_crierHere (wsV RX6 267 RX6 yX6_numberHere wsX6_numberHere) := goodIn_app (goodIn_of _ (by decide +kernel)) ggX6_crierHere_X6_numberHere
set_option maxRecDepth 20000 in
theorem ggX6_crierHere_X6_perhaps : GoodIn wsX6_crierHere wsX6_perhaps := goodIn_r _ [42, 1, 2, 43, 44, 45, 8, 46, 14, 12, 5, 6, 7, 9, 10, 11, 13, 15, 16, 17, 18, 19, 20, 21, 22, 23, 24, 25, 26, 27, 28, 29, 30, 31, 32, 33, 34, 35, 36, 37, 38, 47, 48, 49, 50, 51, 52, 53, 54, 55, 56, 57, 58, 59, 60, 61, 62, 63] (by decide +kernel) (by decide +kernel)
set_option maxRecDepth 20000 in
theorem gX6_crierHere_X6_perhaps : GoodIn wsX6_crierHere (wsV RX6 272 RX6 yX6_perhaps wsX6_perhaps) := goodIn_app (goodIn_of _ (by decide +kernel)) ggX6_crierHere_X6_perhaps
theorem dX6_crierHere_0 : decode cX6_crierHere 0 = .ok (.aload_n 0, 1) := by decide +kernel
theorem dX6_crierHere_1 : decode cX6_crierHere 1 = .ok (.invokevirtual 264, 3) := by decide +kernel
theorem dX6_crierHere_4 : decode cX6_crierHere 4 = .ok (.aload_n 0, 1) := by decide +kernel
theorem dX6_crierHere_5 : decode cX6_crierHere 5 = .ok (.bipush 15, 2) := by decide +kernel
theorem dX6_crierHere_7 : decode cX6_crierHere 7 = .ok (.invokevirtual 267, 3) := by decide +kernel
theorem dX6_crierHere_10 : decode cX6_crierHere 10 = .ok (.istore_n 1, 1) := by decide +kernel
theorem dX6_crierHere_11 : decode cX6_crierHere 11 = .ok (.aload_n 0, 1) := by decide +kernel
theorem dX6_crierHere_12 : decode cX6_crierHere 12 = .ok (.getfield 240, 3) := by decide +kernel
theorem dX6_crierHere_15 : decode cX6_crierHere 15 = .ok (.ifCond .ge 10, 3) := by decide +kernel
theorem dX6_crierHere_18 : decode cX6_crierHere 18 = .ok (.aload_n 0, 1) := by decide +kernel
theorem dX6_crierHere_19 : decode cX6_crierHere 19 = .ok (.getfield 7, 3) := by decide +kernel
theorem dX6_crierHere_22 : decode cX6_crierHere 22 = .ok (.iconst 3, 1) := by decide +kernel
theorem dX6_crierHere_23 : decode cX6_crierHere 23 = .ok (.iload_n 1, 1) := by decide +kernel
theorem dX6_crierHere_24 : decode cX6_crierHere 24 = .ok (.iastore, 1) := by decide +kernel
theorem dX6_crierHere_25 : decode cX6_crierHere 25 = .ok (.aload_n 0, 1) := by decide +kernel
theorem dX6_crierHere_26 : decode cX6_crierHere 26 = .ok (.ldc2_w 282, 3) := by decide +kernel
theorem dX6_crierHere_29 : decode cX6_crierHere 29 = .ok (.iconst 4, 1) := by decide +kernel
theorem dX6_crierHere_30 : decode cX6_crierHere 30 = .ok (.iconst 5, 1) := by decide +kernel
theorem dX6_crierHere_31 : decode cX6_crierHere 31 = .ok (.invokevirtual 272, 3) := by decide +kernel
theorem dX6_crierHere_34 : decode cX6_crierHere 34 = .ok (.aload_n 0, 1) := by decide +kernel
theorem dX6_crierHere_35 : decode cX6_crierHere 35 = .ok (.ldc2_w 284, 3) := by decide +kernel
theorem dX6_crierHere_38 : decode cX6_crierHere 38 = .ok (.iconst 5, 1) := by decide +kernel
theorem dX6_crierHere_39 : decode cX6_crierHere 39 = .ok (.bipush 9, 2) := by decide +kernel
theorem dX6_crierHere_41 : decode cX6_crierHere 41 = .ok (.invokevirtual 272, 3) := by decide +kernel
theorem dX6_crierHere_44 : decode cX6_crierHere 44 = .ok (.return_, 1) := by decide +kernel
set_option maxRecDepth 20000 in
theorem ggX6_cryHere_X6_next : GoodIn wsX6_cryHere wsX6_next := goodIn_r _ [7, 8, 9, 10, 11, 12, 13, 14, 15, 16, 17, 18, 19, 20, 6, 21, 22, 23, 24, 25, 26, 27, 28, 37, 38, 39, 40, 41, 42, 43, 44, 45, 46, 47, 48, 49, 50, 51, 52, 53] (by decide +kernel) (by decide +kernel)
set_option maxRecDepth 20000 in
theorem gX6_cryHere_X6_next : GoodIn wsX6_cryHere (wsV RX6 264 RX6 yX6_next wsX6_next) := goodIn_app (goodIn_of _ (by decide +kernel)) ggX6_cryHere_X6_next
set_option maxRecDepth 20000 in
theorem ggX6_cryHere_X6_numberHere : GoodIn wsX6_cryHere wsX6_numberHere := goodIn_r _ [32, 10, 12, 33, 34, 35, 6, 36, 1, 9, 3, 4, 5, 7, 8, 11, 13, 14, 15, 16, 17, 18, 19, 20, 21, 22, 23, 24, 25, 26, 27, 28, 37, 38, 39, 40, 41, 42, 43, 44, 45, 46, 47, 48, 49, 50, 51, 52, 53] (by decide +kernel) (by decide +kernel)
set_option maxRecDepth 20000 in
theorem gX6_cryHere_X6_numberHere : GoodIn wsX6_cryHere (wsV RX6 267 RX6 yX6_numberHere wsX6_numberHere) := goodIn_app (goodIn_of _ (by decide +kernel)) ggX6_cryHere_X6_numberHere
theorem dX6_cryHere_0 : decode cX6_cryHere 0 = .ok (.aload_n 0, 1) := by decide +kernel
theorem dX6_cryHere_1 : decode cX6_cryHere 1 = .ok (.invokevirtual 264, 3) := by decide +kernel
theorem dX6_cryHere_4 : decode cX6_cryHere 4 = .ok (.aload_n 0, 1) := by decide +kernel
theorem dX6_cryHere_5 : decode cX6_cryHere 5 = .ok (.iconst 5, 1) := by decide +kernel
theorem dX6_cryHere_6 : decode cX6_cryHere 6 = .ok (.invokevirtual 267, 3) := by decide +kernel
theorem dX6_cryHere_9 : decode cX6_cryHere 9 = .ok (.istore_n 1, 1) := by decide +kernel
theorem dX6_cryHere_10 : decode cX6_cryHere 10 = .ok (.aload_n 0, 1) := by decide +kernel
theorem dX6_cryHere_11 : decode cX6_cryHere 11 = .ok (.getfield 240, 3) := by decide +kernel
theorem dX6_cryHere_14 : decode cX6_cryHere 14 = .ok (.ifCond .ge 12, 3) := by decide +kernel
theorem dX6_cryHere_17 : decode cX6_cryHere 17 = .ok (.aload_n 0, 1) := by decide +kernel
theorem dX6_cryHere_18 : decode cX6_cryHere 18 = .ok (.bipush 11, 2) := by decide +kernel
theorem dX6_cryHere_20 : decode cX6_cryHere 20 = .ok (.invokevirtual 267, 3) := by decide +kernel
theorem dX6_cryHere_23 : decode cX6_cryHere 23 = .ok (.goto 4, 3) := by decide +kernel
theorem dX6_cryHere_26 : decode cX6_cryHere 26 = .ok (.iconst 0, 1) := by decide +kernel
theorem dX6_cryHere_27 : decode cX6_cryHere 27 = .ok (.istore_n 2, 1) := by decide +kernel
theorem dX6_cryHere_28 : decode cX6_cryHere 28 = .ok (.aload_n 0, 1) := by decide +kernel
theorem dX6_cryHere_29 : decode cX6_cryHere 29 = .ok (.getfield 240, 3) := by decide +kernel
theorem dX6_cryHere_32 : decode cX6_cryHere 32 = .ok (.ifCond .ge 13, 3) := by decide +kernel
theorem dX6_cryHere_35 : decode cX6_cryHere 35 = .ok (.aload_n 0, 1) := by decide +kernel
theorem dX6_cryHere_36 : decode cX6_cryHere 36 = .ok (.getfield 7, 3) := by decide +kernel
theorem dX6_cryHere_39 : decode cX6_cryHere 39 = .ok (.bipush 7, 2) := by decide +kernel
theorem dX6_cryHere_41 : decode cX6_cryHere 41 = .ok (.iload_n 1, 1) := by decide +kernel
theorem dX6_cryHere_42 : decode cX6_cryHere 42 = .ok (.iadd, 1) := by decide +kernel
theorem dX6_cryHere_43 : decode cX6_cryHere 43 = .ok (.iload_n 2, 1) := by decide +kernel
theorem dX6_cryHere_44 : decode cX6_cryHere 44 = .ok (.iastore, 1) := by decide +kernel
theorem dX6_cryHere_45 : decode cX6_cryHere 45 = .ok (.return_, 1) := by decide +kernel
set_option maxRecDepth 20000 in
theorem ggX6_item_X6_kindHere : GoodIn wsX6_item wsX6_kindHere := goodIn_r _ [7, 8, 9, 10, 11, 12, 13, 14, 15, 16, 17, 6, 18, 19, 20, 84, 85, 86, 87, 88, 89, 90, 91, 92, 93, 94, 95, 96, 97, 98, 99, 100] (by decide +kernel) (by decide +kernel)
set_option maxRecDepth 20000 in
theorem gX6_item_X6_kindHere : GoodIn wsX6_item (wsV RX6 286 RX6 yX6_kindHere wsX6_kindHere) := goodIn_app (goodIn_of _ (by decide +kernel)) ggX6_item_X6_kindHere
set_option maxRecDepth 20000 in
theorem ggX6_item_X6_residentHere : GoodIn wsX6_item wsX6_residentHere := goodIn_r _ [24, 25, 26, 27, 28, 29, 30, 31, 32, 33, 6, 34, 35, 36, 37, 38, 39, 40, 20, 41, 19, 42, 43, 44, 45, 46, 47, 48, 49, 50, 51, 52, 53, 54, 55, 56, 57, 58, 59, 60, 61, 62, 63, 64, 65, 66, 67, 68, 69, 15, 16, 17, 18, 70, 71, 72, 73, 84, 85, 86, 87, 88, 89, 90, 91, 92, 93, 94, 95, 96, 97, 98, 99, 100] (by decide +kernel) (by decide +kernel)
set_option maxRecDepth 20000 in
theorem gX6_item_X6_residentHere : GoodIn wsX6_item (wsV RX6 289 RX6 yX6_residentHere wsX6_residentHere) := goodIn_app (goodIn_of _ (by decide +kernel)) ggX6_item_X6_residentHere
set_option maxRecDepth 20000 in
theorem ggX6_item_X6_isWord : GoodIn wsX6_item wsX6_isWord := goodIn_r _ [18, 19, 20, 84, 85, 86, 87, 88, 89, 90, 91, 92, 93, 94, 95, 96, 97, 98, 99, 100] (by decide +kernel) (by decide +kernel)
set_option maxRecDepth 20000 in
theorem gX6_item_X6_isWord : GoodIn wsX6_item (wsV RX6 245 RX6 yX6_isWord wsX6_isWord) := goodIn_app (goodIn_of _ (by decide +kernel)) ggX6_item_X6_isWord
set_option maxRecDepth 20000 in
theorem ggX6_item_X6_crierHere : GoodIn wsX6_item wsX6_crierHere := goodIn_r _ [77, 29, 25, 78, 79, 36, 37, 38, 6, 39, 40, 35, 20, 41, 19, 42, 43, 44, 45, 46, 47, 48, 49, 50, 51, 52, 53, 54, 55, 56, 57, 70, 71, 72, 73, 31, 32, 33, 34, 66, 67, 68, 69, 15, 16, 17, 18, 84, 85, 86, 87, 88, 89, 90, 91, 92, 93, 94, 95, 96, 97, 98, 99, 100] (by decide +kernel) (by decide +kernel)
set_option maxRecDepth 20000 in
theorem gX6_item_X6_crierHere : GoodIn wsX6_item (wsV RX6 294 RX6 yX6_crierHere wsX6_crierHere) := goodIn_app (goodIn_of _ (by decide +kernel)) ggX6_item_X6_crierHere
set_option maxRecDepth 20000 in
theorem ggX6_item_X6_cryHere : GoodIn wsX6_item wsX6_cryHere := goodIn_r _ [83, 29, 25, 36, 37, 38, 6, 39, 40, 35, 20, 41, 19, 42, 43, 44, 45, 46, 47, 48, 49, 50, 51, 52, 53, 54, 55, 56, 57, 70, 71, 72, 73, 31, 32, 33, 34, 84, 85, 86, 87, 88, 89, 90, 91, 92, 93, 94, 95, 96, 97, 98, 99, 100] (by decide +kernel) (by decide +kernel)
set_option maxRecDepth 20000 in
theorem gX6_item_X6_cryHere : GoodIn wsX6_item (wsV RX6 299 RX6 yX6_cryHere wsX6_cryHere) := goodIn_app (goodIn_of _ (by decide +kernel)) ggX6_item_X6_cryHere
set_option maxRecDepth 20000 in
theorem ggX6_item_X6_wrongHere : GoodIn wsX6_item wsX6_wrongHere := goodIn_r _ [34, 29, 35, 84, 85, 86, 87, 88, 89, 90, 91, 92, 93, 94, 95, 96, 97, 98, 99, 100] (by decide +kernel) (by decide +kernel)
set_option maxRecDepth 20000 in
theorem gX6_item_X6_wrongHere : GoodIn wsX6_item (wsV RX6 261 RX6 yX6_wrongHere wsX6_wrongHere) := goodIn_app (goodIn_of _ (by decide +kernel)) ggX6_item_X6_wrongHere
theorem dX6_item_0 : decode cX6_item 0 = .ok (.aload_n 0, 1) := by decide +kernel
theorem dX6_item_1 : decode cX6_item 1 = .ok (.invokevirtual 286, 3) := by decide +kernel
theorem dX6_item_4 : decode cX6_item 4 = .ok (.istore_n 1, 1) := by decide +kernel
theorem dX6_item_5 : decode cX6_item 5 = .ok (.iload_n 1, 1) := by decide +kernel
theorem dX6_item_6 : decode cX6_item 6 = .ok (.ifCond .lt 11, 3) := by decide +kernel
theorem dX6_item_9 : decode cX6_item 9 = .ok (.aload_n 0, 1) := by decide +kernel
theorem dX6_item_10 : decode cX6_item 10 = .ok (.iload_n 1, 1) := by decide +kernel
theorem dX6_item_11 : decode cX6_item 11 = .ok (.invokevirtual 289, 3) := by decide +kernel
theorem dX6_item_14 : decode cX6_item 14 = .ok (.goto 41, 3) := by decide +kernel
theorem dX6_item_17 : decode cX6_item 17 = .ok (.aload_n 0, 1) := by decide +kernel
theorem dX6_item_18 : decode cX6_item 18 = .ok (.ldc2_w 292, 3) := by decide +kernel
theorem dX6_item_21 : decode cX6_item 21 = .ok (.invokevirtual 245, 3) := by decide +kernel
theorem dX6_item_24 : decode cX6_item 24 = .ok (.ifCond .eq 10, 3) := by decide +kernel
theorem dX6_item_27 : decode cX6_item 27 = .ok (.aload_n 0, 1) := by decide +kernel
theorem dX6_item_28 : decode cX6_item 28 = .ok (.invokevirtual 294, 3) := by decide +kernel
theorem dX6_item_31 : decode cX6_item 31 = .ok (.goto 24, 3) := by decide +kernel
theorem dX6_item_34 : decode cX6_item 34 = .ok (.aload_n 0, 1) := by decide +kernel
theorem dX6_item_35 : decode cX6_item 35 = .ok (.ldc2_w 297, 3) := by decide +kernel
theorem dX6_item_38 : decode cX6_item 38 = .ok (.invokevirtual 245, 3) := by decide +kernel
theorem dX6_item_41 : decode cX6_item 41 = .ok (.ifCond .eq 10, 3) := by decide +kernel
theorem dX6_item_44 : decode cX6_item 44 = .ok (.aload_n 0, 1) := by decide +kernel
theorem dX6_item_45 : decode cX6_item 45 = .ok (.invokevirtual 299, 3) := by decide +kernel
theorem dX6_item_48 : decode cX6_item 48 = .ok (.goto 7, 3) := by decide +kernel
theorem dX6_item_51 : decode cX6_item 51 = .ok (.aload_n 0, 1) := by decide +kernel
theorem dX6_item_52 : decode cX6_item 52 = .ok (.invokevirtual 261, 3) := by decide +kernel
theorem dX6_item_55 : decode cX6_item 55 = .ok (.return_, 1) := by decide +kernel
set_option maxRecDepth 20000 in
theorem ggX6_items_X6_next : GoodIn wsX6_items wsX6_next := goodIn_r _ [8, 1, 9, 10, 11, 3, 12, 13, 14, 15, 16, 17, 18, 19, 7, 20, 21, 22, 23, 24, 25, 26, 27, 88, 89, 90, 91, 92, 93, 94, 95, 96, 97, 98, 99, 100, 101, 102, 103, 104] (by decide +kernel) (by decide +kernel)
set_option maxRecDepth 20000 in
theorem gX6_items_X6_next : GoodIn wsX6_items (wsV RX6 264 RX6 yX6_next wsX6_next) := goodIn_app (goodIn_of _ (by decide +kernel)) ggX6_items_X6_next
set_option maxRecDepth 20000 in
theorem ggX6_items_X6_item : GoodIn wsX6_items wsX6_item := goodIn_r _ [31, 32, 33, 34, 35, 36, 7, 37, 38, 39, 40, 41, 42, 43, 44, 45, 46, 47, 48, 3, 10, 49, 50, 51, 52, 53, 54, 55, 56, 2, 57, 58, 59, 60, 61, 9, 4, 5, 6, 8, 1, 11, 12, 13, 14, 15, 16, 17, 18, 19, 20, 21, 22, 23, 24, 25, 26, 27, 62, 63, 64, 65, 66, 67, 68, 69, 70, 71, 72, 73, 74, 75, 76, 77, 78, 79, 80, 81, 82, 83, 84, 85, 86, 87, 88, 89, 90, 91, 92, 93, 94, 95, 96, 97, 98, 99, 100, 101, 102, 103, 104] (by decide +kernel) (by decide +kernel)
set_option maxRecDepth 20000 in
theorem gX6_items_X6_item : GoodIn wsX6_items (wsV RX6 302 RX6 yX6_item wsX6_item) := goodIn_app (goodIn_of _ (by decide +kernel)) ggX6_items_X6_item
set_option maxRecDepth 20000 in
theorem ggX6_items_X6_wrongHere : GoodIn wsX6_items wsX6_wrongHere := goodIn_r _ [61, 2, 9, 88, 89, 90, 91, 92, 93, 94, 95, 96, 97, 98, 99, 100, 101, 102, 103, 104] (by decide +kernel) (by decide +kernel)
set_option maxRecDepth 20000 in
theorem gX6_items_X6_wrongHere : GoodIn wsX6_items (wsV RX6 261 RX6 yX6_wrongHere wsX6_wrongHere) := goodIn_app (goodIn_of _ (by decide +kernel)) ggX6_items_X6_wrongHere
theorem dX6_items_0 : decode cX6_items 0 = .ok (.aload_n 0, 1) := by decide +kernel
theorem dX6_items_1 : decode cX6_items 1 = .ok (.iconst 0, 1) := by decide +kernel
