theorem dX5_judge_67 : decode cX5_judge 67 = .ok (.iinc 4 1, 3) := by decide +kernel
theorem dX5_judge_70 : decode cX5_judge 70 = .ok (.goto (-44), 3) := by decide +kernel
theorem dX5_judge_73 : decode cX5_judge 73 = .ok (.iconst 0, 1) := by decide +kernel
theorem dX5_judge_74 : decode cX5_judge 74 = .ok (.ireturn, 1) := by decide +kernel
set_option maxRecDepth 20000 in
theorem ggX5_image_X2_become : GoodIn wsX5_image wsX2_become := goodIn_r _ [8, 9, 10, 11, 12, 13, 14, 15, 16, 17, 18, 19, 20, 21, 22, 23, 24, 25, 26, 27, 28, 29, 30, 31, 32, 33, 34, 43, 44, 45, 46, 47, 48, 49, 50, 51, 52, 53, 54, 55, 56, 57, 58, 59] (by decide +kernel) (by decide +kernel)
set_option maxRecDepth 20000 in
theorem gX5_image_X2_become : GoodIn wsX5_image (wsV RX5 156 RX2 yX2_become wsX2_become) := goodIn_app (goodIn_of _ (by decide +kernel)) ggX5_image_X2_become
theorem dX5_image_0 : decode cX5_image 0 = .ok (.aload_n 0, 1) := by decide +kernel
theorem dX5_image_1 : decode cX5_image 1 = .ok (.getfield 19, 3) := by decide +kernel
theorem dX5_image_4 : decode cX5_image 4 = .ok (.aload_n 0, 1) := by decide +kernel
theorem dX5_image_5 : decode cX5_image 5 = .ok (.getfield 12, 3) := by decide +kernel
theorem dX5_image_8 : decode cX5_image 8 = .ok (.invokevirtual 156, 3) := by decide +kernel
theorem dX5_image_11 : decode cX5_image 11 = .ok (.aload_n 0, 1) := by decide +kernel
theorem dX5_image_12 : decode cX5_image 12 = .ok (.iconst 1, 1) := by decide +kernel
theorem dX5_image_13 : decode cX5_image 13 = .ok (.putfield 22, 3) := by decide +kernel
theorem dX5_image_16 : decode cX5_image 16 = .ok (.iconst 1, 1) := by decide +kernel
theorem dX5_image_17 : decode cX5_image 17 = .ok (.ireturn, 1) := by decide +kernel
set_option maxRecDepth 20000 in
theorem ggX5_undo_X5_finding : GoodIn wsX5_undo wsX5_finding := goodIn_r _ [10, 11, 12, 13, 14, 9, 15, 47, 48, 49, 50, 51, 52, 53, 54] (by decide +kernel) (by decide +kernel)
set_option maxRecDepth 20000 in
theorem gX5_undo_X5_finding : GoodIn wsX5_undo (wsV RX5 55 RX5 yX5_finding wsX5_finding) := goodIn_app (goodIn_of _ (by decide +kernel)) ggX5_undo_X5_finding
set_option maxRecDepth 20000 in
theorem ggX5_undo_X2_become : GoodIn wsX5_undo wsX2_become := goodIn_r _ [20, 21, 22, 23, 24, 25, 26, 27, 28, 29, 30, 31, 32, 33, 34, 35, 36, 37, 38, 39, 40, 41, 42, 43, 44, 45, 46, 55, 56, 57, 58, 59, 60, 61, 62, 63, 64, 65, 66, 67, 68, 69, 70, 71] (by decide +kernel) (by decide +kernel)
set_option maxRecDepth 20000 in
theorem gX5_undo_X2_become : GoodIn wsX5_undo (wsV RX5 156 RX2 yX2_become wsX2_become) := goodIn_app (goodIn_of _ (by decide +kernel)) ggX5_undo_X2_become
theorem dX5_undo_0 : decode cX5_undo 0 = .ok (.aload_n 0, 1) := by decide +kernel
theorem dX5_undo_1 : decode cX5_undo 1 = .ok (.getfield 22, 3) := by decide +kernel
theorem dX5_undo_4 : decode cX5_undo 4 = .ok (.ifCond .ne 10, 3) := by decide +kernel
theorem dX5_undo_7 : decode cX5_undo 7 = .ok (.aload_n 0, 1) := by decide +kernel
theorem dX5_undo_8 : decode cX5_undo 8 = .ok (.ldc 167, 2) := by decide +kernel
theorem dX5_undo_10 : decode cX5_undo 10 = .ok (.invokevirtual 55, 3) := by decide +kernel
theorem dX5_undo_13 : decode cX5_undo 13 = .ok (.ireturn, 1) := by decide +kernel
theorem dX5_undo_14 : decode cX5_undo 14 = .ok (.aload_n 0, 1) := by decide +kernel
theorem dX5_undo_15 : decode cX5_undo 15 = .ok (.getfield 12, 3) := by decide +kernel
theorem dX5_undo_18 : decode cX5_undo 18 = .ok (.aload_n 0, 1) := by decide +kernel
theorem dX5_undo_19 : decode cX5_undo 19 = .ok (.getfield 19, 3) := by decide +kernel
theorem dX5_undo_22 : decode cX5_undo 22 = .ok (.invokevirtual 156, 3) := by decide +kernel
theorem dX5_undo_25 : decode cX5_undo 25 = .ok (.aload_n 0, 1) := by decide +kernel
theorem dX5_undo_26 : decode cX5_undo 26 = .ok (.getfield 12, 3) := by decide +kernel
theorem dX5_undo_29 : decode cX5_undo 29 = .ok (.getfield 122, 3) := by decide +kernel
theorem dX5_undo_32 : decode cX5_undo 32 = .ok (.ireturn, 1) := by decide +kernel
theorem dX5_tear_0 : decode cX5_tear 0 = .ok (.aload_n 0, 1) := by decide +kernel
theorem dX5_tear_1 : decode cX5_tear 1 = .ok (.getfield 22, 3) := by decide +kernel
theorem dX5_tear_4 : decode cX5_tear 4 = .ok (.ifCond .eq 7, 3) := by decide +kernel
theorem dX5_tear_7 : decode cX5_tear 7 = .ok (.iconst 1, 1) := by decide +kernel
theorem dX5_tear_8 : decode cX5_tear 8 = .ok (.goto 4, 3) := by decide +kernel
theorem dX5_tear_11 : decode cX5_tear 11 = .ok (.iconst 0, 1) := by decide +kernel
theorem dX5_tear_12 : decode cX5_tear 12 = .ok (.istore_n 1, 1) := by decide +kernel
theorem dX5_tear_13 : decode cX5_tear 13 = .ok (.aload_n 0, 1) := by decide +kernel
theorem dX5_tear_14 : decode cX5_tear 14 = .ok (.iconst 0, 1) := by decide +kernel
theorem dX5_tear_15 : decode cX5_tear 15 = .ok (.putfield 22, 3) := by decide +kernel
theorem dX5_tear_18 : decode cX5_tear 18 = .ok (.iload_n 1, 1) := by decide +kernel
theorem dX5_tear_19 : decode cX5_tear 19 = .ok (.ireturn, 1) := by decide +kernel
set_option maxRecDepth 20000 in
theorem ggX5_count_X2_allStood : GoodIn wsX5_count wsX2_allStood := goodIn_r _ [13, 14, 15, 16, 44, 45, 46, 47, 48, 49, 50, 51, 52, 53, 54, 61, 62, 63, 64, 65, 66] (by decide +kernel) (by decide +kernel)
set_option maxRecDepth 20000 in
theorem gX5_count_X2_allStood : GoodIn wsX5_count (wsV RX5 144 RX2 yX2_allStood wsX2_allStood) := goodIn_app (goodIn_of _ (by decide +kernel)) ggX5_count_X2_allStood
set_option maxRecDepth 20000 in
theorem ggX5_count_X2_allHope : GoodIn wsX5_count wsX2_allHope := goodIn_r _ [20, 14, 15, 21, 44, 45, 46, 47, 48, 49, 50, 51, 52, 53, 54, 61, 62, 63, 64, 65, 66] (by decide +kernel) (by decide +kernel)
set_option maxRecDepth 20000 in
theorem gX5_count_X2_allHope : GoodIn wsX5_count (wsV RX5 141 RX2 yX2_allHope wsX2_allHope) := goodIn_app (goodIn_of _ (by decide +kernel)) ggX5_count_X2_allHope
set_option maxRecDepth 20000 in
theorem ggX5_count_X2_heldSpots : GoodIn wsX5_count wsX2_heldSpots := goodIn_r _ [25, 26, 44, 45, 46, 47, 48, 49, 50, 51, 52, 53, 54] (by decide +kernel) (by decide +kernel)
set_option maxRecDepth 20000 in
theorem gX5_count_X2_heldSpots : GoodIn wsX5_count (wsV RX5 284 RX2 yX2_heldSpots wsX2_heldSpots) := goodIn_app (goodIn_of _ (by decide +kernel)) ggX5_count_X2_heldSpots
set_option maxRecDepth 20000 in
theorem ggX5_count_X5_finding : GoodIn wsX5_count wsX5_finding := goodIn_r _ [31, 8, 32, 33, 34, 30, 35, 36, 37, 38, 39, 40, 41, 42, 43] (by decide +kernel) (by decide +kernel)
set_option maxRecDepth 20000 in
theorem gX5_count_X5_finding : GoodIn wsX5_count (wsV RX5 55 RX5 yX5_finding wsX5_finding) := goodIn_app (goodIn_of _ (by decide +kernel)) ggX5_count_X5_finding
theorem dX5_count_0 : decode cX5_count 0 = .ok (.iload_n 1, 1) := by decide +kernel
theorem dX5_count_1 : decode cX5_count 1 = .ok (.tableswitch 111 0 7 #[47, 55, 63, 71, 79, 87, 95, 103], 47) := by decide +kernel
theorem dX5_count_48 : decode cX5_count 48 = .ok (.aload_n 0, 1) := by decide +kernel
theorem dX5_count_49 : decode cX5_count 49 = .ok (.getfield 12, 3) := by decide +kernel
theorem dX5_count_52 : decode cX5_count 52 = .ok (.getfield 122, 3) := by decide +kernel
theorem dX5_count_55 : decode cX5_count 55 = .ok (.ireturn, 1) := by decide +kernel
theorem dX5_count_56 : decode cX5_count 56 = .ok (.aload_n 0, 1) := by decide +kernel
theorem dX5_count_57 : decode cX5_count 57 = .ok (.getfield 12, 3) := by decide +kernel
theorem dX5_count_60 : decode cX5_count 60 = .ok (.getfield 174, 3) := by decide +kernel
theorem dX5_count_63 : decode cX5_count 63 = .ok (.ireturn, 1) := by decide +kernel
theorem dX5_count_64 : decode cX5_count 64 = .ok (.aload_n 0, 1) := by decide +kernel
theorem dX5_count_65 : decode cX5_count 65 = .ok (.getfield 12, 3) := by decide +kernel
theorem dX5_count_68 : decode cX5_count 68 = .ok (.getfield 131, 3) := by decide +kernel
theorem dX5_count_71 : decode cX5_count 71 = .ok (.ireturn, 1) := by decide +kernel
theorem dX5_count_72 : decode cX5_count 72 = .ok (.aload_n 0, 1) := by decide +kernel
theorem dX5_count_73 : decode cX5_count 73 = .ok (.getfield 12, 3) := by decide +kernel
theorem dX5_count_76 : decode cX5_count 76 = .ok (.invokevirtual 144, 3) := by decide +kernel
theorem dX5_count_79 : decode cX5_count 79 = .ok (.ireturn, 1) := by decide +kernel
theorem dX5_count_80 : decode cX5_count 80 = .ok (.aload_n 0, 1) := by decide +kernel
theorem dX5_count_81 : decode cX5_count 81 = .ok (.getfield 12, 3) := by decide +kernel
theorem dX5_count_84 : decode cX5_count 84 = .ok (.invokevirtual 141, 3) := by decide +kernel
theorem dX5_count_87 : decode cX5_count 87 = .ok (.ireturn, 1) := by decide +kernel
theorem dX5_count_88 : decode cX5_count 88 = .ok (.aload_n 0, 1) := by decide +kernel
theorem dX5_count_89 : decode cX5_count 89 = .ok (.getfield 33, 3) := by decide +kernel
theorem dX5_count_92 : decode cX5_count 92 = .ok (.getfield 217, 3) := by decide +kernel
theorem dX5_count_95 : decode cX5_count 95 = .ok (.ireturn, 1) := by decide +kernel
theorem dX5_count_96 : decode cX5_count 96 = .ok (.aload_n 0, 1) := by decide +kernel
theorem dX5_count_97 : decode cX5_count 97 = .ok (.getfield 12, 3) := by decide +kernel
theorem dX5_count_100 : decode cX5_count 100 = .ok (.getfield 214, 3) := by decide +kernel
theorem dX5_count_103 : decode cX5_count 103 = .ok (.ireturn, 1) := by decide +kernel
theorem dX5_count_104 : decode cX5_count 104 = .ok (.aload_n 0, 1) := by decide +kernel
theorem dX5_count_105 : decode cX5_count 105 = .ok (.getfield 12, 3) := by decide +kernel
theorem dX5_count_108 : decode cX5_count 108 = .ok (.invokevirtual 284, 3) := by decide +kernel
theorem dX5_count_111 : decode cX5_count 111 = .ok (.ireturn, 1) := by decide +kernel
theorem dX5_count_112 : decode cX5_count 112 = .ok (.aload_n 0, 1) := by decide +kernel
theorem dX5_count_113 : decode cX5_count 113 = .ok (.ldc 54, 2) := by decide +kernel
theorem dX5_count_115 : decode cX5_count 115 = .ok (.invokevirtual 55, 3) := by decide +kernel
theorem dX5_count_118 : decode cX5_count 118 = .ok (.ireturn, 1) := by decide +kernel
set_option maxRecDepth 20000 in
theorem ggX5_status_X5_isWithin : GoodIn wsX5_status wsX5_isWithin := goodIn_r _ [6] (by decide +kernel) (by decide +kernel)
set_option maxRecDepth 20000 in
theorem gX5_status_X5_isWithin : GoodIn wsX5_status (va_wsS RX5 47 yX5_isWithin wsX5_isWithin) := goodIn_app (goodIn_of _ (by decide +kernel)) ggX5_status_X5_isWithin
set_option maxRecDepth 20000 in
theorem ggX5_status_X5_finding : GoodIn wsX5_status wsX5_finding := goodIn_r _ [10, 1, 2, 3, 4, 5, 6, 11, 12, 13, 14, 15, 16, 17, 18] (by decide +kernel) (by decide +kernel)
set_option maxRecDepth 20000 in
theorem gX5_status_X5_finding : GoodIn wsX5_status (wsV RX5 55 RX5 yX5_finding wsX5_finding) := goodIn_app (goodIn_of _ (by decide +kernel)) ggX5_status_X5_finding
theorem dX5_status_0 : decode cX5_status 0 = .ok (.iload_n 1, 1) := by decide +kernel
theorem dX5_status_1 : decode cX5_status 1 = .ok (.iconst (-1), 1) := by decide +kernel
theorem dX5_status_2 : decode cX5_status 2 = .ok (.bipush 6, 2) := by decide +kernel
theorem dX5_status_4 : decode cX5_status 4 = .ok (.invokestatic 47, 3) := by decide +kernel
theorem dX5_status_7 : decode cX5_status 7 = .ok (.ifCond .ne 10, 3) := by decide +kernel
theorem dX5_status_10 : decode cX5_status 10 = .ok (.aload_n 0, 1) := by decide +kernel
theorem dX5_status_11 : decode cX5_status 11 = .ok (.ldc 54, 2) := by decide +kernel
theorem dX5_status_13 : decode cX5_status 13 = .ok (.invokevirtual 55, 3) := by decide +kernel
theorem dX5_status_16 : decode cX5_status 16 = .ok (.ireturn, 1) := by decide +kernel
theorem dX5_status_17 : decode cX5_status 17 = .ok (.iload_n 1, 1) := by decide +kernel
theorem dX5_status_18 : decode cX5_status 18 = .ok (.ifCond .lt 10, 3) := by decide +kernel
theorem dX5_status_21 : decode cX5_status 21 = .ok (.aload_n 0, 1) := by decide +kernel
theorem dX5_status_22 : decode cX5_status 22 = .ok (.getfield 44, 3) := by decide +kernel
theorem dX5_status_25 : decode cX5_status 25 = .ok (.iload_n 1, 1) := by decide +kernel
theorem dX5_status_26 : decode cX5_status 26 = .ok (.iaload, 1) := by decide +kernel
theorem dX5_status_27 : decode cX5_status 27 = .ok (.ireturn, 1) := by decide +kernel
theorem dX5_status_28 : decode cX5_status 28 = .ok (.iconst 0, 1) := by decide +kernel
theorem dX5_status_29 : decode cX5_status 29 = .ok (.istore_n 2, 1) := by decide +kernel
theorem dX5_status_30 : decode cX5_status 30 = .ok (.iconst 0, 1) := by decide +kernel
theorem dX5_status_31 : decode cX5_status 31 = .ok (.istore_n 3, 1) := by decide +kernel
theorem dX5_status_32 : decode cX5_status 32 = .ok (.iload_n 3, 1) := by decide +kernel
theorem dX5_status_33 : decode cX5_status 33 = .ok (.bipush 7, 2) := by decide +kernel
theorem dX5_status_35 : decode cX5_status 35 = .ok (.if_icmp .ge 18, 3) := by decide +kernel
theorem dX5_status_38 : decode cX5_status 38 = .ok (.iload_n 2, 1) := by decide +kernel
theorem dX5_status_39 : decode cX5_status 39 = .ok (.aload_n 0, 1) := by decide +kernel
theorem dX5_status_40 : decode cX5_status 40 = .ok (.getfield 44, 3) := by decide +kernel
theorem dX5_status_43 : decode cX5_status 43 = .ok (.iload_n 3, 1) := by decide +kernel
theorem dX5_status_44 : decode cX5_status 44 = .ok (.iaload, 1) := by decide +kernel
theorem dX5_status_45 : decode cX5_status 45 = .ok (.iadd, 1) := by decide +kernel
theorem dX5_status_46 : decode cX5_status 46 = .ok (.istore_n 2, 1) := by decide +kernel
theorem dX5_status_47 : decode cX5_status 47 = .ok (.iinc 3 1, 3) := by decide +kernel
theorem dX5_status_50 : decode cX5_status 50 = .ok (.goto (-18), 3) := by decide +kernel
theorem dX5_status_53 : decode cX5_status 53 = .ok (.iload_n 2, 1) := by decide +kernel
theorem dX5_status_54 : decode cX5_status 54 = .ok (.ireturn, 1) := by decide +kernel
set_option maxRecDepth 20000 in
theorem ggX5_finding_X5_isWithin : GoodIn wsX5_finding wsX5_isWithin := goodIn_r _ [6] (by decide +kernel) (by decide +kernel)
set_option maxRecDepth 20000 in
theorem gX5_finding_X5_isWithin : GoodIn wsX5_finding (va_wsS RX5 47 yX5_isWithin wsX5_isWithin) := goodIn_app (goodIn_of _ (by decide +kernel)) ggX5_finding_X5_isWithin
theorem dX5_finding_0 : decode cX5_finding 0 = .ok (.ldc 54, 2) := by decide +kernel
theorem dX5_finding_2 : decode cX5_finding 2 = .ok (.iload_n 1, 1) := by decide +kernel
theorem dX5_finding_3 : decode cX5_finding 3 = .ok (.isub, 1) := by decide +kernel
theorem dX5_finding_4 : decode cX5_finding 4 = .ok (.istore_n 2, 1) := by decide +kernel
theorem dX5_finding_5 : decode cX5_finding 5 = .ok (.iload_n 2, 1) := by decide +kernel
theorem dX5_finding_6 : decode cX5_finding 6 = .ok (.iconst 0, 1) := by decide +kernel
theorem dX5_finding_7 : decode cX5_finding 7 = .ok (.bipush 6, 2) := by decide +kernel
theorem dX5_finding_9 : decode cX5_finding 9 = .ok (.invokestatic 47, 3) := by decide +kernel
theorem dX5_finding_12 : decode cX5_finding 12 = .ok (.ifCond .eq 13, 3) := by decide +kernel
theorem dX5_finding_15 : decode cX5_finding 15 = .ok (.aload_n 0, 1) := by decide +kernel
theorem dX5_finding_16 : decode cX5_finding 16 = .ok (.getfield 44, 3) := by decide +kernel
theorem dX5_finding_19 : decode cX5_finding 19 = .ok (.iload_n 2, 1) := by decide +kernel
theorem dX5_finding_20 : decode cX5_finding 20 = .ok (.dup2, 1) := by decide +kernel
theorem dX5_finding_21 : decode cX5_finding 21 = .ok (.iaload, 1) := by decide +kernel
theorem dX5_finding_22 : decode cX5_finding 22 = .ok (.iconst 1, 1) := by decide +kernel
theorem dX5_finding_23 : decode cX5_finding 23 = .ok (.iadd, 1) := by decide +kernel
theorem dX5_finding_24 : decode cX5_finding 24 = .ok (.iastore, 1) := by decide +kernel
theorem dX5_finding_25 : decode cX5_finding 25 = .ok (.iload_n 1, 1) := by decide +kernel
theorem dX5_finding_26 : decode cX5_finding 26 = .ok (.ireturn, 1) := by decide +kernel
theorem dX5_isWithin_0 : decode cX5_isWithin 0 = .ok (.iload_n 0, 1) := by decide +kernel
theorem dX5_isWithin_1 : decode cX5_isWithin 1 = .ok (.iload_n 1, 1) := by decide +kernel
theorem dX5_isWithin_2 : decode cX5_isWithin 2 = .ok (.if_icmp .lt 12, 3) := by decide +kernel
theorem dX5_isWithin_5 : decode cX5_isWithin 5 = .ok (.iload_n 0, 1) := by decide +kernel
theorem dX5_isWithin_6 : decode cX5_isWithin 6 = .ok (.iload_n 2, 1) := by decide +kernel
theorem dX5_isWithin_7 : decode cX5_isWithin 7 = .ok (.if_icmp .gt 7, 3) := by decide +kernel
theorem dX5_isWithin_10 : decode cX5_isWithin 10 = .ok (.iconst 1, 1) := by decide +kernel
theorem dX5_isWithin_11 : decode cX5_isWithin 11 = .ok (.goto 4, 3) := by decide +kernel
theorem dX5_isWithin_14 : decode cX5_isWithin 14 = .ok (.iconst 0, 1) := by decide +kernel
theorem dX5_isWithin_15 : decode cX5_isWithin 15 = .ok (.ireturn, 1) := by decide +kernel
set_option maxRecDepth 20000 in
theorem ggX5_isGood_X5_isWithin : GoodIn wsX5_isGood wsX5_isWithin := goodIn_r _ [4] (by decide +kernel) (by decide +kernel)
set_option maxRecDepth 20000 in
theorem gX5_isGood_X5_isWithin : GoodIn wsX5_isGood (va_wsS RX5 47 yX5_isWithin wsX5_isWithin) := goodIn_app (goodIn_of _ (by decide +kernel)) ggX5_isGood_X5_isWithin
theorem dX5_isGood_0 : decode cX5_isGood 0 = .ok (.iload_n 0, 1) := by decide +kernel
theorem dX5_isGood_1 : decode cX5_isGood 1 = .ok (.iconst 0, 1) := by decide +kernel
theorem dX5_isGood_2 : decode cX5_isGood 2 = .ok (.bipush 11, 2) := by decide +kernel
theorem dX5_isGood_4 : decode cX5_isGood 4 = .ok (.invokestatic 47, 3) := by decide +kernel
theorem dX5_isGood_7 : decode cX5_isGood 7 = .ok (.ireturn, 1) := by decide +kernel
set_option maxRecDepth 20000 in
theorem ggX5_isPlace_X5_isWithin : GoodIn wsX5_isPlace wsX5_isWithin := goodIn_r _ [4] (by decide +kernel) (by decide +kernel)
set_option maxRecDepth 20000 in
theorem gX5_isPlace_X5_isWithin : GoodIn wsX5_isPlace (va_wsS RX5 47 yX5_isWithin wsX5_isWithin) := goodIn_app (goodIn_of _ (by decide +kernel)) ggX5_isPlace_X5_isWithin
theorem dX5_isPlace_0 : decode cX5_isPlace 0 = .ok (.iload_n 0, 1) := by decide +kernel
theorem dX5_isPlace_1 : decode cX5_isPlace 1 = .ok (.iconst 0, 1) := by decide +kernel
theorem dX5_isPlace_2 : decode cX5_isPlace 2 = .ok (.iconst 5, 1) := by decide +kernel
theorem dX5_isPlace_3 : decode cX5_isPlace 3 = .ok (.invokestatic 47, 3) := by decide +kernel
theorem dX5_isPlace_6 : decode cX5_isPlace 6 = .ok (.ireturn, 1) := by decide +kernel
set_option maxRecDepth 20000 in
theorem ggX5_isKind_X5_isWithin : GoodIn wsX5_isKind wsX5_isWithin := goodIn_r _ [4] (by decide +kernel) (by decide +kernel)
set_option maxRecDepth 20000 in
theorem gX5_isKind_X5_isWithin : GoodIn wsX5_isKind (va_wsS RX5 47 yX5_isWithin wsX5_isWithin) := goodIn_app (goodIn_of _ (by decide +kernel)) ggX5_isKind_X5_isWithin
theorem dX5_isKind_0 : decode cX5_isKind 0 = .ok (.iload_n 0, 1) := by decide +kernel
theorem dX5_isKind_1 : decode cX5_isKind 1 = .ok (.iconst 0, 1) := by decide +kernel
theorem dX5_isKind_2 : decode cX5_isKind 2 = .ok (.bipush 6, 2) := by decide +kernel
theorem dX5_isKind_4 : decode cX5_isKind 4 = .ok (.invokestatic 47, 3) := by decide +kernel
theorem dX5_isKind_7 : decode cX5_isKind 7 = .ok (.ireturn, 1) := by decide +kernel
set_option maxRecDepth 20000 in
theorem ggX5_isSpot_X5_isWithin : GoodIn wsX5_isSpot wsX5_isWithin := goodIn_r _ [4] (by decide +kernel) (by decide +kernel)
set_option maxRecDepth 20000 in
theorem gX5_isSpot_X5_isWithin : GoodIn wsX5_isSpot (va_wsS RX5 47 yX5_isWithin wsX5_isWithin) := goodIn_app (goodIn_of _ (by decide +kernel)) ggX5_isSpot_X5_isWithin
theorem dX5_isSpot_0 : decode cX5_isSpot 0 = .ok (.iload_n 0, 1) := by decide +kernel
theorem dX5_isSpot_1 : decode cX5_isSpot 1 = .ok (.iconst 0, 1) := by decide +kernel
theorem dX5_isSpot_2 : decode cX5_isSpot 2 = .ok (.bipush 9, 2) := by decide +kernel
theorem dX5_isSpot_4 : decode cX5_isSpot 4 = .ok (.invokestatic 47, 3) := by decide +kernel
theorem dX5_isSpot_7 : decode cX5_isSpot 7 = .ok (.ireturn, 1) := by decide +kernel
set_option maxRecDepth 20000 in
theorem ggX5_isSheet_X5_isWithin : GoodIn wsX5_isSheet wsX5_isWithin := goodIn_r _ [4] (by decide +kernel) (by decide +kernel)
set_option maxRecDepth 20000 in
theorem gX5_isSheet_X5_isWithin : GoodIn wsX5_isSheet (va_wsS RX5 47 yX5_isWithin wsX5_isWithin) := goodIn_app (goodIn_of _ (by decide +kernel)) ggX5_isSheet_X5_isWithin
theorem dX5_isSheet_0 : decode cX5_isSheet 0 = .ok (.iload_n 0, 1) := by decide +kernel
theorem dX5_isSheet_1 : decode cX5_isSheet 1 = .ok (.iconst 0, 1) := by decide +kernel
theorem dX5_isSheet_2 : decode cX5_isSheet 2 = .ok (.iconst 3, 1) := by decide +kernel
theorem dX5_isSheet_3 : decode cX5_isSheet 3 = .ok (.invokestatic 47, 3) := by decide +kernel
theorem dX5_isSheet_6 : decode cX5_isSheet 6 = .ok (.ireturn, 1) := by decide +kernel
set_option maxRecDepth 20000 in
theorem ggX5_wrongWithSheet_X5_isSheet : GoodIn wsX5_wrongWithSheet wsX5_isSheet := goodIn_r _ [7, 8, 9, 6, 10] (by decide +kernel) (by decide +kernel)
set_option maxRecDepth 20000 in
theorem gX5_wrongWithSheet_X5_isSheet : GoodIn wsX5_wrongWithSheet (va_wsS RX5 252 yX5_isSheet wsX5_isSheet) := goodIn_app (goodIn_of _ (by decide +kernel)) ggX5_wrongWithSheet_X5_isSheet
set_option maxRecDepth 20000 in
theorem ggX5_wrongWithSheet_X1_isMissing : GoodIn wsX5_wrongWithSheet wsX1_isMissing := goodIn_r _ [15, 16, 25, 26, 27] (by decide +kernel) (by decide +kernel)
set_option maxRecDepth 20000 in
theorem gX5_wrongWithSheet_X1_isMissing : GoodIn wsX5_wrongWithSheet (wsV RX5 266 RX1 yX1_isMissing wsX1_isMissing) := goodIn_app (goodIn_of _ (by decide +kernel)) ggX5_wrongWithSheet_X1_isMissing
theorem dX5_wrongWithSheet_0 : decode cX5_wrongWithSheet 0 = .ok (.iload_n 1, 1) := by decide +kernel
theorem dX5_wrongWithSheet_1 : decode cX5_wrongWithSheet 1 = .ok (.invokestatic 252, 3) := by decide +kernel
theorem dX5_wrongWithSheet_4 : decode cX5_wrongWithSheet 4 = .ok (.ifCond .ne 6, 3) := by decide +kernel
theorem dX5_wrongWithSheet_7 : decode cX5_wrongWithSheet 7 = .ok (.ldc 54, 2) := by decide +kernel
theorem dX5_wrongWithSheet_9 : decode cX5_wrongWithSheet 9 = .ok (.ireturn, 1) := by decide +kernel
theorem dX5_wrongWithSheet_10 : decode cX5_wrongWithSheet 10 = .ok (.aload_n 0, 1) := by decide +kernel
theorem dX5_wrongWithSheet_11 : decode cX5_wrongWithSheet 11 = .ok (.getfield 40, 3) := by decide +kernel
theorem dX5_wrongWithSheet_14 : decode cX5_wrongWithSheet 14 = .ok (.iload_n 1, 1) := by decide +kernel
theorem dX5_wrongWithSheet_15 : decode cX5_wrongWithSheet 15 = .ok (.aaload, 1) := by decide +kernel
theorem dX5_wrongWithSheet_16 : decode cX5_wrongWithSheet 16 = .ok (.invokevirtual 266, 3) := by decide +kernel
theorem dX5_wrongWithSheet_19 : decode cX5_wrongWithSheet 19 = .ok (.ifCond .eq 8, 3) := by decide +kernel
theorem dX5_wrongWithSheet_22 : decode cX5_wrongWithSheet 22 = .ok (.ldc 247, 2) := by decide +kernel
theorem dX5_wrongWithSheet_24 : decode cX5_wrongWithSheet 24 = .ok (.goto 4, 3) := by decide +kernel
theorem dX5_wrongWithSheet_27 : decode cX5_wrongWithSheet 27 = .ok (.iconst 0, 1) := by decide +kernel
theorem dX5_wrongWithSheet_28 : decode cX5_wrongWithSheet 28 = .ok (.ireturn, 1) := by decide +kernel
set_option maxRecDepth 20000 in
theorem ggX5_wrongWithStandings_X5_wrongWithSheet : GoodIn wsX5_wrongWithStandings wsX5_wrongWithSheet := goodIn_r _ [7, 2, 8, 9, 10, 11, 6, 12, 13, 14, 15, 16, 17, 18, 19, 20, 21, 28, 29, 30, 31, 32, 33, 34, 35, 36, 37, 38] (by decide +kernel) (by decide +kernel)
set_option maxRecDepth 20000 in
theorem gX5_wrongWithStandings_X5_wrongWithSheet : GoodIn wsX5_wrongWithStandings (wsV RX5 262 RX5 yX5_wrongWithSheet wsX5_wrongWithSheet) := goodIn_app (goodIn_of _ (by decide +kernel)) ggX5_wrongWithStandings_X5_wrongWithSheet
set_option maxRecDepth 20000 in
theorem ggX5_wrongWithStandings_X2_has : GoodIn wsX5_wrongWithStandings wsX2_has := goodIn_r _ [26, 27, 14, 6, 15, 39, 40, 41, 42, 43, 44, 45, 46, 47, 48, 49] (by decide +kernel) (by decide +kernel)
set_option maxRecDepth 20000 in
theorem gX5_wrongWithStandings_X2_has : GoodIn wsX5_wrongWithStandings (wsV RX5 94 RX2 yX2_has wsX2_has) := goodIn_app (goodIn_of _ (by decide +kernel)) ggX5_wrongWithStandings_X2_has
theorem dX5_wrongWithStandings_0 : decode cX5_wrongWithStandings 0 = .ok (.aload_n 0, 1) := by decide +kernel
theorem dX5_wrongWithStandings_1 : decode cX5_wrongWithStandings 1 = .ok (.iload_n 1, 1) := by decide +kernel
theorem dX5_wrongWithStandings_2 : decode cX5_wrongWithStandings 2 = .ok (.invokevirtual 262, 3) := by decide +kernel
theorem dX5_wrongWithStandings_5 : decode cX5_wrongWithStandings 5 = .ok (.istore_n 3, 1) := by decide +kernel
theorem dX5_wrongWithStandings_6 : decode cX5_wrongWithStandings 6 = .ok (.iload_n 3, 1) := by decide +kernel
theorem dX5_wrongWithStandings_7 : decode cX5_wrongWithStandings 7 = .ok (.ifCond .eq 5, 3) := by decide +kernel
theorem dX5_wrongWithStandings_10 : decode cX5_wrongWithStandings 10 = .ok (.iload_n 3, 1) := by decide +kernel
theorem dX5_wrongWithStandings_11 : decode cX5_wrongWithStandings 11 = .ok (.ireturn, 1) := by decide +kernel
theorem dX5_wrongWithStandings_12 : decode cX5_wrongWithStandings 12 = .ok (.aload_n 0, 1) := by decide +kernel
theorem dX5_wrongWithStandings_13 : decode cX5_wrongWithStandings 13 = .ok (.getfield 12, 3) := by decide +kernel
theorem dX5_wrongWithStandings_16 : decode cX5_wrongWithStandings 16 = .ok (.iload_n 2, 1) := by decide +kernel
theorem dX5_wrongWithStandings_17 : decode cX5_wrongWithStandings 17 = .ok (.invokevirtual 94, 3) := by decide +kernel
theorem dX5_wrongWithStandings_20 : decode cX5_wrongWithStandings 20 = .ok (.ifCond .eq 7, 3) := by decide +kernel
theorem dX5_wrongWithStandings_23 : decode cX5_wrongWithStandings 23 = .ok (.iconst 0, 1) := by decide +kernel
theorem dX5_wrongWithStandings_24 : decode cX5_wrongWithStandings 24 = .ok (.goto 5, 3) := by decide +kernel
theorem dX5_wrongWithStandings_27 : decode cX5_wrongWithStandings 27 = .ok (.ldc 54, 2) := by decide +kernel
theorem dX5_wrongWithStandings_29 : decode cX5_wrongWithStandings 29 = .ok (.ireturn, 1) := by decide +kernel
set_option maxRecDepth 20000 in
theorem ggX5_daysUntil_X2_become : GoodIn wsX5_daysUntil wsX2_become := goodIn_r _ [9, 10, 11, 12, 13, 14, 15, 16, 17, 18, 19, 20, 21, 22, 23, 24, 25, 26, 27, 28, 29, 30, 31, 32, 33, 34, 35, 150, 151, 152, 153, 154, 155, 156, 157, 158, 159, 160, 161, 162, 163, 164, 165, 166] (by decide +kernel) (by decide +kernel)
set_option maxRecDepth 20000 in
theorem gX5_daysUntil_X2_become : GoodIn wsX5_daysUntil (wsV RX5 156 RX2 yX2_become wsX2_become) := goodIn_app (goodIn_of _ (by decide +kernel)) ggX5_daysUntil_X2_become
set_option maxRecDepth 20000 in
theorem ggX5_daysUntil_X5_hasReached : GoodIn wsX5_daysUntil wsX5_hasReached := goodIn_r _ [39, 40, 41, 42, 43, 44, 28, 45, 32, 161, 162, 163, 164, 165, 166] (by decide +kernel) (by decide +kernel)
set_option maxRecDepth 20000 in
theorem gX5_daysUntil_X5_hasReached : GoodIn wsX5_daysUntil (va_wsS RX5 287 yX5_hasReached wsX5_hasReached) := goodIn_app (goodIn_of _ (by decide +kernel)) ggX5_daysUntil_X5_hasReached
set_option maxRecDepth 20000 in
theorem ggX5_daysUntil_X2_passDay : GoodIn wsX5_daysUntil wsX2_passDay := goodIn_r _ [49, 10, 11, 13, 20, 50, 51, 52, 53, 54, 55, 56, 57, 8, 58, 22, 23, 12, 18, 59, 60, 61, 62, 28, 63, 35, 33, 64, 43, 44, 45, 32, 65, 66, 67, 68, 30, 34, 69, 70, 71, 72, 73, 74, 75, 76, 31, 77, 78, 79, 80, 81, 82, 83, 84, 85, 86, 87, 88, 89, 90, 91, 92, 93, 94, 95, 96, 97, 98, 99, 100, 101, 102, 103, 104, 105, 106, 107, 108, 109, 110, 111, 112, 113, 114, 115, 116, 117, 118, 19, 119, 120, 121, 122, 123, 124, 125, 126, 127, 128, 129, 130, 131, 132, 150, 151, 152, 153, 154, 155, 156, 157, 158, 159, 160, 161, 162, 163, 164, 165, 166] (by decide +kernel) (by decide +kernel)
set_option maxRecDepth 20000 in
theorem gX5_daysUntil_X2_passDay : GoodIn wsX5_daysUntil (wsV RX5 199 RX2 yX2_passDay wsX2_passDay) := goodIn_app (goodIn_of _ (by decide +kernel)) ggX5_daysUntil_X2_passDay
set_option maxRecDepth 20000 in
theorem ggX5_daysUntil_X5_finding : GoodIn wsX5_daysUntil wsX5_finding := goodIn_r _ [136, 137, 138, 139, 140, 38, 141, 142, 143, 144, 145, 146, 147, 148, 149] (by decide +kernel) (by decide +kernel)
set_option maxRecDepth 20000 in
theorem gX5_daysUntil_X5_finding : GoodIn wsX5_daysUntil (wsV RX5 55 RX5 yX5_finding wsX5_finding) := goodIn_app (goodIn_of _ (by decide +kernel)) ggX5_daysUntil_X5_finding
theorem dX5_daysUntil_0 : decode cX5_daysUntil 0 = .ok (.aload_n 0, 1) := by decide +kernel
theorem dX5_daysUntil_1 : decode cX5_daysUntil 1 = .ok (.getfield 16, 3) := by decide +kernel
theorem dX5_daysUntil_4 : decode cX5_daysUntil 4 = .ok (.aload_n 0, 1) := by decide +kernel
theorem dX5_daysUntil_5 : decode cX5_daysUntil 5 = .ok (.getfield 12, 3) := by decide +kernel
theorem dX5_daysUntil_8 : decode cX5_daysUntil 8 = .ok (.invokevirtual 156, 3) := by decide +kernel
theorem dX5_daysUntil_11 : decode cX5_daysUntil 11 = .ok (.iconst 0, 1) := by decide +kernel
theorem dX5_daysUntil_12 : decode cX5_daysUntil 12 = .ok (.istore 4, 2) := by decide +kernel
theorem dX5_daysUntil_14 : decode cX5_daysUntil 14 = .ok (.iload 4, 2) := by decide +kernel
theorem dX5_daysUntil_16 : decode cX5_daysUntil 16 = .ok (.sipush 200, 3) := by decide +kernel
theorem dX5_daysUntil_19 : decode cX5_daysUntil 19 = .ok (.if_icmp .gt 36, 3) := by decide +kernel
theorem dX5_daysUntil_22 : decode cX5_daysUntil 22 = .ok (.aload_n 0, 1) := by decide +kernel
theorem dX5_daysUntil_23 : decode cX5_daysUntil 23 = .ok (.getfield 16, 3) := by decide +kernel
theorem dX5_daysUntil_26 : decode cX5_daysUntil 26 = .ok (.getfield 103, 3) := by decide +kernel
theorem dX5_daysUntil_29 : decode cX5_daysUntil 29 = .ok (.iload_n 1, 1) := by decide +kernel
theorem dX5_daysUntil_30 : decode cX5_daysUntil 30 = .ok (.aaload, 1) := by decide +kernel
theorem dX5_daysUntil_31 : decode cX5_daysUntil 31 = .ok (.iload_n 2, 1) := by decide +kernel
theorem dX5_daysUntil_32 : decode cX5_daysUntil 32 = .ok (.iload_n 3, 1) := by decide +kernel
theorem dX5_daysUntil_33 : decode cX5_daysUntil 33 = .ok (.invokestatic 287, 3) := by decide +kernel
theorem dX5_daysUntil_36 : decode cX5_daysUntil 36 = .ok (.ifCond .eq 6, 3) := by decide +kernel
theorem dX5_daysUntil_39 : decode cX5_daysUntil 39 = .ok (.iload 4, 2) := by decide +kernel
theorem dX5_daysUntil_41 : decode cX5_daysUntil 41 = .ok (.ireturn, 1) := by decide +kernel
theorem dX5_daysUntil_42 : decode cX5_daysUntil 42 = .ok (.aload_n 0, 1) := by decide +kernel
theorem dX5_daysUntil_43 : decode cX5_daysUntil 43 = .ok (.getfield 16, 3) := by decide +kernel
theorem dX5_daysUntil_46 : decode cX5_daysUntil 46 = .ok (.invokevirtual 199, 3) := by decide +kernel
theorem dX5_daysUntil_49 : decode cX5_daysUntil 49 = .ok (.iinc 4 1, 3) := by decide +kernel
theorem dX5_daysUntil_52 : decode cX5_daysUntil 52 = .ok (.goto (-38), 3) := by decide +kernel
theorem dX5_daysUntil_55 : decode cX5_daysUntil 55 = .ok (.aload_n 0, 1) := by decide +kernel
theorem dX5_daysUntil_56 : decode cX5_daysUntil 56 = .ok (.ldc 167, 2) := by decide +kernel
theorem dX5_daysUntil_58 : decode cX5_daysUntil 58 = .ok (.invokevirtual 55, 3) := by decide +kernel
theorem dX5_daysUntil_61 : decode cX5_daysUntil 61 = .ok (.ireturn, 1) := by decide +kernel
set_option maxRecDepth 20000 in
theorem ggX5_hasReached_X0_isFor : GoodIn wsX5_hasReached wsX0_isFor := goodIn_r _ [7, 8, 9, 10, 11, 12, 13, 14] (by decide +kernel) (by decide +kernel)
set_option maxRecDepth 20000 in
theorem gX5_hasReached_X0_isFor : GoodIn wsX5_hasReached (wsV RX5 294 RX0 yX0_isFor wsX0_isFor) := goodIn_app (goodIn_of _ (by decide +kernel)) ggX5_hasReached_X0_isFor
theorem dX5_hasReached_0 : decode cX5_hasReached 0 = .ok (.iload_n 1, 1) := by decide +kernel
theorem dX5_hasReached_1 : decode cX5_hasReached 1 = .ok (.iconst 4, 1) := by decide +kernel
theorem dX5_hasReached_2 : decode cX5_hasReached 2 = .ok (.if_icmp .ne 17, 3) := by decide +kernel
theorem dX5_hasReached_5 : decode cX5_hasReached 5 = .ok (.aload_n 0, 1) := by decide +kernel
theorem dX5_hasReached_6 : decode cX5_hasReached 6 = .ok (.getfield 171, 3) := by decide +kernel
theorem dX5_hasReached_9 : decode cX5_hasReached 9 = .ok (.iload_n 2, 1) := by decide +kernel
theorem dX5_hasReached_10 : decode cX5_hasReached 10 = .ok (.if_icmp .lt 7, 3) := by decide +kernel
theorem dX5_hasReached_13 : decode cX5_hasReached 13 = .ok (.iconst 1, 1) := by decide +kernel
theorem dX5_hasReached_14 : decode cX5_hasReached 14 = .ok (.goto 4, 3) := by decide +kernel
theorem dX5_hasReached_17 : decode cX5_hasReached 17 = .ok (.iconst 0, 1) := by decide +kernel
theorem dX5_hasReached_18 : decode cX5_hasReached 18 = .ok (.ireturn, 1) := by decide +kernel
theorem dX5_hasReached_19 : decode cX5_hasReached 19 = .ok (.iload_n 1, 1) := by decide +kernel
theorem dX5_hasReached_20 : decode cX5_hasReached 20 = .ok (.iconst 3, 1) := by decide +kernel
theorem dX5_hasReached_21 : decode cX5_hasReached 21 = .ok (.if_icmp .ne 17, 3) := by decide +kernel
theorem dX5_hasReached_24 : decode cX5_hasReached 24 = .ok (.aload_n 0, 1) := by decide +kernel
theorem dX5_hasReached_25 : decode cX5_hasReached 25 = .ok (.getfield 291, 3) := by decide +kernel
theorem dX5_hasReached_28 : decode cX5_hasReached 28 = .ok (.iload_n 2, 1) := by decide +kernel
theorem dX5_hasReached_29 : decode cX5_hasReached 29 = .ok (.if_icmp .gt 7, 3) := by decide +kernel
theorem dX5_hasReached_32 : decode cX5_hasReached 32 = .ok (.iconst 1, 1) := by decide +kernel
theorem dX5_hasReached_33 : decode cX5_hasReached 33 = .ok (.goto 4, 3) := by decide +kernel
theorem dX5_hasReached_36 : decode cX5_hasReached 36 = .ok (.iconst 0, 1) := by decide +kernel
theorem dX5_hasReached_37 : decode cX5_hasReached 37 = .ok (.ireturn, 1) := by decide +kernel
theorem dX5_hasReached_38 : decode cX5_hasReached 38 = .ok (.aload_n 0, 1) := by decide +kernel
theorem dX5_hasReached_39 : decode cX5_hasReached 39 = .ok (.iload_n 2, 1) := by decide +kernel
theorem dX5_hasReached_40 : decode cX5_hasReached 40 = .ok (.invokevirtual 294, 3) := by decide +kernel
theorem dX5_hasReached_43 : decode cX5_hasReached 43 = .ok (.ireturn, 1) := by decide +kernel
theorem dX5_firstGreatestOutcome_0 : decode cX5_firstGreatestOutcome 0 = .ok (.iconst 0, 1) := by decide +kernel
theorem dX5_firstGreatestOutcome_1 : decode cX5_firstGreatestOutcome 1 = .ok (.istore_n 2, 1) := by decide +kernel
theorem dX5_firstGreatestOutcome_2 : decode cX5_firstGreatestOutcome 2 = .ok (.iconst 1, 1) := by decide +kernel
theorem dX5_firstGreatestOutcome_3 : decode cX5_firstGreatestOutcome 3 = .ok (.istore_n 3, 1) := by decide +kernel
theorem dX5_firstGreatestOutcome_4 : decode cX5_firstGreatestOutcome 4 = .ok (.iload_n 3, 1) := by decide +kernel
theorem dX5_firstGreatestOutcome_5 : decode cX5_firstGreatestOutcome 5 = .ok (.iload_n 1, 1) := by decide +kernel
theorem dX5_firstGreatestOutcome_6 : decode cX5_firstGreatestOutcome 6 = .ok (.if_icmp .ge 32, 3) := by decide +kernel
theorem dX5_firstGreatestOutcome_9 : decode cX5_firstGreatestOutcome 9 = .ok (.iload_n 3, 1) := by decide +kernel
theorem dX5_firstGreatestOutcome_10 : decode cX5_firstGreatestOutcome 10 = .ok (.bipush 16, 2) := by decide +kernel
theorem dX5_firstGreatestOutcome_12 : decode cX5_firstGreatestOutcome 12 = .ok (.if_icmp .ge 26, 3) := by decide +kernel
theorem dX5_firstGreatestOutcome_15 : decode cX5_firstGreatestOutcome 15 = .ok (.aload_n 0, 1) := by decide +kernel
theorem dX5_firstGreatestOutcome_16 : decode cX5_firstGreatestOutcome 16 = .ok (.getfield 26, 3) := by decide +kernel
theorem dX5_firstGreatestOutcome_19 : decode cX5_firstGreatestOutcome 19 = .ok (.iload_n 3, 1) := by decide +kernel
theorem dX5_firstGreatestOutcome_20 : decode cX5_firstGreatestOutcome 20 = .ok (.iaload, 1) := by decide +kernel
theorem dX5_firstGreatestOutcome_21 : decode cX5_firstGreatestOutcome 21 = .ok (.aload_n 0, 1) := by decide +kernel
theorem dX5_firstGreatestOutcome_22 : decode cX5_firstGreatestOutcome 22 = .ok (.getfield 26, 3) := by decide +kernel
theorem dX5_firstGreatestOutcome_25 : decode cX5_firstGreatestOutcome 25 = .ok (.iload_n 2, 1) := by decide +kernel
theorem dX5_firstGreatestOutcome_26 : decode cX5_firstGreatestOutcome 26 = .ok (.iaload, 1) := by decide +kernel
theorem dX5_firstGreatestOutcome_27 : decode cX5_firstGreatestOutcome 27 = .ok (.if_icmp .le 5, 3) := by decide +kernel
theorem dX5_firstGreatestOutcome_30 : decode cX5_firstGreatestOutcome 30 = .ok (.iload_n 3, 1) := by decide +kernel
theorem dX5_firstGreatestOutcome_31 : decode cX5_firstGreatestOutcome 31 = .ok (.istore_n 2, 1) := by decide +kernel
theorem dX5_firstGreatestOutcome_32 : decode cX5_firstGreatestOutcome 32 = .ok (.iinc 3 1, 3) := by decide +kernel
theorem dX5_firstGreatestOutcome_35 : decode cX5_firstGreatestOutcome 35 = .ok (.goto (-31), 3) := by decide +kernel
theorem dX5_firstGreatestOutcome_38 : decode cX5_firstGreatestOutcome 38 = .ok (.iload_n 2, 1) := by decide +kernel
theorem dX5_firstGreatestOutcome_39 : decode cX5_firstGreatestOutcome 39 = .ok (.ireturn, 1) := by decide +kernel
set_option maxRecDepth 20000 in
theorem ggX5_earnsNothingWithout_X2_become : GoodIn wsX5_earnsNothingWithout wsX2_become := goodIn_r _ [8, 9, 10, 11, 12, 13, 14, 15, 16, 17, 18, 19, 20, 21, 22, 23, 24, 25, 26, 27, 28, 29, 30, 31, 32, 33, 34, 137, 138, 139, 140, 141, 142, 143, 144, 145, 146, 147, 148, 149, 150, 151, 152, 153] (by decide +kernel) (by decide +kernel)
set_option maxRecDepth 20000 in
theorem gX5_earnsNothingWithout_X2_become : GoodIn wsX5_earnsNothingWithout (wsV RX5 156 RX2 yX2_become wsX2_become) := goodIn_app (goodIn_of _ (by decide +kernel)) ggX5_earnsNothingWithout_X2_become
set_option maxRecDepth 20000 in
theorem ggX5_earnsNothingWithout_X2_sendAway : GoodIn wsX5_earnsNothingWithout wsX2_sendAway := goodIn_r _ [38, 21, 22, 39, 137, 138, 139, 140, 141, 142, 143, 144, 145, 146, 147, 148, 149, 150, 151, 152, 153] (by decide +kernel) (by decide +kernel)
set_option maxRecDepth 20000 in
theorem gX5_earnsNothingWithout_X2_sendAway : GoodIn wsX5_earnsNothingWithout (wsV RX5 297 RX2 yX2_sendAway wsX2_sendAway) := goodIn_app (goodIn_of _ (by decide +kernel)) ggX5_earnsNothingWithout_X2_sendAway
set_option maxRecDepth 20000 in
theorem ggX5_earnsNothingWithout_X2_passDay : GoodIn wsX5_earnsNothingWithout wsX2_passDay := goodIn_r _ [43, 9, 10, 12, 19, 44, 45, 46, 47, 48, 49, 50, 51, 7, 52, 21, 22, 11, 17, 39, 53, 54, 55, 27, 56, 34, 32, 57, 58, 59, 60, 31, 61, 62, 63, 64, 29, 33, 65, 66, 67, 68, 69, 70, 71, 72, 30, 73, 74, 75, 76, 77, 78, 79, 80, 81, 82, 83, 84, 85, 86, 87, 88, 89, 90, 91, 92, 93, 94, 95, 96, 97, 98, 99, 100, 101, 102, 103, 104, 105, 106, 107, 108, 109, 110, 111, 112, 113, 114, 18, 115, 116, 117, 118, 119, 120, 121, 122, 123, 124, 125, 126, 127, 128, 137, 138, 139, 140, 141, 142, 143, 144, 145, 146, 147, 148, 149, 150, 151, 152, 153] (by decide +kernel) (by decide +kernel)
set_option maxRecDepth 20000 in
theorem gX5_earnsNothingWithout_X2_passDay : GoodIn wsX5_earnsNothingWithout (wsV RX5 199 RX2 yX2_passDay wsX2_passDay) := goodIn_app (goodIn_of _ (by decide +kernel)) ggX5_earnsNothingWithout_X2_passDay
theorem dX5_earnsNothingWithout_0 : decode cX5_earnsNothingWithout 0 = .ok (.aload_n 0, 1) := by decide +kernel
theorem dX5_earnsNothingWithout_1 : decode cX5_earnsNothingWithout 1 = .ok (.getfield 16, 3) := by decide +kernel
theorem dX5_earnsNothingWithout_4 : decode cX5_earnsNothingWithout 4 = .ok (.aload_n 0, 1) := by decide +kernel
theorem dX5_earnsNothingWithout_5 : decode cX5_earnsNothingWithout 5 = .ok (.getfield 12, 3) := by decide +kernel
theorem dX5_earnsNothingWithout_8 : decode cX5_earnsNothingWithout 8 = .ok (.invokevirtual 156, 3) := by decide +kernel
theorem dX5_earnsNothingWithout_11 : decode cX5_earnsNothingWithout 11 = .ok (.aload_n 0, 1) := by decide +kernel
theorem dX5_earnsNothingWithout_12 : decode cX5_earnsNothingWithout 12 = .ok (.getfield 16, 3) := by decide +kernel
theorem dX5_earnsNothingWithout_15 : decode cX5_earnsNothingWithout 15 = .ok (.iload_n 1, 1) := by decide +kernel
theorem dX5_earnsNothingWithout_16 : decode cX5_earnsNothingWithout 16 = .ok (.invokevirtual 297, 3) := by decide +kernel
theorem dX5_earnsNothingWithout_19 : decode cX5_earnsNothingWithout 19 = .ok (.iconst 0, 1) := by decide +kernel
theorem dX5_earnsNothingWithout_20 : decode cX5_earnsNothingWithout 20 = .ok (.istore_n 3, 1) := by decide +kernel
theorem dX5_earnsNothingWithout_21 : decode cX5_earnsNothingWithout 21 = .ok (.iload_n 3, 1) := by decide +kernel
theorem dX5_earnsNothingWithout_22 : decode cX5_earnsNothingWithout 22 = .ok (.iload_n 2, 1) := by decide +kernel
theorem dX5_earnsNothingWithout_23 : decode cX5_earnsNothingWithout 23 = .ok (.if_icmp .ge 33, 3) := by decide +kernel
theorem dX5_earnsNothingWithout_26 : decode cX5_earnsNothingWithout 26 = .ok (.aload_n 0, 1) := by decide +kernel
theorem dX5_earnsNothingWithout_27 : decode cX5_earnsNothingWithout 27 = .ok (.getfield 16, 3) := by decide +kernel
theorem dX5_earnsNothingWithout_30 : decode cX5_earnsNothingWithout 30 = .ok (.getfield 131, 3) := by decide +kernel
theorem dX5_earnsNothingWithout_33 : decode cX5_earnsNothingWithout 33 = .ok (.aload_n 0, 1) := by decide +kernel
theorem dX5_earnsNothingWithout_34 : decode cX5_earnsNothingWithout 34 = .ok (.getfield 12, 3) := by decide +kernel
theorem dX5_earnsNothingWithout_37 : decode cX5_earnsNothingWithout 37 = .ok (.getfield 131, 3) := by decide +kernel
theorem dX5_earnsNothingWithout_40 : decode cX5_earnsNothingWithout 40 = .ok (.if_icmp .ne 16, 3) := by decide +kernel
theorem dX5_earnsNothingWithout_43 : decode cX5_earnsNothingWithout 43 = .ok (.aload_n 0, 1) := by decide +kernel
theorem dX5_earnsNothingWithout_44 : decode cX5_earnsNothingWithout 44 = .ok (.getfield 16, 3) := by decide +kernel
theorem dX5_earnsNothingWithout_47 : decode cX5_earnsNothingWithout 47 = .ok (.invokevirtual 199, 3) := by decide +kernel
theorem dX5_earnsNothingWithout_50 : decode cX5_earnsNothingWithout 50 = .ok (.iinc 3 1, 3) := by decide +kernel
theorem dX5_earnsNothingWithout_53 : decode cX5_earnsNothingWithout 53 = .ok (.goto (-32), 3) := by decide +kernel
theorem dX5_earnsNothingWithout_56 : decode cX5_earnsNothingWithout 56 = .ok (.aload_n 0, 1) := by decide +kernel
theorem dX5_earnsNothingWithout_57 : decode cX5_earnsNothingWithout 57 = .ok (.getfield 16, 3) := by decide +kernel
theorem dX5_earnsNothingWithout_60 : decode cX5_earnsNothingWithout 60 = .ok (.getfield 131, 3) := by decide +kernel
theorem dX5_earnsNothingWithout_63 : decode cX5_earnsNothingWithout 63 = .ok (.aload_n 0, 1) := by decide +kernel
theorem dX5_earnsNothingWithout_64 : decode cX5_earnsNothingWithout 64 = .ok (.getfield 12, 3) := by decide +kernel
theorem dX5_earnsNothingWithout_67 : decode cX5_earnsNothingWithout 67 = .ok (.getfield 131, 3) := by decide +kernel
theorem dX5_earnsNothingWithout_70 : decode cX5_earnsNothingWithout 70 = .ok (.if_icmp .ne 7, 3) := by decide +kernel
theorem dX5_earnsNothingWithout_73 : decode cX5_earnsNothingWithout 73 = .ok (.iconst 1, 1) := by decide +kernel
theorem dX5_earnsNothingWithout_74 : decode cX5_earnsNothingWithout 74 = .ok (.goto 4, 3) := by decide +kernel
theorem dX5_earnsNothingWithout_77 : decode cX5_earnsNothingWithout 77 = .ok (.iconst 0, 1) := by decide +kernel
theorem dX5_earnsNothingWithout_78 : decode cX5_earnsNothingWithout 78 = .ok (.ireturn, 1) := by decide +kernel
set_option maxRecDepth 20000 in
theorem ggX5_standsAsTold_X2_passDay : GoodIn wsX5_standsAsTold wsX2_passDay := goodIn_r _ [10, 11, 12, 13, 14, 15, 16, 17, 18, 19, 20, 21, 22, 9, 23, 24, 25, 26, 27, 28, 29, 30, 31, 32, 33, 34, 35, 36, 37, 38, 39, 40, 41, 42, 43, 44, 45, 46, 47, 48, 49, 50, 51, 52, 53, 54, 55, 56, 57, 58, 59, 60, 61, 62, 63, 64, 65, 66, 67, 68, 69, 70, 71, 72, 73, 74, 75, 76, 77, 78, 79, 80, 81, 82, 83, 84, 85, 86, 87, 88, 89, 90, 91, 92, 93, 94, 95, 96, 97, 98, 99, 100, 101, 102, 103, 104, 105, 106, 107, 108, 109, 110, 111, 112, 124, 125, 126, 127, 128, 129, 130, 131, 132, 133, 134, 135, 136, 137, 138, 139, 140] (by decide +kernel) (by decide +kernel)
set_option maxRecDepth 20000 in
theorem gX5_standsAsTold_X2_passDay : GoodIn wsX5_standsAsTold (wsV RX5 199 RX2 yX2_passDay wsX2_passDay) := goodIn_app (goodIn_of _ (by decide +kernel)) ggX5_standsAsTold_X2_passDay
theorem dX5_standsAsTold_0 : decode cX5_standsAsTold 0 = .ok (.iconst 0, 1) := by decide +kernel
theorem dX5_standsAsTold_1 : decode cX5_standsAsTold 1 = .ok (.istore_n 3, 1) := by decide +kernel
theorem dX5_standsAsTold_2 : decode cX5_standsAsTold 2 = .ok (.iload_n 3, 1) := by decide +kernel
theorem dX5_standsAsTold_3 : decode cX5_standsAsTold 3 = .ok (.aload_n 1, 1) := by decide +kernel
theorem dX5_standsAsTold_4 : decode cX5_standsAsTold 4 = .ok (.getfield 259, 3) := by decide +kernel
theorem dX5_standsAsTold_7 : decode cX5_standsAsTold 7 = .ok (.if_icmp .ge 53, 3) := by decide +kernel
theorem dX5_standsAsTold_10 : decode cX5_standsAsTold 10 = .ok (.iload_n 3, 1) := by decide +kernel
theorem dX5_standsAsTold_11 : decode cX5_standsAsTold 11 = .ok (.ifCond .le 10, 3) := by decide +kernel
theorem dX5_standsAsTold_14 : decode cX5_standsAsTold 14 = .ok (.aload_n 0, 1) := by decide +kernel
theorem dX5_standsAsTold_15 : decode cX5_standsAsTold 15 = .ok (.getfield 16, 3) := by decide +kernel
theorem dX5_standsAsTold_18 : decode cX5_standsAsTold 18 = .ok (.invokevirtual 199, 3) := by decide +kernel
theorem dX5_standsAsTold_21 : decode cX5_standsAsTold 21 = .ok (.aload_n 1, 1) := by decide +kernel
theorem dX5_standsAsTold_22 : decode cX5_standsAsTold 22 = .ok (.getfield 275, 3) := by decide +kernel
theorem dX5_standsAsTold_25 : decode cX5_standsAsTold 25 = .ok (.iload_n 3, 1) := by decide +kernel
theorem dX5_standsAsTold_26 : decode cX5_standsAsTold 26 = .ok (.iaload, 1) := by decide +kernel
theorem dX5_standsAsTold_27 : decode cX5_standsAsTold 27 = .ok (.istore 4, 2) := by decide +kernel
theorem dX5_standsAsTold_29 : decode cX5_standsAsTold 29 = .ok (.iload 4, 2) := by decide +kernel
theorem dX5_standsAsTold_31 : decode cX5_standsAsTold 31 = .ok (.iconst (-1), 1) := by decide +kernel
theorem dX5_standsAsTold_32 : decode cX5_standsAsTold 32 = .ok (.if_icmp .eq 22, 3) := by decide +kernel
theorem dX5_standsAsTold_35 : decode cX5_standsAsTold 35 = .ok (.iload 4, 2) := by decide +kernel
theorem dX5_standsAsTold_37 : decode cX5_standsAsTold 37 = .ok (.aload_n 0, 1) := by decide +kernel
theorem dX5_standsAsTold_38 : decode cX5_standsAsTold 38 = .ok (.getfield 16, 3) := by decide +kernel
theorem dX5_standsAsTold_41 : decode cX5_standsAsTold 41 = .ok (.getfield 103, 3) := by decide +kernel
theorem dX5_standsAsTold_44 : decode cX5_standsAsTold 44 = .ok (.iload_n 2, 1) := by decide +kernel
theorem dX5_standsAsTold_45 : decode cX5_standsAsTold 45 = .ok (.aaload, 1) := by decide +kernel
theorem dX5_standsAsTold_46 : decode cX5_standsAsTold 46 = .ok (.getfield 171, 3) := by decide +kernel
theorem dX5_standsAsTold_49 : decode cX5_standsAsTold 49 = .ok (.if_icmp .eq 5, 3) := by decide +kernel
theorem dX5_standsAsTold_52 : decode cX5_standsAsTold 52 = .ok (.iconst 0, 1) := by decide +kernel
theorem dX5_standsAsTold_53 : decode cX5_standsAsTold 53 = .ok (.ireturn, 1) := by decide +kernel
theorem dX5_standsAsTold_54 : decode cX5_standsAsTold 54 = .ok (.iinc 3 1, 3) := by decide +kernel
theorem dX5_standsAsTold_57 : decode cX5_standsAsTold 57 = .ok (.goto (-55), 3) := by decide +kernel
theorem dX5_standsAsTold_60 : decode cX5_standsAsTold 60 = .ok (.iconst 1, 1) := by decide +kernel
theorem dX5_standsAsTold_61 : decode cX5_standsAsTold 61 = .ok (.ireturn, 1) := by decide +kernel
theorem dX5_commonDivisor_0 : decode cX5_commonDivisor 0 = .ok (.iload_n 0, 1) := by decide +kernel
theorem dX5_commonDivisor_1 : decode cX5_commonDivisor 1 = .ok (.iload_n 1, 1) := by decide +kernel
theorem dX5_commonDivisor_2 : decode cX5_commonDivisor 2 = .ok (.invokestatic 205, 3) := by decide +kernel
theorem dX5_commonDivisor_5 : decode cX5_commonDivisor 5 = .ok (.istore_n 2, 1) := by decide +kernel
theorem dX5_commonDivisor_6 : decode cX5_commonDivisor 6 = .ok (.iload_n 2, 1) := by decide +kernel
theorem dX5_commonDivisor_7 : decode cX5_commonDivisor 7 = .ok (.iconst 1, 1) := by decide +kernel
theorem dX5_commonDivisor_8 : decode cX5_commonDivisor 8 = .ok (.if_icmp .le 23, 3) := by decide +kernel
theorem dX5_commonDivisor_11 : decode cX5_commonDivisor 11 = .ok (.iload_n 0, 1) := by decide +kernel
theorem dX5_commonDivisor_12 : decode cX5_commonDivisor 12 = .ok (.iload_n 2, 1) := by decide +kernel
theorem dX5_commonDivisor_13 : decode cX5_commonDivisor 13 = .ok (.irem, 1) := by decide +kernel
theorem dX5_commonDivisor_14 : decode cX5_commonDivisor 14 = .ok (.ifCond .ne 11, 3) := by decide +kernel
theorem dX5_commonDivisor_17 : decode cX5_commonDivisor 17 = .ok (.iload_n 1, 1) := by decide +kernel
theorem dX5_commonDivisor_18 : decode cX5_commonDivisor 18 = .ok (.iload_n 2, 1) := by decide +kernel
theorem dX5_commonDivisor_19 : decode cX5_commonDivisor 19 = .ok (.irem, 1) := by decide +kernel
theorem dX5_commonDivisor_20 : decode cX5_commonDivisor 20 = .ok (.ifCond .ne 5, 3) := by decide +kernel
theorem dX5_commonDivisor_23 : decode cX5_commonDivisor 23 = .ok (.iload_n 2, 1) := by decide +kernel
theorem dX5_commonDivisor_24 : decode cX5_commonDivisor 24 = .ok (.ireturn, 1) := by decide +kernel
theorem dX5_commonDivisor_25 : decode cX5_commonDivisor 25 = .ok (.iinc 2 (-1), 3) := by decide +kernel
theorem dX5_commonDivisor_28 : decode cX5_commonDivisor 28 = .ok (.goto (-22), 3) := by decide +kernel
theorem dX5_commonDivisor_31 : decode cX5_commonDivisor 31 = .ok (.iconst 1, 1) := by decide +kernel
theorem dX5_commonDivisor_32 : decode cX5_commonDivisor 32 = .ok (.ireturn, 1) := by decide +kernel
theorem dX5_power_0 : decode cX5_power 0 = .ok (.lconst 1, 1) := by decide +kernel
theorem dX5_power_1 : decode cX5_power 1 = .ok (.lstore_n 3, 1) := by decide +kernel
theorem dX5_power_2 : decode cX5_power 2 = .ok (.iconst 0, 1) := by decide +kernel
theorem dX5_power_3 : decode cX5_power 3 = .ok (.istore 5, 2) := by decide +kernel
theorem dX5_power_5 : decode cX5_power 5 = .ok (.iload 5, 2) := by decide +kernel
theorem dX5_power_7 : decode cX5_power 7 = .ok (.iload_n 2, 1) := by decide +kernel
theorem dX5_power_8 : decode cX5_power 8 = .ok (.if_icmp .ge 13, 3) := by decide +kernel
theorem dX5_power_11 : decode cX5_power 11 = .ok (.lload_n 3, 1) := by decide +kernel
theorem dX5_power_12 : decode cX5_power 12 = .ok (.lload_n 0, 1) := by decide +kernel
theorem dX5_power_13 : decode cX5_power 13 = .ok (.lmul, 1) := by decide +kernel
theorem dX5_power_14 : decode cX5_power 14 = .ok (.lstore_n 3, 1) := by decide +kernel
theorem dX5_power_15 : decode cX5_power 15 = .ok (.iinc 5 1, 3) := by decide +kernel
theorem dX5_power_18 : decode cX5_power 18 = .ok (.goto (-13), 3) := by decide +kernel
theorem dX5_power_21 : decode cX5_power 21 = .ok (.lload_n 3, 1) := by decide +kernel
theorem dX5_power_22 : decode cX5_power 22 = .ok (.lreturn, 1) := by decide +kernel
theorem dX6_init_0 : decode cX6_init 0 = .ok (.aload_n 0, 1) := by decide +kernel
theorem dX6_init_1 : decode cX6_init 1 = .ok (.invokespecial 1, 3) := by decide +kernel
theorem dX6_init_4 : decode cX6_init 4 = .ok (.aload_n 0, 1) := by decide +kernel
theorem dX6_init_5 : decode cX6_init 5 = .ok (.bipush 83, 2) := by decide +kernel
theorem dX6_init_7 : decode cX6_init 7 = .ok (.newarray .int, 2) := by decide +kernel
theorem dX6_init_9 : decode cX6_init 9 = .ok (.putfield 7, 3) := by decide +kernel
theorem dX6_init_12 : decode cX6_init 12 = .ok (.aload_n 0, 1) := by decide +kernel
theorem dX6_init_13 : decode cX6_init 13 = .ok (.bipush 83, 2) := by decide +kernel
theorem dX6_init_15 : decode cX6_init 15 = .ok (.newarray .int, 2) := by decide +kernel
theorem dX6_init_17 : decode cX6_init 17 = .ok (.putfield 13, 3) := by decide +kernel
theorem dX6_init_20 : decode cX6_init 20 = .ok (.aload_n 0, 1) := by decide +kernel
theorem dX6_init_21 : decode cX6_init 21 = .ok (.bipush 83, 2) := by decide +kernel
theorem dX6_init_23 : decode cX6_init 23 = .ok (.newarray .int, 2) := by decide +kernel
theorem dX6_init_25 : decode cX6_init 25 = .ok (.putfield 16, 3) := by decide +kernel
theorem dX6_init_28 : decode cX6_init 28 = .ok (.aload_n 0, 1) := by decide +kernel
theorem dX6_init_29 : decode cX6_init 29 = .ok (.bipush 83, 2) := by decide +kernel
theorem dX6_init_31 : decode cX6_init 31 = .ok (.newarray .int, 2) := by decide +kernel
theorem dX6_init_33 : decode cX6_init 33 = .ok (.putfield 19, 3) := by decide +kernel
theorem dX6_init_36 : decode cX6_init 36 = .ok (.aload_n 0, 1) := by decide +kernel
theorem dX6_init_37 : decode cX6_init 37 = .ok (.bipush 7, 2) := by decide +kernel
theorem dX6_init_39 : decode cX6_init 39 = .ok (.newarray .int, 2) := by decide +kernel
theorem dX6_init_41 : decode cX6_init 41 = .ok (.putfield 22, 3) := by decide +kernel
theorem dX6_init_44 : decode cX6_init 44 = .ok (.aload_n 0, 1) := by decide +kernel
theorem dX6_init_45 : decode cX6_init 45 = .ok (.bipush 120, 2) := by decide +kernel
theorem dX6_init_47 : decode cX6_init 47 = .ok (.newarray .byte, 2) := by decide +kernel
theorem dX6_init_49 : decode cX6_init 49 = .ok (.putfield 25, 3) := by decide +kernel
theorem dX6_init_52 : decode cX6_init 52 = .ok (.aload_n 0, 1) := by decide +kernel
theorem dX6_init_53 : decode cX6_init 53 = .ok (.iconst 4, 1) := by decide +kernel
theorem dX6_init_54 : decode cX6_init 54 = .ok (.newarray .int, 2) := by decide +kernel
theorem dX6_init_56 : decode cX6_init 56 = .ok (.putfield 29, 3) := by decide +kernel
theorem dX6_init_59 : decode cX6_init 59 = .ok (.aload_n 0, 1) := by decide +kernel
theorem dX6_init_60 : decode cX6_init 60 = .ok (.iconst 4, 1) := by decide +kernel
theorem dX6_init_61 : decode cX6_init 61 = .ok (.newarray .int, 2) := by decide +kernel
theorem dX6_init_63 : decode cX6_init 63 = .ok (.putfield 32, 3) := by decide +kernel
theorem dX6_init_66 : decode cX6_init 66 = .ok (.aload_n 0, 1) := by decide +kernel
theorem dX6_init_67 : decode cX6_init 67 = .ok (.sipush 160, 3) := by decide +kernel
theorem dX6_init_70 : decode cX6_init 70 = .ok (.newarray .int, 2) := by decide +kernel
theorem dX6_init_72 : decode cX6_init 72 = .ok (.putfield 35, 3) := by decide +kernel
theorem dX6_init_75 : decode cX6_init 75 = .ok (.aload_n 0, 1) := by decide +kernel
theorem dX6_init_76 : decode cX6_init 76 = .ok (.bipush 40, 2) := by decide +kernel
theorem dX6_init_78 : decode cX6_init 78 = .ok (.newarray .int, 2) := by decide +kernel
theorem dX6_init_80 : decode cX6_init 80 = .ok (.putfield 38, 3) := by decide +kernel
theorem dX6_init_83 : decode cX6_init 83 = .ok (.aload_n 0, 1) := by decide +kernel
theorem dX6_init_84 : decode cX6_init 84 = .ok (.getfield 7, 3) := by decide +kernel
theorem dX6_init_87 : decode cX6_init 87 = .ok (.iconst 2, 1) := by decide +kernel
theorem dX6_init_88 : decode cX6_init 88 = .ok (.iconst 1, 1) := by decide +kernel
theorem dX6_init_89 : decode cX6_init 89 = .ok (.iastore, 1) := by decide +kernel
theorem dX6_init_90 : decode cX6_init 90 = .ok (.aload_n 0, 1) := by decide +kernel
theorem dX6_init_91 : decode cX6_init 91 = .ok (.getfield 7, 3) := by decide +kernel
theorem dX6_init_94 : decode cX6_init 94 = .ok (.iconst 4, 1) := by decide +kernel
theorem dX6_init_95 : decode cX6_init 95 = .ok (.iconst 2, 1) := by decide +kernel
theorem dX6_init_96 : decode cX6_init 96 = .ok (.iastore, 1) := by decide +kernel
theorem dX6_init_97 : decode cX6_init 97 = .ok (.aload_n 0, 1) := by decide +kernel
theorem dX6_init_98 : decode cX6_init 98 = .ok (.getfield 7, 3) := by decide +kernel
theorem dX6_init_101 : decode cX6_init 101 = .ok (.iconst 5, 1) := by decide +kernel
theorem dX6_init_102 : decode cX6_init 102 = .ok (.iconst 4, 1) := by decide +kernel
theorem dX6_init_103 : decode cX6_init 103 = .ok (.iastore, 1) := by decide +kernel
theorem dX6_init_104 : decode cX6_init 104 = .ok (.iconst 0, 1) := by decide +kernel
theorem dX6_init_105 : decode cX6_init 105 = .ok (.istore_n 1, 1) := by decide +kernel
theorem dX6_init_106 : decode cX6_init 106 = .ok (.iload_n 1, 1) := by decide +kernel
theorem dX6_init_107 : decode cX6_init 107 = .ok (.bipush 6, 2) := by decide +kernel
theorem dX6_init_109 : decode cX6_init 109 = .ok (.if_icmp .ge 19, 3) := by decide +kernel
theorem dX6_init_112 : decode cX6_init 112 = .ok (.aload_n 0, 1) := by decide +kernel
theorem dX6_init_113 : decode cX6_init 113 = .ok (.getfield 7, 3) := by decide +kernel
theorem dX6_init_116 : decode cX6_init 116 = .ok (.bipush 7, 2) := by decide +kernel
theorem dX6_init_118 : decode cX6_init 118 = .ok (.iload_n 1, 1) := by decide +kernel
theorem dX6_init_119 : decode cX6_init 119 = .ok (.iadd, 1) := by decide +kernel
theorem dX6_init_120 : decode cX6_init 120 = .ok (.iload_n 1, 1) := by decide +kernel
theorem dX6_init_121 : decode cX6_init 121 = .ok (.iastore, 1) := by decide +kernel
theorem dX6_init_122 : decode cX6_init 122 = .ok (.iinc 1 1, 3) := by decide +kernel
theorem dX6_init_125 : decode cX6_init 125 = .ok (.goto (-19), 3) := by decide +kernel
theorem dX6_init_128 : decode cX6_init 128 = .ok (.return_, 1) := by decide +kernel
theorem dX6_finds_0 : decode cX6_finds 0 = .ok (.aload_n 0, 1) := by decide +kernel
theorem dX6_finds_1 : decode cX6_finds 1 = .ok (.getfield 22, 3) := by decide +kernel
theorem dX6_finds_4 : decode cX6_finds 4 = .ok (.iload_n 1, 1) := by decide +kernel
theorem dX6_finds_5 : decode cX6_finds 5 = .ok (.dup2, 1) := by decide +kernel
theorem dX6_finds_6 : decode cX6_finds 6 = .ok (.iaload, 1) := by decide +kernel
theorem dX6_finds_7 : decode cX6_finds 7 = .ok (.iconst 1, 1) := by decide +kernel
theorem dX6_finds_8 : decode cX6_finds 8 = .ok (.iadd, 1) := by decide +kernel
theorem dX6_finds_9 : decode cX6_finds 9 = .ok (.iastore, 1) := by decide +kernel
theorem dX6_finds_10 : decode cX6_finds 10 = .ok (.ldc 41, 2) := by decide +kernel
theorem dX6_finds_12 : decode cX6_finds 12 = .ok (.iload_n 1, 1) := by decide +kernel
theorem dX6_finds_13 : decode cX6_finds 13 = .ok (.isub, 1) := by decide +kernel
theorem dX6_finds_14 : decode cX6_finds 14 = .ok (.ireturn, 1) := by decide +kernel
theorem dX6_in_0 : decode cX6_in 0 = .ok (.lload_n 0, 1) := by decide +kernel
theorem dX6_in_1 : decode cX6_in 1 = .ok (.lload_n 2, 1) := by decide +kernel
theorem dX6_in_2 : decode cX6_in 2 = .ok (.lcmp, 1) := by decide +kernel
theorem dX6_in_3 : decode cX6_in 3 = .ok (.ifCond .lt 14, 3) := by decide +kernel
theorem dX6_in_6 : decode cX6_in 6 = .ok (.lload_n 0, 1) := by decide +kernel
theorem dX6_in_7 : decode cX6_in 7 = .ok (.lload 4, 2) := by decide +kernel
theorem dX6_in_9 : decode cX6_in 9 = .ok (.lcmp, 1) := by decide +kernel
theorem dX6_in_10 : decode cX6_in 10 = .ok (.ifCond .gt 7, 3) := by decide +kernel
theorem dX6_in_13 : decode cX6_in 13 = .ok (.iconst 1, 1) := by decide +kernel
theorem dX6_in_14 : decode cX6_in 14 = .ok (.goto 4, 3) := by decide +kernel
theorem dX6_in_17 : decode cX6_in 17 = .ok (.iconst 0, 1) := by decide +kernel
theorem dX6_in_18 : decode cX6_in 18 = .ok (.ireturn, 1) := by decide +kernel
theorem dX6_held_0 : decode cX6_held 0 = .ok (.iload_n 0, 1) := by decide +kernel
theorem dX6_held_1 : decode cX6_held 1 = .ok (.iload_n 1, 1) := by decide +kernel
theorem dX6_held_2 : decode cX6_held 2 = .ok (.if_icmp .ge 7, 3) := by decide +kernel
theorem dX6_held_5 : decode cX6_held 5 = .ok (.iload_n 1, 1) := by decide +kernel
theorem dX6_held_6 : decode cX6_held 6 = .ok (.goto 13, 3) := by decide +kernel
theorem dX6_held_9 : decode cX6_held 9 = .ok (.iload_n 0, 1) := by decide +kernel
theorem dX6_held_10 : decode cX6_held 10 = .ok (.iload_n 2, 1) := by decide +kernel
theorem dX6_held_11 : decode cX6_held 11 = .ok (.if_icmp .le 7, 3) := by decide +kernel
theorem dX6_held_14 : decode cX6_held 14 = .ok (.iload_n 2, 1) := by decide +kernel
theorem dX6_held_15 : decode cX6_held 15 = .ok (.goto 4, 3) := by decide +kernel
theorem dX6_held_18 : decode cX6_held 18 = .ok (.iload_n 0, 1) := by decide +kernel
theorem dX6_held_19 : decode cX6_held 19 = .ok (.ireturn, 1) := by decide +kernel
theorem dX6_size_0 : decode cX6_size 0 = .ok (.iload_n 0, 1) := by decide +kernel
theorem dX6_size_1 : decode cX6_size 1 = .ok (.ifCond .ge 8, 3) := by decide +kernel
theorem dX6_size_4 : decode cX6_size 4 = .ok (.iload_n 0, 1) := by decide +kernel
theorem dX6_size_5 : decode cX6_size 5 = .ok (.ineg, 1) := by decide +kernel
theorem dX6_size_6 : decode cX6_size 6 = .ok (.goto 4, 3) := by decide +kernel
theorem dX6_size_9 : decode cX6_size 9 = .ok (.iload_n 0, 1) := by decide +kernel
theorem dX6_size_10 : decode cX6_size 10 = .ok (.ireturn, 1) := by decide +kernel
theorem dX6_copies_0 : decode cX6_copies 0 = .ok (.iconst 0, 1) := by decide +kernel
theorem dX6_copies_1 : decode cX6_copies 1 = .ok (.istore_n 2, 1) := by decide +kernel
theorem dX6_copies_2 : decode cX6_copies 2 = .ok (.iload_n 2, 1) := by decide +kernel
theorem dX6_copies_3 : decode cX6_copies 3 = .ok (.bipush 83, 2) := by decide +kernel
theorem dX6_copies_5 : decode cX6_copies 5 = .ok (.if_icmp .ge 15, 3) := by decide +kernel
theorem dX6_copies_8 : decode cX6_copies 8 = .ok (.aload_n 1, 1) := by decide +kernel
theorem dX6_copies_9 : decode cX6_copies 9 = .ok (.iload_n 2, 1) := by decide +kernel
theorem dX6_copies_10 : decode cX6_copies 10 = .ok (.aload_n 0, 1) := by decide +kernel
theorem dX6_copies_11 : decode cX6_copies 11 = .ok (.iload_n 2, 1) := by decide +kernel
theorem dX6_copies_12 : decode cX6_copies 12 = .ok (.iaload, 1) := by decide +kernel
theorem dX6_copies_13 : decode cX6_copies 13 = .ok (.iastore, 1) := by decide +kernel
theorem dX6_copies_14 : decode cX6_copies 14 = .ok (.iinc 2 1, 3) := by decide +kernel
theorem dX6_copies_17 : decode cX6_copies 17 = .ok (.goto (-15), 3) := by decide +kernel
theorem dX6_copies_20 : decode cX6_copies 20 = .ok (.return_, 1) := by decide +kernel
set_option maxRecDepth 20000 in
theorem ggX6_isResident_X6_in : GoodIn wsX6_isResident wsX6_in := goodIn_r _ [5] (by decide +kernel) (by decide +kernel)
set_option maxRecDepth 20000 in
theorem gX6_isResident_X6_in : GoodIn wsX6_isResident (va_wsS RX6 42 yX6_in wsX6_in) := goodIn_app (goodIn_of _ (by decide +kernel)) ggX6_isResident_X6_in
theorem dX6_isResident_0 : decode cX6_isResident 0 = .ok (.iload_n 1, 1) := by decide +kernel
theorem dX6_isResident_1 : decode cX6_isResident 1 = .ok (.i2l, 1) := by decide +kernel
theorem dX6_isResident_2 : decode cX6_isResident 2 = .ok (.lconst 0, 1) := by decide +kernel
theorem dX6_isResident_3 : decode cX6_isResident 3 = .ok (.aload_n 0, 1) := by decide +kernel
theorem dX6_isResident_4 : decode cX6_isResident 4 = .ok (.getfield 7, 3) := by decide +kernel
theorem dX6_isResident_7 : decode cX6_isResident 7 = .ok (.iconst 0, 1) := by decide +kernel
theorem dX6_isResident_8 : decode cX6_isResident 8 = .ok (.iaload, 1) := by decide +kernel
theorem dX6_isResident_9 : decode cX6_isResident 9 = .ok (.iconst 1, 1) := by decide +kernel
theorem dX6_isResident_10 : decode cX6_isResident 10 = .ok (.isub, 1) := by decide +kernel
theorem dX6_isResident_11 : decode cX6_isResident 11 = .ok (.i2l, 1) := by decide +kernel
theorem dX6_isResident_12 : decode cX6_isResident 12 = .ok (.invokestatic 42, 3) := by decide +kernel
theorem dX6_isResident_15 : decode cX6_isResident 15 = .ok (.ireturn, 1) := by decide +kernel
set_option maxRecDepth 20000 in
theorem ggX6_isDoor_X6_in : GoodIn wsX6_isDoor wsX6_in := goodIn_r _ [5] (by decide +kernel) (by decide +kernel)
set_option maxRecDepth 20000 in
theorem gX6_isDoor_X6_in : GoodIn wsX6_isDoor (va_wsS RX6 42 yX6_in wsX6_in) := goodIn_app (goodIn_of _ (by decide +kernel)) ggX6_isDoor_X6_in
theorem dX6_isDoor_0 : decode cX6_isDoor 0 = .ok (.iload_n 0, 1) := by decide +kernel
theorem dX6_isDoor_1 : decode cX6_isDoor 1 = .ok (.i2l, 1) := by decide +kernel
theorem dX6_isDoor_2 : decode cX6_isDoor 2 = .ok (.lconst 0, 1) := by decide +kernel
theorem dX6_isDoor_3 : decode cX6_isDoor 3 = .ok (.ldc2_w 46, 3) := by decide +kernel
theorem dX6_isDoor_6 : decode cX6_isDoor 6 = .ok (.invokestatic 42, 3) := by decide +kernel
theorem dX6_isDoor_9 : decode cX6_isDoor 9 = .ok (.ireturn, 1) := by decide +kernel
set_option maxRecDepth 20000 in
theorem ggX6_isGood_X6_in : GoodIn wsX6_isGood wsX6_in := goodIn_r _ [5] (by decide +kernel) (by decide +kernel)
set_option maxRecDepth 20000 in
theorem gX6_isGood_X6_in : GoodIn wsX6_isGood (va_wsS RX6 42 yX6_in wsX6_in) := goodIn_app (goodIn_of _ (by decide +kernel)) ggX6_isGood_X6_in
theorem dX6_isGood_0 : decode cX6_isGood 0 = .ok (.iload_n 0, 1) := by decide +kernel
theorem dX6_isGood_1 : decode cX6_isGood 1 = .ok (.i2l, 1) := by decide +kernel
theorem dX6_isGood_2 : decode cX6_isGood 2 = .ok (.lconst 0, 1) := by decide +kernel
theorem dX6_isGood_3 : decode cX6_isGood 3 = .ok (.ldc2_w 48, 3) := by decide +kernel
theorem dX6_isGood_6 : decode cX6_isGood 6 = .ok (.invokestatic 42, 3) := by decide +kernel
theorem dX6_isGood_9 : decode cX6_isGood 9 = .ok (.ireturn, 1) := by decide +kernel
set_option maxRecDepth 20000 in
theorem ggX6_areGoods_X6_in : GoodIn wsX6_areGoods wsX6_in := goodIn_r _ [5] (by decide +kernel) (by decide +kernel)
set_option maxRecDepth 20000 in
theorem gX6_areGoods_X6_in : GoodIn wsX6_areGoods (va_wsS RX6 42 yX6_in wsX6_in) := goodIn_app (goodIn_of _ (by decide +kernel)) ggX6_areGoods_X6_in
theorem dX6_areGoods_0 : decode cX6_areGoods 0 = .ok (.iload_n 0, 1) := by decide +kernel
theorem dX6_areGoods_1 : decode cX6_areGoods 1 = .ok (.i2l, 1) := by decide +kernel
theorem dX6_areGoods_2 : decode cX6_areGoods 2 = .ok (.lconst 0, 1) := by decide +kernel
theorem dX6_areGoods_3 : decode cX6_areGoods 3 = .ok (.ldc2_w 50, 3) := by decide +kernel
theorem dX6_areGoods_6 : decode cX6_areGoods 6 = .ok (.invokestatic 42, 3) := by decide +kernel
theorem dX6_areGoods_9 : decode cX6_areGoods 9 = .ok (.ireturn, 1) := by decide +kernel
theorem dX6_its_0 : decode cX6_its 0 = .ok (.aload_n 0, 1) := by decide +kernel
theorem dX6_its_1 : decode cX6_its 1 = .ok (.getfield 7, 3) := by decide +kernel
theorem dX6_its_4 : decode cX6_its 4 = .ok (.bipush 25, 2) := by decide +kernel
theorem dX6_its_6 : decode cX6_its 6 = .ok (.bipush 8, 2) := by decide +kernel
theorem dX6_its_8 : decode cX6_its 8 = .ok (.iload_n 2, 1) := by decide +kernel
theorem dX6_its_9 : decode cX6_its 9 = .ok (.imul, 1) := by decide +kernel
theorem dX6_its_10 : decode cX6_its 10 = .ok (.iadd, 1) := by decide +kernel
theorem dX6_its_11 : decode cX6_its 11 = .ok (.iload_n 1, 1) := by decide +kernel
theorem dX6_its_12 : decode cX6_its 12 = .ok (.iadd, 1) := by decide +kernel
theorem dX6_its_13 : decode cX6_its 13 = .ok (.iaload, 1) := by decide +kernel
theorem dX6_its_14 : decode cX6_its 14 = .ok (.ireturn, 1) := by decide +kernel
theorem dX6_sets_0 : decode cX6_sets 0 = .ok (.aload_n 0, 1) := by decide +kernel
theorem dX6_sets_1 : decode cX6_sets 1 = .ok (.getfield 7, 3) := by decide +kernel
theorem dX6_sets_4 : decode cX6_sets 4 = .ok (.bipush 25, 2) := by decide +kernel
theorem dX6_sets_6 : decode cX6_sets 6 = .ok (.bipush 8, 2) := by decide +kernel
theorem dX6_sets_8 : decode cX6_sets 8 = .ok (.iload_n 2, 1) := by decide +kernel
theorem dX6_sets_9 : decode cX6_sets 9 = .ok (.imul, 1) := by decide +kernel
theorem dX6_sets_10 : decode cX6_sets 10 = .ok (.iadd, 1) := by decide +kernel
theorem dX6_sets_11 : decode cX6_sets 11 = .ok (.iload_n 1, 1) := by decide +kernel
theorem dX6_sets_12 : decode cX6_sets 12 = .ok (.iadd, 1) := by decide +kernel
theorem dX6_sets_13 : decode cX6_sets 13 = .ok (.iload_n 3, 1) := by decide +kernel
theorem dX6_sets_14 : decode cX6_sets 14 = .ok (.iastore, 1) := by decide +kernel
theorem dX6_sets_15 : decode cX6_sets 15 = .ok (.return_, 1) := by decide +kernel
theorem dX6_becomes_0 : decode cX6_becomes 0 = .ok (.aload_n 0, 1) := by decide +kernel
theorem dX6_becomes_1 : decode cX6_becomes 1 = .ok (.getfield 7, 3) := by decide +kernel
theorem dX6_becomes_4 : decode cX6_becomes 4 = .ok (.iload_n 1, 1) := by decide +kernel
theorem dX6_becomes_5 : decode cX6_becomes 5 = .ok (.iaload, 1) := by decide +kernel
theorem dX6_becomes_6 : decode cX6_becomes 6 = .ok (.istore_n 3, 1) := by decide +kernel
theorem dX6_becomes_7 : decode cX6_becomes 7 = .ok (.aload_n 0, 1) := by decide +kernel
theorem dX6_becomes_8 : decode cX6_becomes 8 = .ok (.getfield 7, 3) := by decide +kernel
theorem dX6_becomes_11 : decode cX6_becomes 11 = .ok (.iload_n 1, 1) := by decide +kernel
theorem dX6_becomes_12 : decode cX6_becomes 12 = .ok (.iload_n 2, 1) := by decide +kernel
theorem dX6_becomes_13 : decode cX6_becomes 13 = .ok (.iastore, 1) := by decide +kernel
theorem dX6_becomes_14 : decode cX6_becomes 14 = .ok (.iload_n 3, 1) := by decide +kernel
theorem dX6_becomes_15 : decode cX6_becomes 15 = .ok (.ireturn, 1) := by decide +kernel
theorem dX6_ones_0 : decode cX6_ones 0 = .ok (.iconst 0, 1) := by decide +kernel
theorem dX6_ones_1 : decode cX6_ones 1 = .ok (.istore_n 1, 1) := by decide +kernel
theorem dX6_ones_2 : decode cX6_ones 2 = .ok (.iconst 0, 1) := by decide +kernel
theorem dX6_ones_3 : decode cX6_ones 3 = .ok (.istore_n 2, 1) := by decide +kernel
theorem dX6_ones_4 : decode cX6_ones 4 = .ok (.iload_n 2, 1) := by decide +kernel
theorem dX6_ones_5 : decode cX6_ones 5 = .ok (.bipush 12, 2) := by decide +kernel
theorem dX6_ones_7 : decode cX6_ones 7 = .ok (.if_icmp .ge 17, 3) := by decide +kernel
theorem dX6_ones_10 : decode cX6_ones 10 = .ok (.iload_n 1, 1) := by decide +kernel
theorem dX6_ones_11 : decode cX6_ones 11 = .ok (.iload_n 0, 1) := by decide +kernel
theorem dX6_ones_12 : decode cX6_ones 12 = .ok (.iload_n 2, 1) := by decide +kernel
theorem dX6_ones_13 : decode cX6_ones 13 = .ok (.ishr, 1) := by decide +kernel
theorem dX6_ones_14 : decode cX6_ones 14 = .ok (.iconst 1, 1) := by decide +kernel
theorem dX6_ones_15 : decode cX6_ones 15 = .ok (.iand, 1) := by decide +kernel
theorem dX6_ones_16 : decode cX6_ones 16 = .ok (.iadd, 1) := by decide +kernel
theorem dX6_ones_17 : decode cX6_ones 17 = .ok (.istore_n 1, 1) := by decide +kernel
theorem dX6_ones_18 : decode cX6_ones 18 = .ok (.iinc 2 1, 3) := by decide +kernel
theorem dX6_ones_21 : decode cX6_ones 21 = .ok (.goto (-17), 3) := by decide +kernel
theorem dX6_ones_24 : decode cX6_ones 24 = .ok (.iload_n 1, 1) := by decide +kernel
theorem dX6_ones_25 : decode cX6_ones 25 = .ok (.ireturn, 1) := by decide +kernel
set_option maxRecDepth 20000 in
theorem ggX6_isAway_X6_its : GoodIn wsX6_isAway wsX6_its := goodIn_r _ [5, 6, 7, 8, 9, 10, 11, 12, 13, 14, 15, 16, 17, 18, 19, 20, 21, 22, 23] (by decide +kernel) (by decide +kernel)
set_option maxRecDepth 20000 in
theorem gX6_isAway_X6_its : GoodIn wsX6_isAway (wsV RX6 52 RX6 yX6_its wsX6_its) := goodIn_app (goodIn_of _ (by decide +kernel)) ggX6_isAway_X6_its
theorem dX6_isAway_0 : decode cX6_isAway 0 = .ok (.aload_n 0, 1) := by decide +kernel
theorem dX6_isAway_1 : decode cX6_isAway 1 = .ok (.iload_n 1, 1) := by decide +kernel
theorem dX6_isAway_2 : decode cX6_isAway 2 = .ok (.iconst 5, 1) := by decide +kernel
theorem dX6_isAway_3 : decode cX6_isAway 3 = .ok (.invokevirtual 52, 3) := by decide +kernel
theorem dX6_isAway_6 : decode cX6_isAway 6 = .ok (.iconst 1, 1) := by decide +kernel
theorem dX6_isAway_7 : decode cX6_isAway 7 = .ok (.if_icmp .ne 7, 3) := by decide +kernel
theorem dX6_isAway_10 : decode cX6_isAway 10 = .ok (.iconst 1, 1) := by decide +kernel
theorem dX6_isAway_11 : decode cX6_isAway 11 = .ok (.goto 4, 3) := by decide +kernel
theorem dX6_isAway_14 : decode cX6_isAway 14 = .ok (.iconst 0, 1) := by decide +kernel
theorem dX6_isAway_15 : decode cX6_isAway 15 = .ok (.ireturn, 1) := by decide +kernel
set_option maxRecDepth 20000 in
theorem ggX6_isWanting_X6_its : GoodIn wsX6_isWanting wsX6_its := goodIn_r _ [5, 6, 7, 8, 9, 10, 11, 12, 13, 14, 15, 16, 17, 18, 19, 20, 21, 22, 23] (by decide +kernel) (by decide +kernel)
set_option maxRecDepth 20000 in
theorem gX6_isWanting_X6_its : GoodIn wsX6_isWanting (wsV RX6 52 RX6 yX6_its wsX6_its) := goodIn_app (goodIn_of _ (by decide +kernel)) ggX6_isWanting_X6_its
theorem dX6_isWanting_0 : decode cX6_isWanting 0 = .ok (.aload_n 0, 1) := by decide +kernel
theorem dX6_isWanting_1 : decode cX6_isWanting 1 = .ok (.iload_n 1, 1) := by decide +kernel
theorem dX6_isWanting_2 : decode cX6_isWanting 2 = .ok (.iconst 2, 1) := by decide +kernel
theorem dX6_isWanting_3 : decode cX6_isWanting 3 = .ok (.invokevirtual 52, 3) := by decide +kernel
theorem dX6_isWanting_6 : decode cX6_isWanting 6 = .ok (.iload_n 2, 1) := by decide +kernel
theorem dX6_isWanting_7 : decode cX6_isWanting 7 = .ok (.ishr, 1) := by decide +kernel
theorem dX6_isWanting_8 : decode cX6_isWanting 8 = .ok (.iconst 1, 1) := by decide +kernel
theorem dX6_isWanting_9 : decode cX6_isWanting 9 = .ok (.iand, 1) := by decide +kernel
theorem dX6_isWanting_10 : decode cX6_isWanting 10 = .ok (.iconst 1, 1) := by decide +kernel
theorem dX6_isWanting_11 : decode cX6_isWanting 11 = .ok (.if_icmp .ne 7, 3) := by decide +kernel
theorem dX6_isWanting_14 : decode cX6_isWanting 14 = .ok (.iconst 1, 1) := by decide +kernel
theorem dX6_isWanting_15 : decode cX6_isWanting 15 = .ok (.goto 4, 3) := by decide +kernel
theorem dX6_isWanting_18 : decode cX6_isWanting 18 = .ok (.iconst 0, 1) := by decide +kernel
theorem dX6_isWanting_19 : decode cX6_isWanting 19 = .ok (.ireturn, 1) := by decide +kernel
set_option maxRecDepth 20000 in
theorem ggX6_far_X6_its : GoodIn wsX6_far wsX6_its := goodIn_r _ [6, 1, 10, 11, 12, 13, 14, 15, 16, 17, 18, 19, 20, 21, 22, 23, 24, 25, 26] (by decide +kernel) (by decide +kernel)
set_option maxRecDepth 20000 in
theorem gX6_far_X6_its : GoodIn wsX6_far (wsV RX6 52 RX6 yX6_its wsX6_its) := goodIn_app (goodIn_of _ (by decide +kernel)) ggX6_far_X6_its
set_option maxRecDepth 20000 in
theorem ggX6_far_X6_size : GoodIn wsX6_far wsX6_size := goodIn_r _ [9] (by decide +kernel) (by decide +kernel)
set_option maxRecDepth 20000 in
theorem gX6_far_X6_size : GoodIn wsX6_far (va_wsS RX6 56 yX6_size wsX6_size) := goodIn_app (goodIn_of _ (by decide +kernel)) ggX6_far_X6_size
theorem dX6_far_0 : decode cX6_far 0 = .ok (.aload_n 0, 1) := by decide +kernel
theorem dX6_far_1 : decode cX6_far 1 = .ok (.iload_n 1, 1) := by decide +kernel
theorem dX6_far_2 : decode cX6_far 2 = .ok (.iconst 1, 1) := by decide +kernel
theorem dX6_far_3 : decode cX6_far 3 = .ok (.invokevirtual 52, 3) := by decide +kernel
theorem dX6_far_6 : decode cX6_far 6 = .ok (.aload_n 0, 1) := by decide +kernel
theorem dX6_far_7 : decode cX6_far 7 = .ok (.getfield 7, 3) := by decide +kernel
theorem dX6_far_10 : decode cX6_far 10 = .ok (.iconst 3, 1) := by decide +kernel
theorem dX6_far_11 : decode cX6_far 11 = .ok (.iaload, 1) := by decide +kernel
theorem dX6_far_12 : decode cX6_far 12 = .ok (.isub, 1) := by decide +kernel
theorem dX6_far_13 : decode cX6_far 13 = .ok (.invokestatic 56, 3) := by decide +kernel
theorem dX6_far_16 : decode cX6_far 16 = .ok (.ireturn, 1) := by decide +kernel
set_option maxRecDepth 20000 in
theorem ggX6_hears_X6_its : GoodIn wsX6_hears wsX6_its := goodIn_r _ [6, 1, 7, 8, 9, 10, 11, 12, 13, 14, 15, 16, 17, 18, 19, 20, 21, 22, 23] (by decide +kernel) (by decide +kernel)
set_option maxRecDepth 20000 in
theorem gX6_hears_X6_its : GoodIn wsX6_hears (wsV RX6 52 RX6 yX6_its wsX6_its) := goodIn_app (goodIn_of _ (by decide +kernel)) ggX6_hears_X6_its
theorem dX6_hears_0 : decode cX6_hears 0 = .ok (.aload_n 0, 1) := by decide +kernel
theorem dX6_hears_1 : decode cX6_hears 1 = .ok (.getfield 7, 3) := by decide +kernel
theorem dX6_hears_4 : decode cX6_hears 4 = .ok (.iconst 5, 1) := by decide +kernel
theorem dX6_hears_5 : decode cX6_hears 5 = .ok (.iaload, 1) := by decide +kernel
theorem dX6_hears_6 : decode cX6_hears 6 = .ok (.istore_n 2, 1) := by decide +kernel
theorem dX6_hears_7 : decode cX6_hears 7 = .ok (.iload_n 2, 1) := by decide +kernel
theorem dX6_hears_8 : decode cX6_hears 8 = .ok (.iconst 2, 1) := by decide +kernel
theorem dX6_hears_9 : decode cX6_hears 9 = .ok (.iadd, 1) := by decide +kernel
theorem dX6_hears_10 : decode cX6_hears 10 = .ok (.iconst 2, 1) := by decide +kernel
theorem dX6_hears_11 : decode cX6_hears 11 = .ok (.idiv, 1) := by decide +kernel
theorem dX6_hears_12 : decode cX6_hears 12 = .ok (.istore_n 3, 1) := by decide +kernel
theorem dX6_hears_13 : decode cX6_hears 13 = .ok (.aload_n 0, 1) := by decide +kernel
theorem dX6_hears_14 : decode cX6_hears 14 = .ok (.iload_n 1, 1) := by decide +kernel
theorem dX6_hears_15 : decode cX6_hears 15 = .ok (.iconst 0, 1) := by decide +kernel
theorem dX6_hears_16 : decode cX6_hears 16 = .ok (.invokevirtual 52, 3) := by decide +kernel
theorem dX6_hears_19 : decode cX6_hears 19 = .ok (.tableswitch 71 1 6 #[37, 62, 41, 43, 69, 66], 37) := by decide +kernel
theorem dX6_hears_56 : decode cX6_hears 56 = .ok (.iload_n 2, 1) := by decide +kernel
theorem dX6_hears_57 : decode cX6_hears 57 = .ok (.iconst 2, 1) := by decide +kernel
theorem dX6_hears_58 : decode cX6_hears 58 = .ok (.iadd, 1) := by decide +kernel
theorem dX6_hears_59 : decode cX6_hears 59 = .ok (.ireturn, 1) := by decide +kernel
theorem dX6_hears_60 : decode cX6_hears 60 = .ok (.iload_n 3, 1) := by decide +kernel
theorem dX6_hears_61 : decode cX6_hears 61 = .ok (.ireturn, 1) := by decide +kernel
theorem dX6_hears_62 : decode cX6_hears 62 = .ok (.iload_n 3, 1) := by decide +kernel
theorem dX6_hears_63 : decode cX6_hears 63 = .ok (.aload_n 0, 1) := by decide +kernel
theorem dX6_hears_64 : decode cX6_hears 64 = .ok (.iload_n 1, 1) := by decide +kernel
theorem dX6_hears_65 : decode cX6_hears 65 = .ok (.iconst 3, 1) := by decide +kernel
theorem dX6_hears_66 : decode cX6_hears 66 = .ok (.invokevirtual 52, 3) := by decide +kernel
theorem dX6_hears_69 : decode cX6_hears 69 = .ok (.bipush 50, 2) := by decide +kernel
theorem dX6_hears_71 : decode cX6_hears 71 = .ok (.if_icmp .lt 7, 3) := by decide +kernel
theorem dX6_hears_74 : decode cX6_hears 74 = .ok (.iconst 1, 1) := by decide +kernel
theorem dX6_hears_75 : decode cX6_hears 75 = .ok (.goto 4, 3) := by decide +kernel
theorem dX6_hears_78 : decode cX6_hears 78 = .ok (.iconst 0, 1) := by decide +kernel
theorem dX6_hears_79 : decode cX6_hears 79 = .ok (.iadd, 1) := by decide +kernel
theorem dX6_hears_80 : decode cX6_hears 80 = .ok (.ireturn, 1) := by decide +kernel
theorem dX6_hears_81 : decode cX6_hears 81 = .ok (.iconst 2, 1) := by decide +kernel
theorem dX6_hears_82 : decode cX6_hears 82 = .ok (.iload_n 2, 1) := by decide +kernel
theorem dX6_hears_83 : decode cX6_hears 83 = .ok (.imul, 1) := by decide +kernel
theorem dX6_hears_84 : decode cX6_hears 84 = .ok (.ireturn, 1) := by decide +kernel
theorem dX6_hears_85 : decode cX6_hears 85 = .ok (.bipush 15, 2) := by decide +kernel
theorem dX6_hears_87 : decode cX6_hears 87 = .ok (.ireturn, 1) := by decide +kernel
theorem dX6_hears_88 : decode cX6_hears 88 = .ok (.iconst 0, 1) := by decide +kernel
theorem dX6_hears_89 : decode cX6_hears 89 = .ok (.ireturn, 1) := by decide +kernel
theorem dX6_hears_90 : decode cX6_hears 90 = .ok (.iload_n 2, 1) := by decide +kernel
theorem dX6_hears_91 : decode cX6_hears 91 = .ok (.ireturn, 1) := by decide +kernel
set_option maxRecDepth 20000 in
theorem ggX6_trusts_X6_its : GoodIn wsX6_trusts wsX6_its := goodIn_r _ [5, 6, 7, 8, 9, 10, 11, 12, 13, 14, 15, 16, 17, 18, 19, 20, 21, 22, 23] (by decide +kernel) (by decide +kernel)
set_option maxRecDepth 20000 in
theorem gX6_trusts_X6_its : GoodIn wsX6_trusts (wsV RX6 52 RX6 yX6_its wsX6_its) := goodIn_app (goodIn_of _ (by decide +kernel)) ggX6_trusts_X6_its
theorem dX6_trusts_0 : decode cX6_trusts 0 = .ok (.aload_n 0, 1) := by decide +kernel
theorem dX6_trusts_1 : decode cX6_trusts 1 = .ok (.iload_n 1, 1) := by decide +kernel
theorem dX6_trusts_2 : decode cX6_trusts 2 = .ok (.iconst 0, 1) := by decide +kernel
theorem dX6_trusts_3 : decode cX6_trusts 3 = .ok (.invokevirtual 52, 3) := by decide +kernel
theorem dX6_trusts_6 : decode cX6_trusts 6 = .ok (.tableswitch 65 1 6 #[38, 65, 41, 44, 65, 46], 38) := by decide +kernel
theorem dX6_trusts_44 : decode cX6_trusts 44 = .ok (.bipush 10, 2) := by decide +kernel
theorem dX6_trusts_46 : decode cX6_trusts 46 = .ok (.ireturn, 1) := by decide +kernel
theorem dX6_trusts_47 : decode cX6_trusts 47 = .ok (.bipush 40, 2) := by decide +kernel
theorem dX6_trusts_49 : decode cX6_trusts 49 = .ok (.ireturn, 1) := by decide +kernel
theorem dX6_trusts_50 : decode cX6_trusts 50 = .ok (.iconst 0, 1) := by decide +kernel
theorem dX6_trusts_51 : decode cX6_trusts 51 = .ok (.ireturn, 1) := by decide +kernel
theorem dX6_trusts_52 : decode cX6_trusts 52 = .ok (.aload_n 0, 1) := by decide +kernel
theorem dX6_trusts_53 : decode cX6_trusts 53 = .ok (.iload_n 1, 1) := by decide +kernel
theorem dX6_trusts_54 : decode cX6_trusts 54 = .ok (.iconst 4, 1) := by decide +kernel
theorem dX6_trusts_55 : decode cX6_trusts 55 = .ok (.invokevirtual 52, 3) := by decide +kernel
theorem dX6_trusts_58 : decode cX6_trusts 58 = .ok (.bipush 10, 2) := by decide +kernel
theorem dX6_trusts_60 : decode cX6_trusts 60 = .ok (.if_icmp .lt 8, 3) := by decide +kernel
theorem dX6_trusts_63 : decode cX6_trusts 63 = .ok (.bipush 60, 2) := by decide +kernel
theorem dX6_trusts_65 : decode cX6_trusts 65 = .ok (.goto 5, 3) := by decide +kernel
theorem dX6_trusts_68 : decode cX6_trusts 68 = .ok (.bipush 20, 2) := by decide +kernel
theorem dX6_trusts_70 : decode cX6_trusts 70 = .ok (.ireturn, 1) := by decide +kernel
theorem dX6_trusts_71 : decode cX6_trusts 71 = .ok (.bipush 20, 2) := by decide +kernel
theorem dX6_trusts_73 : decode cX6_trusts 73 = .ok (.ireturn, 1) := by decide +kernel
set_option maxRecDepth 20000 in
theorem ggX6_loses_X6_its : GoodIn wsX6_loses wsX6_its := goodIn_r _ [5, 6, 10, 11, 12, 13, 14, 15, 16, 17, 18, 19, 20, 21, 22, 23, 24, 25, 26] (by decide +kernel) (by decide +kernel)
set_option maxRecDepth 20000 in
theorem gX6_loses_X6_its : GoodIn wsX6_loses (wsV RX6 52 RX6 yX6_its wsX6_its) := goodIn_app (goodIn_of _ (by decide +kernel)) ggX6_loses_X6_its
set_option maxRecDepth 20000 in
theorem ggX6_loses_X6_ones : GoodIn wsX6_loses wsX6_ones := goodIn_r _ [9] (by decide +kernel) (by decide +kernel)
set_option maxRecDepth 20000 in
theorem gX6_loses_X6_ones : GoodIn wsX6_loses (va_wsS RX6 60 yX6_ones wsX6_ones) := goodIn_app (goodIn_of _ (by decide +kernel)) ggX6_loses_X6_ones
theorem dX6_loses_0 : decode cX6_loses 0 = .ok (.aload_n 0, 1) := by decide +kernel
theorem dX6_loses_1 : decode cX6_loses 1 = .ok (.iload_n 1, 1) := by decide +kernel
theorem dX6_loses_2 : decode cX6_loses 2 = .ok (.iconst 0, 1) := by decide +kernel
theorem dX6_loses_3 : decode cX6_loses 3 = .ok (.invokevirtual 52, 3) := by decide +kernel
theorem dX6_loses_6 : decode cX6_loses 6 = .ok (.tableswitch 61 1 6 #[38, 42, 38, 40, 48, 45], 38) := by decide +kernel
theorem dX6_loses_44 : decode cX6_loses 44 = .ok (.iconst 5, 1) := by decide +kernel
theorem dX6_loses_45 : decode cX6_loses 45 = .ok (.ireturn, 1) := by decide +kernel
theorem dX6_loses_46 : decode cX6_loses 46 = .ok (.iconst 1, 1) := by decide +kernel
theorem dX6_loses_47 : decode cX6_loses 47 = .ok (.ireturn, 1) := by decide +kernel
theorem dX6_loses_48 : decode cX6_loses 48 = .ok (.bipush 16, 2) := by decide +kernel
theorem dX6_loses_50 : decode cX6_loses 50 = .ok (.ireturn, 1) := by decide +kernel
theorem dX6_loses_51 : decode cX6_loses 51 = .ok (.bipush 10, 2) := by decide +kernel
theorem dX6_loses_53 : decode cX6_loses 53 = .ok (.ireturn, 1) := by decide +kernel
theorem dX6_loses_54 : decode cX6_loses 54 = .ok (.bipush 8, 2) := by decide +kernel
theorem dX6_loses_56 : decode cX6_loses 56 = .ok (.aload_n 0, 1) := by decide +kernel
theorem dX6_loses_57 : decode cX6_loses 57 = .ok (.iload_n 1, 1) := by decide +kernel
theorem dX6_loses_58 : decode cX6_loses 58 = .ok (.iconst 2, 1) := by decide +kernel
theorem dX6_loses_59 : decode cX6_loses 59 = .ok (.invokevirtual 52, 3) := by decide +kernel
theorem dX6_loses_62 : decode cX6_loses 62 = .ok (.invokestatic 60, 3) := by decide +kernel
theorem dX6_loses_65 : decode cX6_loses 65 = .ok (.iadd, 1) := by decide +kernel
theorem dX6_loses_66 : decode cX6_loses 66 = .ok (.ireturn, 1) := by decide +kernel
theorem dX6_loses_67 : decode cX6_loses 67 = .ok (.bipush 8, 2) := by decide +kernel
theorem dX6_loses_69 : decode cX6_loses 69 = .ok (.ireturn, 1) := by decide +kernel
set_option maxRecDepth 20000 in
theorem ggX6_mends_X6_its : GoodIn wsX6_mends wsX6_its := goodIn_r _ [5, 6, 7, 8, 9, 10, 11, 12, 13, 14, 15, 16, 17, 18, 19, 20, 21, 22, 23] (by decide +kernel) (by decide +kernel)
set_option maxRecDepth 20000 in
theorem gX6_mends_X6_its : GoodIn wsX6_mends (wsV RX6 52 RX6 yX6_its wsX6_its) := goodIn_app (goodIn_of _ (by decide +kernel)) ggX6_mends_X6_its
theorem dX6_mends_0 : decode cX6_mends 0 = .ok (.aload_n 0, 1) := by decide +kernel
theorem dX6_mends_1 : decode cX6_mends 1 = .ok (.iload_n 1, 1) := by decide +kernel
theorem dX6_mends_2 : decode cX6_mends 2 = .ok (.iconst 0, 1) := by decide +kernel
theorem dX6_mends_3 : decode cX6_mends 3 = .ok (.invokevirtual 52, 3) := by decide +kernel
theorem dX6_mends_6 : decode cX6_mends 6 = .ok (.tableswitch 47 1 6 #[38, 47, 38, 40, 45, 43], 38) := by decide +kernel
theorem dX6_mends_44 : decode cX6_mends 44 = .ok (.iconst 3, 1) := by decide +kernel
theorem dX6_mends_45 : decode cX6_mends 45 = .ok (.ireturn, 1) := by decide +kernel
theorem dX6_mends_46 : decode cX6_mends 46 = .ok (.bipush 6, 2) := by decide +kernel
theorem dX6_mends_48 : decode cX6_mends 48 = .ok (.ireturn, 1) := by decide +kernel
theorem dX6_mends_49 : decode cX6_mends 49 = .ok (.iconst 5, 1) := by decide +kernel
theorem dX6_mends_50 : decode cX6_mends 50 = .ok (.ireturn, 1) := by decide +kernel
theorem dX6_mends_51 : decode cX6_mends 51 = .ok (.iconst 0, 1) := by decide +kernel
theorem dX6_mends_52 : decode cX6_mends 52 = .ok (.ireturn, 1) := by decide +kernel
theorem dX6_mends_53 : decode cX6_mends 53 = .ok (.iconst 2, 1) := by decide +kernel
theorem dX6_mends_54 : decode cX6_mends 54 = .ok (.ireturn, 1) := by decide +kernel
set_option maxRecDepth 20000 in
theorem ggX6_isTempted_X6_its : GoodIn wsX6_isTempted wsX6_its := goodIn_r _ [5, 6, 7, 8, 9, 10, 11, 12, 13, 14, 15, 16, 17, 18, 19, 20, 21, 22, 23] (by decide +kernel) (by decide +kernel)
set_option maxRecDepth 20000 in
theorem gX6_isTempted_X6_its : GoodIn wsX6_isTempted (wsV RX6 52 RX6 yX6_its wsX6_its) := goodIn_app (goodIn_of _ (by decide +kernel)) ggX6_isTempted_X6_its
theorem dX6_isTempted_0 : decode cX6_isTempted 0 = .ok (.aload_n 0, 1) := by decide +kernel
theorem dX6_isTempted_1 : decode cX6_isTempted 1 = .ok (.iload_n 1, 1) := by decide +kernel
theorem dX6_isTempted_2 : decode cX6_isTempted 2 = .ok (.iconst 0, 1) := by decide +kernel
theorem dX6_isTempted_3 : decode cX6_isTempted 3 = .ok (.invokevirtual 52, 3) := by decide +kernel
theorem dX6_isTempted_6 : decode cX6_isTempted 6 = .ok (.tableswitch 81 2 6 #[51, 34, 36, 34, 63], 34) := by decide +kernel
theorem dX6_isTempted_40 : decode cX6_isTempted 40 = .ok (.iconst 0, 1) := by decide +kernel
theorem dX6_isTempted_41 : decode cX6_isTempted 41 = .ok (.ireturn, 1) := by decide +kernel
theorem dX6_isTempted_42 : decode cX6_isTempted 42 = .ok (.aload_n 0, 1) := by decide +kernel
theorem dX6_isTempted_43 : decode cX6_isTempted 43 = .ok (.iload_n 1, 1) := by decide +kernel
theorem dX6_isTempted_44 : decode cX6_isTempted 44 = .ok (.iconst 2, 1) := by decide +kernel
theorem dX6_isTempted_45 : decode cX6_isTempted 45 = .ok (.invokevirtual 52, 3) := by decide +kernel
theorem dX6_isTempted_48 : decode cX6_isTempted 48 = .ok (.ifCond .ne 7, 3) := by decide +kernel
theorem dX6_isTempted_51 : decode cX6_isTempted 51 = .ok (.iconst 1, 1) := by decide +kernel
theorem dX6_isTempted_52 : decode cX6_isTempted 52 = .ok (.goto 4, 3) := by decide +kernel
theorem dX6_isTempted_55 : decode cX6_isTempted 55 = .ok (.iconst 0, 1) := by decide +kernel
theorem dX6_isTempted_56 : decode cX6_isTempted 56 = .ok (.ireturn, 1) := by decide +kernel
theorem dX6_isTempted_57 : decode cX6_isTempted 57 = .ok (.iload_n 2, 1) := by decide +kernel
theorem dX6_isTempted_58 : decode cX6_isTempted 58 = .ok (.iconst 2, 1) := by decide +kernel
theorem dX6_isTempted_59 : decode cX6_isTempted 59 = .ok (.irem, 1) := by decide +kernel
theorem dX6_isTempted_60 : decode cX6_isTempted 60 = .ok (.ifCond .ne 7, 3) := by decide +kernel
theorem dX6_isTempted_63 : decode cX6_isTempted 63 = .ok (.iconst 1, 1) := by decide +kernel
theorem dX6_isTempted_64 : decode cX6_isTempted 64 = .ok (.goto 4, 3) := by decide +kernel
theorem dX6_isTempted_67 : decode cX6_isTempted 67 = .ok (.iconst 0, 1) := by decide +kernel
theorem dX6_isTempted_68 : decode cX6_isTempted 68 = .ok (.ireturn, 1) := by decide +kernel
theorem dX6_isTempted_69 : decode cX6_isTempted 69 = .ok (.iload_n 2, 1) := by decide +kernel
theorem dX6_isTempted_70 : decode cX6_isTempted 70 = .ok (.iconst 2, 1) := by decide +kernel
theorem dX6_isTempted_71 : decode cX6_isTempted 71 = .ok (.irem, 1) := by decide +kernel
theorem dX6_isTempted_72 : decode cX6_isTempted 72 = .ok (.ifCond .eq 9, 3) := by decide +kernel
theorem dX6_isTempted_75 : decode cX6_isTempted 75 = .ok (.iload_n 2, 1) := by decide +kernel
theorem dX6_isTempted_76 : decode cX6_isTempted 76 = .ok (.bipush 11, 2) := by decide +kernel
theorem dX6_isTempted_78 : decode cX6_isTempted 78 = .ok (.if_icmp .ne 7, 3) := by decide +kernel
theorem dX6_isTempted_81 : decode cX6_isTempted 81 = .ok (.iconst 1, 1) := by decide +kernel
theorem dX6_isTempted_82 : decode cX6_isTempted 82 = .ok (.goto 4, 3) := by decide +kernel
theorem dX6_isTempted_85 : decode cX6_isTempted 85 = .ok (.iconst 0, 1) := by decide +kernel
theorem dX6_isTempted_86 : decode cX6_isTempted 86 = .ok (.ireturn, 1) := by decide +kernel
theorem dX6_isTempted_87 : decode cX6_isTempted 87 = .ok (.aload_n 0, 1) := by decide +kernel
theorem dX6_isTempted_88 : decode cX6_isTempted 88 = .ok (.iload_n 1, 1) := by decide +kernel
theorem dX6_isTempted_89 : decode cX6_isTempted 89 = .ok (.iconst 3, 1) := by decide +kernel
theorem dX6_isTempted_90 : decode cX6_isTempted 90 = .ok (.invokevirtual 52, 3) := by decide +kernel
theorem dX6_isTempted_93 : decode cX6_isTempted 93 = .ok (.bipush 80, 2) := by decide +kernel
theorem dX6_isTempted_95 : decode cX6_isTempted 95 = .ok (.if_icmp .lt 7, 3) := by decide +kernel
theorem dX6_isTempted_98 : decode cX6_isTempted 98 = .ok (.iconst 1, 1) := by decide +kernel
theorem dX6_isTempted_99 : decode cX6_isTempted 99 = .ok (.goto 4, 3) := by decide +kernel
theorem dX6_isTempted_102 : decode cX6_isTempted 102 = .ok (.iconst 0, 1) := by decide +kernel
theorem dX6_isTempted_103 : decode cX6_isTempted 103 = .ok (.ireturn, 1) := by decide +kernel
set_option maxRecDepth 20000 in
theorem ggX6_isComing_X6_isAway : GoodIn wsX6_isComing wsX6_isAway := goodIn_r _ [5, 6, 7, 8, 4, 9, 10, 30, 31, 32, 33, 34, 35, 36, 37, 38, 39, 40, 41, 42, 43, 44, 45, 46] (by decide +kernel) (by decide +kernel)
set_option maxRecDepth 20000 in
theorem gX6_isComing_X6_isAway : GoodIn wsX6_isComing (wsV RX6 63 RX6 yX6_isAway wsX6_isAway) := goodIn_app (goodIn_of _ (by decide +kernel)) ggX6_isComing_X6_isAway
set_option maxRecDepth 20000 in
theorem ggX6_isComing_X6_far : GoodIn wsX6_isComing wsX6_far := goodIn_r _ [14, 10, 6, 7, 8, 4, 9, 15, 16, 17, 30, 31, 32, 33, 34, 35, 36, 37, 38, 39, 40, 41, 42, 43, 44, 45, 46] (by decide +kernel) (by decide +kernel)
set_option maxRecDepth 20000 in
theorem gX6_isComing_X6_far : GoodIn wsX6_isComing (wsV RX6 67 RX6 yX6_far wsX6_far) := goodIn_app (goodIn_of _ (by decide +kernel)) ggX6_isComing_X6_far
set_option maxRecDepth 20000 in
theorem ggX6_isComing_X6_hears : GoodIn wsX6_isComing wsX6_hears := goodIn_r _ [21, 10, 6, 7, 8, 4, 9, 30, 31, 32, 33, 34, 35, 36, 37, 38, 39, 40, 41, 42, 43, 44, 45, 46] (by decide +kernel) (by decide +kernel)
set_option maxRecDepth 20000 in
theorem gX6_isComing_X6_hears : GoodIn wsX6_isComing (wsV RX6 70 RX6 yX6_hears wsX6_hears) := goodIn_app (goodIn_of _ (by decide +kernel)) ggX6_isComing_X6_hears
set_option maxRecDepth 20000 in
theorem ggX6_isComing_X6_isWanting : GoodIn wsX6_isComing wsX6_isWanting := goodIn_r _ [25, 6, 7, 8, 4, 9, 10, 30, 31, 32, 33, 34, 35, 36, 37, 38, 39, 40, 41, 42, 43, 44, 45, 46] (by decide +kernel) (by decide +kernel)
set_option maxRecDepth 20000 in
theorem gX6_isComing_X6_isWanting : GoodIn wsX6_isComing (wsV RX6 73 RX6 yX6_isWanting wsX6_isWanting) := goodIn_app (goodIn_of _ (by decide +kernel)) ggX6_isComing_X6_isWanting
set_option maxRecDepth 20000 in
theorem ggX6_isComing_X6_its : GoodIn wsX6_isComing wsX6_its := goodIn_r _ [9, 10, 30, 31, 32, 33, 34, 35, 36, 37, 38, 39, 40, 41, 42, 43, 44, 45, 46] (by decide +kernel) (by decide +kernel)
set_option maxRecDepth 20000 in
theorem gX6_isComing_X6_its : GoodIn wsX6_isComing (wsV RX6 52 RX6 yX6_its wsX6_its) := goodIn_app (goodIn_of _ (by decide +kernel)) ggX6_isComing_X6_its
set_option maxRecDepth 20000 in
theorem ggX6_isComing_X6_trusts : GoodIn wsX6_isComing wsX6_trusts := goodIn_r _ [29, 6, 7, 8, 4, 9, 10, 30, 31, 32, 33, 34, 35, 36, 37, 38, 39, 40, 41, 42, 43, 44, 45, 46] (by decide +kernel) (by decide +kernel)
set_option maxRecDepth 20000 in
theorem gX6_isComing_X6_trusts : GoodIn wsX6_isComing (wsV RX6 77 RX6 yX6_trusts wsX6_trusts) := goodIn_app (goodIn_of _ (by decide +kernel)) ggX6_isComing_X6_trusts
theorem dX6_isComing_0 : decode cX6_isComing 0 = .ok (.aload_n 0, 1) := by decide +kernel
theorem dX6_isComing_1 : decode cX6_isComing 1 = .ok (.iload_n 1, 1) := by decide +kernel
theorem dX6_isComing_2 : decode cX6_isComing 2 = .ok (.invokevirtual 63, 3) := by decide +kernel
theorem dX6_isComing_5 : decode cX6_isComing 5 = .ok (.ifCond .ne 43, 3) := by decide +kernel
theorem dX6_isComing_8 : decode cX6_isComing 8 = .ok (.aload_n 0, 1) := by decide +kernel
theorem dX6_isComing_9 : decode cX6_isComing 9 = .ok (.iload_n 1, 1) := by decide +kernel
theorem dX6_isComing_10 : decode cX6_isComing 10 = .ok (.invokevirtual 67, 3) := by decide +kernel
theorem dX6_isComing_13 : decode cX6_isComing 13 = .ok (.aload_n 0, 1) := by decide +kernel
theorem dX6_isComing_14 : decode cX6_isComing 14 = .ok (.iload_n 1, 1) := by decide +kernel
theorem dX6_isComing_15 : decode cX6_isComing 15 = .ok (.invokevirtual 70, 3) := by decide +kernel
theorem dX6_isComing_18 : decode cX6_isComing 18 = .ok (.if_icmp .gt 30, 3) := by decide +kernel
theorem dX6_isComing_21 : decode cX6_isComing 21 = .ok (.aload_n 0, 1) := by decide +kernel
theorem dX6_isComing_22 : decode cX6_isComing 22 = .ok (.iload_n 1, 1) := by decide +kernel
theorem dX6_isComing_23 : decode cX6_isComing 23 = .ok (.iload_n 2, 1) := by decide +kernel
theorem dX6_isComing_24 : decode cX6_isComing 24 = .ok (.invokevirtual 73, 3) := by decide +kernel
theorem dX6_isComing_27 : decode cX6_isComing 27 = .ok (.ifCond .eq 21, 3) := by decide +kernel
theorem dX6_isComing_30 : decode cX6_isComing 30 = .ok (.aload_n 0, 1) := by decide +kernel
theorem dX6_isComing_31 : decode cX6_isComing 31 = .ok (.iload_n 1, 1) := by decide +kernel
theorem dX6_isComing_32 : decode cX6_isComing 32 = .ok (.iconst 3, 1) := by decide +kernel
theorem dX6_isComing_33 : decode cX6_isComing 33 = .ok (.invokevirtual 52, 3) := by decide +kernel
theorem dX6_isComing_36 : decode cX6_isComing 36 = .ok (.aload_n 0, 1) := by decide +kernel
theorem dX6_isComing_37 : decode cX6_isComing 37 = .ok (.iload_n 1, 1) := by decide +kernel
theorem dX6_isComing_38 : decode cX6_isComing 38 = .ok (.invokevirtual 77, 3) := by decide +kernel
theorem dX6_isComing_41 : decode cX6_isComing 41 = .ok (.if_icmp .lt 7, 3) := by decide +kernel
theorem dX6_isComing_44 : decode cX6_isComing 44 = .ok (.iconst 1, 1) := by decide +kernel
theorem dX6_isComing_45 : decode cX6_isComing 45 = .ok (.goto 4, 3) := by decide +kernel
theorem dX6_isComing_48 : decode cX6_isComing 48 = .ok (.iconst 0, 1) := by decide +kernel
theorem dX6_isComing_49 : decode cX6_isComing 49 = .ok (.ireturn, 1) := by decide +kernel
theorem dX6_fetch_0 : decode cX6_fetch 0 = .ok (.iconst 0, 1) := by decide +kernel
theorem dX6_fetch_1 : decode cX6_fetch 1 = .ok (.istore_n 1, 1) := by decide +kernel
theorem dX6_fetch_2 : decode cX6_fetch 2 = .ok (.iconst 0, 1) := by decide +kernel
theorem dX6_fetch_3 : decode cX6_fetch 3 = .ok (.istore_n 2, 1) := by decide +kernel
theorem dX6_fetch_4 : decode cX6_fetch 4 = .ok (.iconst 0, 1) := by decide +kernel
theorem dX6_fetch_5 : decode cX6_fetch 5 = .ok (.istore_n 3, 1) := by decide +kernel
theorem dX6_fetch_6 : decode cX6_fetch 6 = .ok (.iload_n 3, 1) := by decide +kernel
theorem dX6_fetch_7 : decode cX6_fetch 7 = .ok (.bipush 12, 2) := by decide +kernel
theorem dX6_fetch_9 : decode cX6_fetch 9 = .ok (.if_icmp .ge 46, 3) := by decide +kernel
theorem dX6_fetch_12 : decode cX6_fetch 12 = .ok (.aload_n 0, 1) := by decide +kernel
theorem dX6_fetch_13 : decode cX6_fetch 13 = .ok (.getfield 7, 3) := by decide +kernel
theorem dX6_fetch_16 : decode cX6_fetch 16 = .ok (.bipush 13, 2) := by decide +kernel
theorem dX6_fetch_18 : decode cX6_fetch 18 = .ok (.iload_n 3, 1) := by decide +kernel
theorem dX6_fetch_19 : decode cX6_fetch 19 = .ok (.iadd, 1) := by decide +kernel
theorem dX6_fetch_20 : decode cX6_fetch 20 = .ok (.iaload, 1) := by decide +kernel
theorem dX6_fetch_21 : decode cX6_fetch 21 = .ok (.istore 4, 2) := by decide +kernel
theorem dX6_fetch_23 : decode cX6_fetch 23 = .ok (.iload 4, 2) := by decide +kernel
theorem dX6_fetch_25 : decode cX6_fetch 25 = .ok (.iload_n 1, 1) := by decide +kernel
theorem dX6_fetch_26 : decode cX6_fetch 26 = .ok (.if_icmp .le 8, 3) := by decide +kernel
theorem dX6_fetch_29 : decode cX6_fetch 29 = .ok (.iload 4, 2) := by decide +kernel
theorem dX6_fetch_31 : decode cX6_fetch 31 = .ok (.goto 4, 3) := by decide +kernel
theorem dX6_fetch_34 : decode cX6_fetch 34 = .ok (.iload_n 1, 1) := by decide +kernel
theorem dX6_fetch_35 : decode cX6_fetch 35 = .ok (.istore_n 1, 1) := by decide +kernel
theorem dX6_fetch_36 : decode cX6_fetch 36 = .ok (.iload_n 2, 1) := by decide +kernel
theorem dX6_fetch_37 : decode cX6_fetch 37 = .ok (.iload 4, 2) := by decide +kernel
theorem dX6_fetch_39 : decode cX6_fetch 39 = .ok (.ifCond .le 7, 3) := by decide +kernel
theorem dX6_fetch_42 : decode cX6_fetch 42 = .ok (.iconst 1, 1) := by decide +kernel
theorem dX6_fetch_43 : decode cX6_fetch 43 = .ok (.goto 4, 3) := by decide +kernel
theorem dX6_fetch_46 : decode cX6_fetch 46 = .ok (.iconst 0, 1) := by decide +kernel
theorem dX6_fetch_47 : decode cX6_fetch 47 = .ok (.iadd, 1) := by decide +kernel
theorem dX6_fetch_48 : decode cX6_fetch 48 = .ok (.istore_n 2, 1) := by decide +kernel
theorem dX6_fetch_49 : decode cX6_fetch 49 = .ok (.iinc 3 1, 3) := by decide +kernel
theorem dX6_fetch_52 : decode cX6_fetch 52 = .ok (.goto (-46), 3) := by decide +kernel
theorem dX6_fetch_55 : decode cX6_fetch 55 = .ok (.iload_n 1, 1) := by decide +kernel
theorem dX6_fetch_56 : decode cX6_fetch 56 = .ok (.iconst 5, 1) := by decide +kernel
theorem dX6_fetch_57 : decode cX6_fetch 57 = .ok (.iload_n 2, 1) := by decide +kernel
theorem dX6_fetch_58 : decode cX6_fetch 58 = .ok (.imul, 1) := by decide +kernel
theorem dX6_fetch_59 : decode cX6_fetch 59 = .ok (.iadd, 1) := by decide +kernel
theorem dX6_fetch_60 : decode cX6_fetch 60 = .ok (.ireturn, 1) := by decide +kernel
set_option maxRecDepth 20000 in
theorem ggX6_dayGoes_X6_isAway : GoodIn wsX6_dayGoes wsX6_isAway := goodIn_r _ [7, 8, 9, 10, 6, 11, 1, 61, 62, 63, 64, 65, 66, 67, 68, 69, 70, 71, 72, 73, 74, 75, 76, 77] (by decide +kernel) (by decide +kernel)
set_option maxRecDepth 20000 in
theorem gX6_dayGoes_X6_isAway : GoodIn wsX6_dayGoes (wsV RX6 63 RX6 yX6_isAway wsX6_isAway) := goodIn_app (goodIn_of _ (by decide +kernel)) ggX6_dayGoes_X6_isAway
set_option maxRecDepth 20000 in
theorem ggX6_dayGoes_X6_isComing : GoodIn wsX6_dayGoes wsX6_isComing := goodIn_r _ [15, 3, 4, 5, 6, 7, 8, 9, 10, 11, 1, 16, 17, 18, 19, 20, 21, 22, 23, 24, 25, 26, 27, 28, 29, 30, 31, 32, 33, 34, 61, 62, 63, 64, 65, 66, 67, 68, 69, 70, 71, 72, 73, 74, 75, 76, 77] (by decide +kernel) (by decide +kernel)
set_option maxRecDepth 20000 in
theorem gX6_dayGoes_X6_isComing : GoodIn wsX6_dayGoes (wsV RX6 80 RX6 yX6_isComing wsX6_isComing) := goodIn_app (goodIn_of _ (by decide +kernel)) ggX6_dayGoes_X6_isComing
set_option maxRecDepth 20000 in
theorem ggX6_dayGoes_X6_its : GoodIn wsX6_dayGoes wsX6_its := goodIn_r _ [11, 1, 61, 62, 63, 64, 65, 66, 67, 68, 69, 70, 71, 72, 73, 74, 75, 76, 77] (by decide +kernel) (by decide +kernel)
set_option maxRecDepth 20000 in
theorem gX6_dayGoes_X6_its : GoodIn wsX6_dayGoes (wsV RX6 52 RX6 yX6_its wsX6_its) := goodIn_app (goodIn_of _ (by decide +kernel)) ggX6_dayGoes_X6_its
set_option maxRecDepth 20000 in
theorem ggX6_dayGoes_X6_loses : GoodIn wsX6_dayGoes wsX6_loses := goodIn_r _ [38, 8, 9, 10, 6, 11, 1, 39, 40, 41, 61, 62, 63, 64, 65, 66, 67, 68, 69, 70, 71, 72, 73, 74, 75, 76, 77] (by decide +kernel) (by decide +kernel)
set_option maxRecDepth 20000 in
theorem gX6_dayGoes_X6_loses : GoodIn wsX6_dayGoes (wsV RX6 83 RX6 yX6_loses wsX6_loses) := goodIn_app (goodIn_of _ (by decide +kernel)) ggX6_dayGoes_X6_loses
set_option maxRecDepth 20000 in
theorem ggX6_dayGoes_X6_held : GoodIn wsX6_dayGoes wsX6_held := goodIn_r _ [44] (by decide +kernel) (by decide +kernel)
set_option maxRecDepth 20000 in
theorem gX6_dayGoes_X6_held : GoodIn wsX6_dayGoes (va_wsS RX6 86 yX6_held wsX6_held) := goodIn_app (goodIn_of _ (by decide +kernel)) ggX6_dayGoes_X6_held
set_option maxRecDepth 20000 in
theorem ggX6_dayGoes_X6_sets : GoodIn wsX6_dayGoes wsX6_sets := goodIn_r _ [48, 1, 61, 62, 63, 64, 65, 66, 67, 68, 69, 70, 71, 72, 73, 74, 75, 76, 77] (by decide +kernel) (by decide +kernel)
set_option maxRecDepth 20000 in
theorem gX6_dayGoes_X6_sets : GoodIn wsX6_dayGoes (wsV RX6 90 RX6 yX6_sets wsX6_sets) := goodIn_app (goodIn_of _ (by decide +kernel)) ggX6_dayGoes_X6_sets
set_option maxRecDepth 20000 in
theorem ggX6_dayGoes_X6_far : GoodIn wsX6_dayGoes wsX6_far := goodIn_r _ [19, 1, 8, 9, 10, 6, 11, 20, 21, 22, 61, 62, 63, 64, 65, 66, 67, 68, 69, 70, 71, 72, 73, 74, 75, 76, 77] (by decide +kernel) (by decide +kernel)
set_option maxRecDepth 20000 in
theorem gX6_dayGoes_X6_far : GoodIn wsX6_dayGoes (wsV RX6 67 RX6 yX6_far wsX6_far) := goodIn_app (goodIn_of _ (by decide +kernel)) ggX6_dayGoes_X6_far
set_option maxRecDepth 20000 in
theorem ggX6_dayGoes_X6_hears : GoodIn wsX6_dayGoes wsX6_hears := goodIn_r _ [26, 1, 8, 9, 10, 6, 11, 61, 62, 63, 64, 65, 66, 67, 68, 69, 70, 71, 72, 73, 74, 75, 76, 77] (by decide +kernel) (by decide +kernel)
set_option maxRecDepth 20000 in
theorem gX6_dayGoes_X6_hears : GoodIn wsX6_dayGoes (wsV RX6 70 RX6 yX6_hears wsX6_hears) := goodIn_app (goodIn_of _ (by decide +kernel)) ggX6_dayGoes_X6_hears
set_option maxRecDepth 20000 in
theorem ggX6_dayGoes_X6_isWanting : GoodIn wsX6_dayGoes wsX6_isWanting := goodIn_r _ [30, 8, 9, 10, 6, 11, 1, 61, 62, 63, 64, 65, 66, 67, 68, 69, 70, 71, 72, 73, 74, 75, 76, 77] (by decide +kernel) (by decide +kernel)
set_option maxRecDepth 20000 in
theorem gX6_dayGoes_X6_isWanting : GoodIn wsX6_dayGoes (wsV RX6 73 RX6 yX6_isWanting wsX6_isWanting) := goodIn_app (goodIn_of _ (by decide +kernel)) ggX6_dayGoes_X6_isWanting
set_option maxRecDepth 20000 in
theorem ggX6_dayGoes_X6_isTempted : GoodIn wsX6_dayGoes wsX6_isTempted := goodIn_r _ [52, 8, 9, 10, 6, 11, 1, 61, 62, 63, 64, 65, 66, 67, 68, 69, 70, 71, 72, 73, 74, 75, 76, 77] (by decide +kernel) (by decide +kernel)
set_option maxRecDepth 20000 in
theorem gX6_dayGoes_X6_isTempted : GoodIn wsX6_dayGoes (wsV RX6 94 RX6 yX6_isTempted wsX6_isTempted) := goodIn_app (goodIn_of _ (by decide +kernel)) ggX6_dayGoes_X6_isTempted
set_option maxRecDepth 20000 in
theorem ggX6_dayGoes_X6_mends : GoodIn wsX6_dayGoes wsX6_mends := goodIn_r _ [56, 8, 9, 10, 6, 11, 1, 61, 62, 63, 64, 65, 66, 67, 68, 69, 70, 71, 72, 73, 74, 75, 76, 77] (by decide +kernel) (by decide +kernel)
set_option maxRecDepth 20000 in
theorem gX6_dayGoes_X6_mends : GoodIn wsX6_dayGoes (wsV RX6 97 RX6 yX6_mends wsX6_mends) := goodIn_app (goodIn_of _ (by decide +kernel)) ggX6_dayGoes_X6_mends
set_option maxRecDepth 20000 in
theorem ggX6_dayGoes_X6_fetch : GoodIn wsX6_dayGoes wsX6_fetch := goodIn_r _ [60, 1, 61, 62, 63, 64, 65, 66, 67, 68, 69, 70, 71, 72, 73, 74, 75, 76, 77] (by decide +kernel) (by decide +kernel)
set_option maxRecDepth 20000 in
theorem gX6_dayGoes_X6_fetch : GoodIn wsX6_dayGoes (wsV RX6 100 RX6 yX6_fetch wsX6_fetch) := goodIn_app (goodIn_of _ (by decide +kernel)) ggX6_dayGoes_X6_fetch
theorem dX6_dayGoes_0 : decode cX6_dayGoes 0 = .ok (.aload_n 0, 1) := by decide +kernel
theorem dX6_dayGoes_1 : decode cX6_dayGoes 1 = .ok (.getfield 7, 3) := by decide +kernel
theorem dX6_dayGoes_4 : decode cX6_dayGoes 4 = .ok (.iconst 3, 1) := by decide +kernel
theorem dX6_dayGoes_5 : decode cX6_dayGoes 5 = .ok (.aload_n 0, 1) := by decide +kernel
theorem dX6_dayGoes_6 : decode cX6_dayGoes 6 = .ok (.getfield 7, 3) := by decide +kernel
theorem dX6_dayGoes_9 : decode cX6_dayGoes 9 = .ok (.iconst 3, 1) := by decide +kernel
theorem dX6_dayGoes_10 : decode cX6_dayGoes 10 = .ok (.iaload, 1) := by decide +kernel
theorem dX6_dayGoes_11 : decode cX6_dayGoes 11 = .ok (.aload_n 0, 1) := by decide +kernel
theorem dX6_dayGoes_12 : decode cX6_dayGoes 12 = .ok (.getfield 7, 3) := by decide +kernel
theorem dX6_dayGoes_15 : decode cX6_dayGoes 15 = .ok (.iconst 4, 1) := by decide +kernel
theorem dX6_dayGoes_16 : decode cX6_dayGoes 16 = .ok (.iaload, 1) := by decide +kernel
theorem dX6_dayGoes_17 : decode cX6_dayGoes 17 = .ok (.iadd, 1) := by decide +kernel
theorem dX6_dayGoes_18 : decode cX6_dayGoes 18 = .ok (.bipush 16, 2) := by decide +kernel
theorem dX6_dayGoes_20 : decode cX6_dayGoes 20 = .ok (.irem, 1) := by decide +kernel
theorem dX6_dayGoes_21 : decode cX6_dayGoes 21 = .ok (.iastore, 1) := by decide +kernel
theorem dX6_dayGoes_22 : decode cX6_dayGoes 22 = .ok (.aload_n 0, 1) := by decide +kernel
theorem dX6_dayGoes_23 : decode cX6_dayGoes 23 = .ok (.getfield 7, 3) := by decide +kernel
theorem dX6_dayGoes_26 : decode cX6_dayGoes 26 = .ok (.bipush 7, 2) := by decide +kernel
theorem dX6_dayGoes_28 : decode cX6_dayGoes 28 = .ok (.aload_n 0, 1) := by decide +kernel
theorem dX6_dayGoes_29 : decode cX6_dayGoes 29 = .ok (.getfield 7, 3) := by decide +kernel
theorem dX6_dayGoes_32 : decode cX6_dayGoes 32 = .ok (.iconst 1, 1) := by decide +kernel
theorem dX6_dayGoes_33 : decode cX6_dayGoes 33 = .ok (.iaload, 1) := by decide +kernel
theorem dX6_dayGoes_34 : decode cX6_dayGoes 34 = .ok (.bipush 6, 2) := by decide +kernel
theorem dX6_dayGoes_36 : decode cX6_dayGoes 36 = .ok (.irem, 1) := by decide +kernel
theorem dX6_dayGoes_37 : decode cX6_dayGoes 37 = .ok (.iadd, 1) := by decide +kernel
theorem dX6_dayGoes_38 : decode cX6_dayGoes 38 = .ok (.iaload, 1) := by decide +kernel
theorem dX6_dayGoes_39 : decode cX6_dayGoes 39 = .ok (.istore_n 1, 1) := by decide +kernel
theorem dX6_dayGoes_40 : decode cX6_dayGoes 40 = .ok (.iconst 0, 1) := by decide +kernel
theorem dX6_dayGoes_41 : decode cX6_dayGoes 41 = .ok (.istore_n 2, 1) := by decide +kernel
theorem dX6_dayGoes_42 : decode cX6_dayGoes 42 = .ok (.iload_n 2, 1) := by decide +kernel
theorem dX6_dayGoes_43 : decode cX6_dayGoes 43 = .ok (.aload_n 0, 1) := by decide +kernel
theorem dX6_dayGoes_44 : decode cX6_dayGoes 44 = .ok (.getfield 7, 3) := by decide +kernel
theorem dX6_dayGoes_47 : decode cX6_dayGoes 47 = .ok (.iconst 0, 1) := by decide +kernel
theorem dX6_dayGoes_48 : decode cX6_dayGoes 48 = .ok (.iaload, 1) := by decide +kernel
theorem dX6_dayGoes_49 : decode cX6_dayGoes 49 = .ok (.if_icmp .ge 191, 3) := by decide +kernel
theorem dX6_dayGoes_52 : decode cX6_dayGoes 52 = .ok (.aload_n 0, 1) := by decide +kernel
theorem dX6_dayGoes_53 : decode cX6_dayGoes 53 = .ok (.iload_n 2, 1) := by decide +kernel
theorem dX6_dayGoes_54 : decode cX6_dayGoes 54 = .ok (.invokevirtual 63, 3) := by decide +kernel
theorem dX6_dayGoes_57 : decode cX6_dayGoes 57 = .ok (.ifCond .eq 6, 3) := by decide +kernel
theorem dX6_dayGoes_60 : decode cX6_dayGoes 60 = .ok (.goto 174, 3) := by decide +kernel
theorem dX6_dayGoes_63 : decode cX6_dayGoes 63 = .ok (.aload_n 0, 1) := by decide +kernel
theorem dX6_dayGoes_64 : decode cX6_dayGoes 64 = .ok (.iload_n 2, 1) := by decide +kernel
theorem dX6_dayGoes_65 : decode cX6_dayGoes 65 = .ok (.iload_n 1, 1) := by decide +kernel
theorem dX6_dayGoes_66 : decode cX6_dayGoes 66 = .ok (.invokevirtual 80, 3) := by decide +kernel
theorem dX6_dayGoes_69 : decode cX6_dayGoes 69 = .ok (.ifCond .eq 80, 3) := by decide +kernel
theorem dX6_dayGoes_72 : decode cX6_dayGoes 72 = .ok (.aload_n 0, 1) := by decide +kernel
theorem dX6_dayGoes_73 : decode cX6_dayGoes 73 = .ok (.iload_n 2, 1) := by decide +kernel
theorem dX6_dayGoes_74 : decode cX6_dayGoes 74 = .ok (.iconst 3, 1) := by decide +kernel
theorem dX6_dayGoes_75 : decode cX6_dayGoes 75 = .ok (.invokevirtual 52, 3) := by decide +kernel
theorem dX6_dayGoes_78 : decode cX6_dayGoes 78 = .ok (.aload_n 0, 1) := by decide +kernel
theorem dX6_dayGoes_79 : decode cX6_dayGoes 79 = .ok (.iload_n 2, 1) := by decide +kernel
theorem dX6_dayGoes_80 : decode cX6_dayGoes 80 = .ok (.invokevirtual 83, 3) := by decide +kernel
theorem dX6_dayGoes_83 : decode cX6_dayGoes 83 = .ok (.isub, 1) := by decide +kernel
theorem dX6_dayGoes_84 : decode cX6_dayGoes 84 = .ok (.istore_n 3, 1) := by decide +kernel
theorem dX6_dayGoes_85 : decode cX6_dayGoes 85 = .ok (.aload_n 0, 1) := by decide +kernel
theorem dX6_dayGoes_86 : decode cX6_dayGoes 86 = .ok (.iload_n 2, 1) := by decide +kernel
theorem dX6_dayGoes_87 : decode cX6_dayGoes 87 = .ok (.iconst 4, 1) := by decide +kernel
theorem dX6_dayGoes_88 : decode cX6_dayGoes 88 = .ok (.aload_n 0, 1) := by decide +kernel
theorem dX6_dayGoes_89 : decode cX6_dayGoes 89 = .ok (.iload_n 2, 1) := by decide +kernel
theorem dX6_dayGoes_90 : decode cX6_dayGoes 90 = .ok (.iconst 4, 1) := by decide +kernel
theorem dX6_dayGoes_91 : decode cX6_dayGoes 91 = .ok (.invokevirtual 52, 3) := by decide +kernel
theorem dX6_dayGoes_94 : decode cX6_dayGoes 94 = .ok (.iconst 1, 1) := by decide +kernel
theorem dX6_dayGoes_95 : decode cX6_dayGoes 95 = .ok (.iadd, 1) := by decide +kernel
theorem dX6_dayGoes_96 : decode cX6_dayGoes 96 = .ok (.iconst 0, 1) := by decide +kernel
theorem dX6_dayGoes_97 : decode cX6_dayGoes 97 = .ok (.sipush 9999, 3) := by decide +kernel
theorem dX6_dayGoes_100 : decode cX6_dayGoes 100 = .ok (.invokestatic 86, 3) := by decide +kernel
theorem dX6_dayGoes_103 : decode cX6_dayGoes 103 = .ok (.invokevirtual 90, 3) := by decide +kernel
theorem dX6_dayGoes_106 : decode cX6_dayGoes 106 = .ok (.aload_n 0, 1) := by decide +kernel
theorem dX6_dayGoes_107 : decode cX6_dayGoes 107 = .ok (.getfield 7, 3) := by decide +kernel
theorem dX6_dayGoes_110 : decode cX6_dayGoes 110 = .ok (.bipush 13, 2) := by decide +kernel
theorem dX6_dayGoes_112 : decode cX6_dayGoes 112 = .ok (.iload_n 1, 1) := by decide +kernel
theorem dX6_dayGoes_113 : decode cX6_dayGoes 113 = .ok (.iadd, 1) := by decide +kernel
theorem dX6_dayGoes_114 : decode cX6_dayGoes 114 = .ok (.aload_n 0, 1) := by decide +kernel
theorem dX6_dayGoes_115 : decode cX6_dayGoes 115 = .ok (.getfield 7, 3) := by decide +kernel
theorem dX6_dayGoes_118 : decode cX6_dayGoes 118 = .ok (.bipush 13, 2) := by decide +kernel
theorem dX6_dayGoes_120 : decode cX6_dayGoes 120 = .ok (.iload_n 1, 1) := by decide +kernel
theorem dX6_dayGoes_121 : decode cX6_dayGoes 121 = .ok (.iadd, 1) := by decide +kernel
theorem dX6_dayGoes_122 : decode cX6_dayGoes 122 = .ok (.iaload, 1) := by decide +kernel
theorem dX6_dayGoes_123 : decode cX6_dayGoes 123 = .ok (.iconst 1, 1) := by decide +kernel
theorem dX6_dayGoes_124 : decode cX6_dayGoes 124 = .ok (.iadd, 1) := by decide +kernel
theorem dX6_dayGoes_125 : decode cX6_dayGoes 125 = .ok (.iconst 0, 1) := by decide +kernel
theorem dX6_dayGoes_126 : decode cX6_dayGoes 126 = .ok (.sipush 999, 3) := by decide +kernel
theorem dX6_dayGoes_129 : decode cX6_dayGoes 129 = .ok (.invokestatic 86, 3) := by decide +kernel
theorem dX6_dayGoes_132 : decode cX6_dayGoes 132 = .ok (.iastore, 1) := by decide +kernel
theorem dX6_dayGoes_133 : decode cX6_dayGoes 133 = .ok (.aload_n 0, 1) := by decide +kernel
theorem dX6_dayGoes_134 : decode cX6_dayGoes 134 = .ok (.iload_n 2, 1) := by decide +kernel
theorem dX6_dayGoes_135 : decode cX6_dayGoes 135 = .ok (.iconst 3, 1) := by decide +kernel
theorem dX6_dayGoes_136 : decode cX6_dayGoes 136 = .ok (.iload_n 3, 1) := by decide +kernel
theorem dX6_dayGoes_137 : decode cX6_dayGoes 137 = .ok (.iconst 0, 1) := by decide +kernel
theorem dX6_dayGoes_138 : decode cX6_dayGoes 138 = .ok (.bipush 99, 2) := by decide +kernel
theorem dX6_dayGoes_140 : decode cX6_dayGoes 140 = .ok (.invokestatic 86, 3) := by decide +kernel
theorem dX6_dayGoes_143 : decode cX6_dayGoes 143 = .ok (.invokevirtual 90, 3) := by decide +kernel
theorem dX6_dayGoes_146 : decode cX6_dayGoes 146 = .ok (.goto 88, 3) := by decide +kernel
theorem dX6_dayGoes_149 : decode cX6_dayGoes 149 = .ok (.aload_n 0, 1) := by decide +kernel
theorem dX6_dayGoes_150 : decode cX6_dayGoes 150 = .ok (.iload_n 2, 1) := by decide +kernel
theorem dX6_dayGoes_151 : decode cX6_dayGoes 151 = .ok (.invokevirtual 67, 3) := by decide +kernel
theorem dX6_dayGoes_154 : decode cX6_dayGoes 154 = .ok (.aload_n 0, 1) := by decide +kernel
theorem dX6_dayGoes_155 : decode cX6_dayGoes 155 = .ok (.iload_n 2, 1) := by decide +kernel
theorem dX6_dayGoes_156 : decode cX6_dayGoes 156 = .ok (.invokevirtual 70, 3) := by decide +kernel
theorem dX6_dayGoes_159 : decode cX6_dayGoes 159 = .ok (.if_icmp .gt 25, 3) := by decide +kernel
theorem dX6_dayGoes_162 : decode cX6_dayGoes 162 = .ok (.aload_n 0, 1) := by decide +kernel
theorem dX6_dayGoes_163 : decode cX6_dayGoes 163 = .ok (.iload_n 2, 1) := by decide +kernel
theorem dX6_dayGoes_164 : decode cX6_dayGoes 164 = .ok (.iload_n 1, 1) := by decide +kernel
theorem dX6_dayGoes_165 : decode cX6_dayGoes 165 = .ok (.invokevirtual 73, 3) := by decide +kernel
theorem dX6_dayGoes_168 : decode cX6_dayGoes 168 = .ok (.ifCond .ne 16, 3) := by decide +kernel
theorem dX6_dayGoes_171 : decode cX6_dayGoes 171 = .ok (.aload_n 0, 1) := by decide +kernel
theorem dX6_dayGoes_172 : decode cX6_dayGoes 172 = .ok (.iload_n 2, 1) := by decide +kernel
theorem dX6_dayGoes_173 : decode cX6_dayGoes 173 = .ok (.iload_n 1, 1) := by decide +kernel
theorem dX6_dayGoes_174 : decode cX6_dayGoes 174 = .ok (.invokevirtual 94, 3) := by decide +kernel
theorem dX6_dayGoes_177 : decode cX6_dayGoes 177 = .ok (.ifCond .eq 7, 3) := by decide +kernel
theorem dX6_dayGoes_180 : decode cX6_dayGoes 180 = .ok (.iconst 1, 1) := by decide +kernel
theorem dX6_dayGoes_181 : decode cX6_dayGoes 181 = .ok (.goto 4, 3) := by decide +kernel
theorem dX6_dayGoes_184 : decode cX6_dayGoes 184 = .ok (.iconst 0, 1) := by decide +kernel
theorem dX6_dayGoes_185 : decode cX6_dayGoes 185 = .ok (.istore_n 3, 1) := by decide +kernel
theorem dX6_dayGoes_186 : decode cX6_dayGoes 186 = .ok (.aload_n 0, 1) := by decide +kernel
theorem dX6_dayGoes_187 : decode cX6_dayGoes 187 = .ok (.iload_n 2, 1) := by decide +kernel
theorem dX6_dayGoes_188 : decode cX6_dayGoes 188 = .ok (.iconst 2, 1) := by decide +kernel
theorem dX6_dayGoes_189 : decode cX6_dayGoes 189 = .ok (.aload_n 0, 1) := by decide +kernel
theorem dX6_dayGoes_190 : decode cX6_dayGoes 190 = .ok (.iload_n 2, 1) := by decide +kernel
theorem dX6_dayGoes_191 : decode cX6_dayGoes 191 = .ok (.iconst 2, 1) := by decide +kernel
theorem dX6_dayGoes_192 : decode cX6_dayGoes 192 = .ok (.invokevirtual 52, 3) := by decide +kernel
theorem dX6_dayGoes_195 : decode cX6_dayGoes 195 = .ok (.iload_n 3, 1) := by decide +kernel
theorem dX6_dayGoes_196 : decode cX6_dayGoes 196 = .ok (.ifCond .eq 9, 3) := by decide +kernel
theorem dX6_dayGoes_199 : decode cX6_dayGoes 199 = .ok (.iconst 1, 1) := by decide +kernel
theorem dX6_dayGoes_200 : decode cX6_dayGoes 200 = .ok (.iload_n 1, 1) := by decide +kernel
theorem dX6_dayGoes_201 : decode cX6_dayGoes 201 = .ok (.ishl, 1) := by decide +kernel
theorem dX6_dayGoes_202 : decode cX6_dayGoes 202 = .ok (.goto 4, 3) := by decide +kernel
theorem dX6_dayGoes_205 : decode cX6_dayGoes 205 = .ok (.iconst 0, 1) := by decide +kernel
