set_option maxRecDepth 20000 in
theorem ggX5_stands_X5_daysUntil : GoodIn wsX5_stands wsX5_daysUntil := goodIn_r _ [21, 22, 1, 23, 24, 25, 26, 27, 6, 28, 29, 30, 31, 32, 33, 34, 35, 36, 37, 38, 39, 40, 8, 41, 42, 43, 44, 45, 46, 47, 48, 49, 50, 51, 52, 53, 54, 55, 10, 56, 57, 58, 59, 60, 61, 62, 63, 64, 65, 66, 67, 68, 69, 70, 71, 72, 73, 74, 75, 76, 77, 78, 79, 80, 81, 82, 83, 84, 85, 86, 87, 88, 89, 90, 91, 92, 93, 94, 95, 96, 97, 98, 99, 100, 101, 102, 103, 104, 105, 106, 107, 108, 109, 110, 111, 112, 113, 114, 115, 116, 117, 118, 119, 120, 121, 122, 123, 124, 125, 126, 127, 128, 129, 130, 131, 132, 133, 134, 135, 136, 137, 138, 139, 140, 141, 142, 143, 144, 145, 146, 147, 148, 149, 13, 14, 15, 16, 2, 17, 12, 9, 11, 150, 151, 152, 153, 154, 155, 156, 157, 158, 159, 160, 161, 162, 163, 164, 165, 166, 167, 168, 169, 170, 171, 172, 173, 174] (by decide +kernel) (by decide +kernel)
set_option maxRecDepth 20000 in
theorem gX5_stands_X5_daysUntil : GoodIn wsX5_stands (wsV RX5 160 RX5 yX5_daysUntil wsX5_daysUntil) := goodIn_app (goodIn_of _ (by decide +kernel)) ggX5_stands_X5_daysUntil
theorem dX5_stands_0 : decode cX5_stands 0 = .ok (.aload_n 0, 1) := by decide +kernel
theorem dX5_stands_1 : decode cX5_stands 1 = .ok (.getfield 12, 3) := by decide +kernel
theorem dX5_stands_4 : decode cX5_stands 4 = .ok (.iload_n 1, 1) := by decide +kernel
theorem dX5_stands_5 : decode cX5_stands 5 = .ok (.invokevirtual 94, 3) := by decide +kernel
theorem dX5_stands_8 : decode cX5_stands 8 = .ok (.ifCond .eq 14, 3) := by decide +kernel
theorem dX5_stands_11 : decode cX5_stands 11 = .ok (.iload_n 2, 1) := by decide +kernel
theorem dX5_stands_12 : decode cX5_stands 12 = .ok (.iconst 0, 1) := by decide +kernel
theorem dX5_stands_13 : decode cX5_stands 13 = .ok (.sipush 9999, 3) := by decide +kernel
theorem dX5_stands_16 : decode cX5_stands 16 = .ok (.invokestatic 47, 3) := by decide +kernel
theorem dX5_stands_19 : decode cX5_stands 19 = .ok (.ifCond .ne 10, 3) := by decide +kernel
theorem dX5_stands_22 : decode cX5_stands 22 = .ok (.aload_n 0, 1) := by decide +kernel
theorem dX5_stands_23 : decode cX5_stands 23 = .ok (.ldc 54, 2) := by decide +kernel
theorem dX5_stands_25 : decode cX5_stands 25 = .ok (.invokevirtual 55, 3) := by decide +kernel
theorem dX5_stands_28 : decode cX5_stands 28 = .ok (.ireturn, 1) := by decide +kernel
theorem dX5_stands_29 : decode cX5_stands 29 = .ok (.aload_n 0, 1) := by decide +kernel
theorem dX5_stands_30 : decode cX5_stands 30 = .ok (.iload_n 1, 1) := by decide +kernel
theorem dX5_stands_31 : decode cX5_stands 31 = .ok (.iconst 4, 1) := by decide +kernel
theorem dX5_stands_32 : decode cX5_stands 32 = .ok (.iload_n 2, 1) := by decide +kernel
theorem dX5_stands_33 : decode cX5_stands 33 = .ok (.invokevirtual 160, 3) := by decide +kernel
theorem dX5_stands_36 : decode cX5_stands 36 = .ok (.ireturn, 1) := by decide +kernel
set_option maxRecDepth 20000 in
theorem ggX5_wants_X2_has : GoodIn wsX5_wants wsX2_has := goodIn_r _ [7, 8, 9, 10, 11, 161, 162, 163, 164, 165, 166, 167, 168, 169, 170, 171] (by decide +kernel) (by decide +kernel)
set_option maxRecDepth 20000 in
theorem gX5_wants_X2_has : GoodIn wsX5_wants (wsV RX5 94 RX2 yX2_has wsX2_has) := goodIn_app (goodIn_of _ (by decide +kernel)) ggX5_wants_X2_has
set_option maxRecDepth 20000 in
theorem ggX5_wants_X5_isGood : GoodIn wsX5_wants wsX5_isGood := goodIn_r _ [14, 15, 9, 10, 11] (by decide +kernel) (by decide +kernel)
set_option maxRecDepth 20000 in
theorem gX5_wants_X5_isGood : GoodIn wsX5_wants (va_wsS RX5 76 yX5_isGood wsX5_isGood) := goodIn_app (goodIn_of _ (by decide +kernel)) ggX5_wants_X5_isGood
set_option maxRecDepth 20000 in
theorem ggX5_wants_X5_finding : GoodIn wsX5_wants wsX5_finding := goodIn_r _ [19, 2, 20, 15, 9, 10, 11, 153, 154, 155, 156, 157, 158, 159, 160] (by decide +kernel) (by decide +kernel)
set_option maxRecDepth 20000 in
theorem gX5_wants_X5_finding : GoodIn wsX5_wants (wsV RX5 55 RX5 yX5_finding wsX5_finding) := goodIn_app (goodIn_of _ (by decide +kernel)) ggX5_wants_X5_finding
set_option maxRecDepth 20000 in
theorem ggX5_wants_X5_daysUntil : GoodIn wsX5_wants wsX5_daysUntil := goodIn_r _ [24, 25, 1, 26, 27, 28, 29, 30, 6, 31, 32, 33, 34, 35, 36, 37, 38, 39, 40, 41, 42, 43, 8, 44, 45, 46, 47, 48, 49, 50, 51, 52, 53, 54, 55, 56, 57, 58, 10, 59, 60, 61, 62, 63, 64, 65, 66, 67, 68, 69, 70, 71, 72, 73, 74, 75, 76, 77, 78, 79, 80, 81, 82, 83, 84, 85, 86, 87, 88, 89, 90, 91, 92, 93, 94, 95, 96, 97, 98, 99, 100, 101, 102, 103, 104, 105, 106, 107, 108, 109, 110, 111, 112, 113, 114, 115, 116, 117, 118, 119, 120, 121, 122, 123, 124, 125, 126, 127, 128, 129, 130, 131, 132, 133, 134, 135, 136, 137, 138, 139, 140, 141, 142, 143, 144, 145, 146, 147, 148, 149, 150, 151, 152, 16, 17, 18, 19, 2, 20, 15, 9, 11, 153, 154, 155, 156, 157, 158, 159, 160, 161, 162, 163, 164, 165, 166, 167, 168, 169, 170, 171, 172, 173, 174, 175, 176, 177] (by decide +kernel) (by decide +kernel)
set_option maxRecDepth 20000 in
theorem gX5_wants_X5_daysUntil : GoodIn wsX5_wants (wsV RX5 160 RX5 yX5_daysUntil wsX5_daysUntil) := goodIn_app (goodIn_of _ (by decide +kernel)) ggX5_wants_X5_daysUntil
theorem dX5_wants_0 : decode cX5_wants 0 = .ok (.aload_n 0, 1) := by decide +kernel
theorem dX5_wants_1 : decode cX5_wants 1 = .ok (.getfield 12, 3) := by decide +kernel
theorem dX5_wants_4 : decode cX5_wants 4 = .ok (.iload_n 1, 1) := by decide +kernel
theorem dX5_wants_5 : decode cX5_wants 5 = .ok (.invokevirtual 94, 3) := by decide +kernel
theorem dX5_wants_8 : decode cX5_wants 8 = .ok (.ifCond .eq 10, 3) := by decide +kernel
theorem dX5_wants_11 : decode cX5_wants 11 = .ok (.iload_n 2, 1) := by decide +kernel
theorem dX5_wants_12 : decode cX5_wants 12 = .ok (.invokestatic 76, 3) := by decide +kernel
theorem dX5_wants_15 : decode cX5_wants 15 = .ok (.ifCond .ne 10, 3) := by decide +kernel
theorem dX5_wants_18 : decode cX5_wants 18 = .ok (.aload_n 0, 1) := by decide +kernel
theorem dX5_wants_19 : decode cX5_wants 19 = .ok (.ldc 54, 2) := by decide +kernel
theorem dX5_wants_21 : decode cX5_wants 21 = .ok (.invokevirtual 55, 3) := by decide +kernel
theorem dX5_wants_24 : decode cX5_wants 24 = .ok (.ireturn, 1) := by decide +kernel
theorem dX5_wants_25 : decode cX5_wants 25 = .ok (.aload_n 0, 1) := by decide +kernel
theorem dX5_wants_26 : decode cX5_wants 26 = .ok (.iload_n 1, 1) := by decide +kernel
theorem dX5_wants_27 : decode cX5_wants 27 = .ok (.iconst 2, 1) := by decide +kernel
theorem dX5_wants_28 : decode cX5_wants 28 = .ok (.iload_n 2, 1) := by decide +kernel
theorem dX5_wants_29 : decode cX5_wants 29 = .ok (.invokevirtual 160, 3) := by decide +kernel
theorem dX5_wants_32 : decode cX5_wants 32 = .ok (.ireturn, 1) := by decide +kernel
set_option maxRecDepth 20000 in
theorem ggX5_despair_X2_has : GoodIn wsX5_despair wsX2_has := goodIn_r _ [7, 8, 9, 10, 11, 158, 159, 160, 161, 162, 163, 164, 165, 166, 167, 168] (by decide +kernel) (by decide +kernel)
set_option maxRecDepth 20000 in
theorem gX5_despair_X2_has : GoodIn wsX5_despair (wsV RX5 94 RX2 yX2_has wsX2_has) := goodIn_app (goodIn_of _ (by decide +kernel)) ggX5_despair_X2_has
set_option maxRecDepth 20000 in
theorem ggX5_despair_X5_isWithin : GoodIn wsX5_despair wsX5_isWithin := goodIn_r _ [11] (by decide +kernel) (by decide +kernel)
set_option maxRecDepth 20000 in
theorem gX5_despair_X5_isWithin : GoodIn wsX5_despair (va_wsS RX5 47 yX5_isWithin wsX5_isWithin) := goodIn_app (goodIn_of _ (by decide +kernel)) ggX5_despair_X5_isWithin
set_option maxRecDepth 20000 in
theorem ggX5_despair_X5_finding : GoodIn wsX5_despair wsX5_finding := goodIn_r _ [16, 2, 17, 12, 9, 10, 11, 150, 151, 152, 153, 154, 155, 156, 157] (by decide +kernel) (by decide +kernel)
set_option maxRecDepth 20000 in
theorem gX5_despair_X5_finding : GoodIn wsX5_despair (wsV RX5 55 RX5 yX5_finding wsX5_finding) := goodIn_app (goodIn_of _ (by decide +kernel)) ggX5_despair_X5_finding
set_option maxRecDepth 20000 in
theorem ggX5_despair_X5_daysUntil : GoodIn wsX5_despair wsX5_daysUntil := goodIn_r _ [21, 22, 1, 23, 24, 25, 26, 27, 6, 28, 29, 30, 31, 32, 33, 34, 35, 36, 37, 38, 39, 40, 8, 41, 42, 43, 44, 45, 46, 47, 48, 49, 50, 51, 52, 53, 54, 55, 10, 56, 57, 58, 59, 60, 61, 62, 63, 64, 65, 66, 67, 68, 69, 70, 71, 72, 73, 74, 75, 76, 77, 78, 79, 80, 81, 82, 83, 84, 85, 86, 87, 88, 89, 90, 91, 92, 93, 94, 95, 96, 97, 98, 99, 100, 101, 102, 103, 104, 105, 106, 107, 108, 109, 110, 111, 112, 113, 114, 115, 116, 117, 118, 119, 120, 121, 122, 123, 124, 125, 126, 127, 128, 129, 130, 131, 132, 133, 134, 135, 136, 137, 138, 139, 140, 141, 142, 143, 144, 145, 146, 147, 148, 149, 13, 14, 15, 16, 2, 17, 12, 9, 11, 150, 151, 152, 153, 154, 155, 156, 157, 158, 159, 160, 161, 162, 163, 164, 165, 166, 167, 168, 169, 170, 171, 172, 173, 174] (by decide +kernel) (by decide +kernel)
set_option maxRecDepth 20000 in
theorem gX5_despair_X5_daysUntil : GoodIn wsX5_despair (wsV RX5 160 RX5 yX5_daysUntil wsX5_daysUntil) := goodIn_app (goodIn_of _ (by decide +kernel)) ggX5_despair_X5_daysUntil
theorem dX5_despair_0 : decode cX5_despair 0 = .ok (.aload_n 0, 1) := by decide +kernel
theorem dX5_despair_1 : decode cX5_despair 1 = .ok (.getfield 12, 3) := by decide +kernel
theorem dX5_despair_4 : decode cX5_despair 4 = .ok (.iload_n 1, 1) := by decide +kernel
theorem dX5_despair_5 : decode cX5_despair 5 = .ok (.invokevirtual 94, 3) := by decide +kernel
theorem dX5_despair_8 : decode cX5_despair 8 = .ok (.ifCond .eq 13, 3) := by decide +kernel
theorem dX5_despair_11 : decode cX5_despair 11 = .ok (.iload_n 2, 1) := by decide +kernel
theorem dX5_despair_12 : decode cX5_despair 12 = .ok (.iconst 0, 1) := by decide +kernel
theorem dX5_despair_13 : decode cX5_despair 13 = .ok (.bipush 99, 2) := by decide +kernel
theorem dX5_despair_15 : decode cX5_despair 15 = .ok (.invokestatic 47, 3) := by decide +kernel
theorem dX5_despair_18 : decode cX5_despair 18 = .ok (.ifCond .ne 10, 3) := by decide +kernel
theorem dX5_despair_21 : decode cX5_despair 21 = .ok (.aload_n 0, 1) := by decide +kernel
theorem dX5_despair_22 : decode cX5_despair 22 = .ok (.ldc 54, 2) := by decide +kernel
theorem dX5_despair_24 : decode cX5_despair 24 = .ok (.invokevirtual 55, 3) := by decide +kernel
theorem dX5_despair_27 : decode cX5_despair 27 = .ok (.ireturn, 1) := by decide +kernel
theorem dX5_despair_28 : decode cX5_despair 28 = .ok (.aload_n 0, 1) := by decide +kernel
theorem dX5_despair_29 : decode cX5_despair 29 = .ok (.iload_n 1, 1) := by decide +kernel
theorem dX5_despair_30 : decode cX5_despair 30 = .ok (.iconst 3, 1) := by decide +kernel
theorem dX5_despair_31 : decode cX5_despair 31 = .ok (.iload_n 2, 1) := by decide +kernel
theorem dX5_despair_32 : decode cX5_despair 32 = .ok (.invokevirtual 160, 3) := by decide +kernel
theorem dX5_despair_35 : decode cX5_despair 35 = .ok (.ireturn, 1) := by decide +kernel
set_option maxRecDepth 20000 in
theorem ggX5_cryFor_X5_isPlace : GoodIn wsX5_cryFor wsX5_isPlace := goodIn_r _ [10, 11, 12, 9, 13] (by decide +kernel) (by decide +kernel)
set_option maxRecDepth 20000 in
theorem gX5_cryFor_X5_isPlace : GoodIn wsX5_cryFor (va_wsS RX5 72 yX5_isPlace wsX5_isPlace) := goodIn_app (goodIn_of _ (by decide +kernel)) ggX5_cryFor_X5_isPlace
set_option maxRecDepth 20000 in
theorem ggX5_cryFor_X5_isWithin : GoodIn wsX5_cryFor wsX5_isWithin := goodIn_r _ [13] (by decide +kernel) (by decide +kernel)
set_option maxRecDepth 20000 in
theorem gX5_cryFor_X5_isWithin : GoodIn wsX5_cryFor (va_wsS RX5 47 yX5_isWithin wsX5_isWithin) := goodIn_app (goodIn_of _ (by decide +kernel)) ggX5_cryFor_X5_isWithin
set_option maxRecDepth 20000 in
theorem ggX5_cryFor_X5_finding : GoodIn wsX5_cryFor wsX5_finding := goodIn_r _ [17, 1, 18, 11, 12, 9, 13, 148, 149, 150, 151, 152, 153, 154, 155] (by decide +kernel) (by decide +kernel)
set_option maxRecDepth 20000 in
theorem gX5_cryFor_X5_finding : GoodIn wsX5_cryFor (wsV RX5 55 RX5 yX5_finding wsX5_finding) := goodIn_app (goodIn_of _ (by decide +kernel)) ggX5_cryFor_X5_finding
set_option maxRecDepth 20000 in
theorem ggX5_cryFor_X2_become : GoodIn wsX5_cryFor wsX2_become := goodIn_r _ [23, 24, 25, 26, 27, 28, 29, 30, 31, 32, 33, 34, 35, 36, 37, 38, 39, 40, 41, 42, 43, 44, 45, 46, 47, 48, 49, 156, 157, 158, 159, 160, 161, 162, 163, 164, 165, 166, 167, 168, 169, 170, 171, 172] (by decide +kernel) (by decide +kernel)
set_option maxRecDepth 20000 in
theorem gX5_cryFor_X2_become : GoodIn wsX5_cryFor (wsV RX5 156 RX2 yX2_become wsX2_become) := goodIn_app (goodIn_of _ (by decide +kernel)) ggX5_cryFor_X2_become
set_option maxRecDepth 20000 in
theorem ggX5_cryFor_X2_passDays : GoodIn wsX5_cryFor wsX2_passDays := goodIn_r _ [53, 54, 55, 56, 22, 57, 24, 25, 27, 34, 58, 59, 60, 61, 62, 63, 64, 65, 66, 36, 37, 26, 32, 67, 68, 69, 70, 42, 71, 49, 47, 72, 73, 74, 75, 46, 76, 77, 78, 79, 44, 48, 80, 81, 82, 83, 84, 85, 86, 87, 45, 88, 89, 90, 91, 92, 93, 94, 95, 96, 97, 98, 99, 100, 101, 102, 103, 104, 105, 106, 107, 108, 109, 110, 111, 112, 113, 114, 115, 116, 117, 118, 119, 120, 121, 122, 123, 124, 125, 126, 127, 128, 129, 33, 130, 131, 132, 133, 134, 135, 136, 137, 138, 139, 140, 141, 142, 143, 156, 157, 158, 159, 160, 161, 162, 163, 164, 165, 166, 167, 168, 169, 170, 171, 172] (by decide +kernel) (by decide +kernel)
set_option maxRecDepth 20000 in
theorem gX5_cryFor_X2_passDays : GoodIn wsX5_cryFor (wsV RX5 127 RX2 yX2_passDays wsX2_passDays) := goodIn_app (goodIn_of _ (by decide +kernel)) ggX5_cryFor_X2_passDays
set_option maxRecDepth 20000 in
theorem ggX5_cryFor_X5_firstGreatestOutcome : GoodIn wsX5_cryFor wsX5_firstGreatestOutcome := goodIn_r _ [147, 5, 148, 149, 150, 151, 152, 153, 154, 155] (by decide +kernel) (by decide +kernel)
set_option maxRecDepth 20000 in
theorem gX5_cryFor_X5_firstGreatestOutcome : GoodIn wsX5_cryFor (wsV RX5 164 RX5 yX5_firstGreatestOutcome wsX5_firstGreatestOutcome) := goodIn_app (goodIn_of _ (by decide +kernel)) ggX5_cryFor_X5_firstGreatestOutcome
theorem dX5_cryFor_0 : decode cX5_cryFor 0 = .ok (.iload_n 1, 1) := by decide +kernel
theorem dX5_cryFor_1 : decode cX5_cryFor 1 = .ok (.invokestatic 72, 3) := by decide +kernel
theorem dX5_cryFor_4 : decode cX5_cryFor 4 = .ok (.ifCond .eq 13, 3) := by decide +kernel
theorem dX5_cryFor_7 : decode cX5_cryFor 7 = .ok (.iload_n 2, 1) := by decide +kernel
theorem dX5_cryFor_8 : decode cX5_cryFor 8 = .ok (.iconst 0, 1) := by decide +kernel
theorem dX5_cryFor_9 : decode cX5_cryFor 9 = .ok (.bipush 60, 2) := by decide +kernel
theorem dX5_cryFor_11 : decode cX5_cryFor 11 = .ok (.invokestatic 47, 3) := by decide +kernel
theorem dX5_cryFor_14 : decode cX5_cryFor 14 = .ok (.ifCond .ne 10, 3) := by decide +kernel
theorem dX5_cryFor_17 : decode cX5_cryFor 17 = .ok (.aload_n 0, 1) := by decide +kernel
theorem dX5_cryFor_18 : decode cX5_cryFor 18 = .ok (.ldc 54, 2) := by decide +kernel
theorem dX5_cryFor_20 : decode cX5_cryFor 20 = .ok (.invokevirtual 55, 3) := by decide +kernel
theorem dX5_cryFor_23 : decode cX5_cryFor 23 = .ok (.ireturn, 1) := by decide +kernel
theorem dX5_cryFor_24 : decode cX5_cryFor 24 = .ok (.iconst 0, 1) := by decide +kernel
theorem dX5_cryFor_25 : decode cX5_cryFor 25 = .ok (.istore_n 3, 1) := by decide +kernel
theorem dX5_cryFor_26 : decode cX5_cryFor 26 = .ok (.iload_n 3, 1) := by decide +kernel
theorem dX5_cryFor_27 : decode cX5_cryFor 27 = .ok (.bipush 12, 2) := by decide +kernel
theorem dX5_cryFor_29 : decode cX5_cryFor 29 = .ok (.if_icmp .ge 51, 3) := by decide +kernel
theorem dX5_cryFor_32 : decode cX5_cryFor 32 = .ok (.aload_n 0, 1) := by decide +kernel
theorem dX5_cryFor_33 : decode cX5_cryFor 33 = .ok (.getfield 16, 3) := by decide +kernel
theorem dX5_cryFor_36 : decode cX5_cryFor 36 = .ok (.aload_n 0, 1) := by decide +kernel
theorem dX5_cryFor_37 : decode cX5_cryFor 37 = .ok (.getfield 12, 3) := by decide +kernel
theorem dX5_cryFor_40 : decode cX5_cryFor 40 = .ok (.invokevirtual 156, 3) := by decide +kernel
theorem dX5_cryFor_43 : decode cX5_cryFor 43 = .ok (.aload_n 0, 1) := by decide +kernel
theorem dX5_cryFor_44 : decode cX5_cryFor 44 = .ok (.getfield 16, 3) := by decide +kernel
theorem dX5_cryFor_47 : decode cX5_cryFor 47 = .ok (.getfield 79, 3) := by decide +kernel
theorem dX5_cryFor_50 : decode cX5_cryFor 50 = .ok (.iload_n 1, 1) := by decide +kernel
theorem dX5_cryFor_51 : decode cX5_cryFor 51 = .ok (.iload_n 3, 1) := by decide +kernel
theorem dX5_cryFor_52 : decode cX5_cryFor 52 = .ok (.iastore, 1) := by decide +kernel
theorem dX5_cryFor_53 : decode cX5_cryFor 53 = .ok (.aload_n 0, 1) := by decide +kernel
theorem dX5_cryFor_54 : decode cX5_cryFor 54 = .ok (.getfield 16, 3) := by decide +kernel
theorem dX5_cryFor_57 : decode cX5_cryFor 57 = .ok (.iload_n 2, 1) := by decide +kernel
theorem dX5_cryFor_58 : decode cX5_cryFor 58 = .ok (.invokevirtual 127, 3) := by decide +kernel
theorem dX5_cryFor_61 : decode cX5_cryFor 61 = .ok (.aload_n 0, 1) := by decide +kernel
theorem dX5_cryFor_62 : decode cX5_cryFor 62 = .ok (.getfield 26, 3) := by decide +kernel
theorem dX5_cryFor_65 : decode cX5_cryFor 65 = .ok (.iload_n 3, 1) := by decide +kernel
theorem dX5_cryFor_66 : decode cX5_cryFor 66 = .ok (.aload_n 0, 1) := by decide +kernel
theorem dX5_cryFor_67 : decode cX5_cryFor 67 = .ok (.getfield 16, 3) := by decide +kernel
theorem dX5_cryFor_70 : decode cX5_cryFor 70 = .ok (.getfield 131, 3) := by decide +kernel
theorem dX5_cryFor_73 : decode cX5_cryFor 73 = .ok (.iastore, 1) := by decide +kernel
theorem dX5_cryFor_74 : decode cX5_cryFor 74 = .ok (.iinc 3 1, 3) := by decide +kernel
theorem dX5_cryFor_77 : decode cX5_cryFor 77 = .ok (.goto (-51), 3) := by decide +kernel
theorem dX5_cryFor_80 : decode cX5_cryFor 80 = .ok (.aload_n 0, 1) := by decide +kernel
theorem dX5_cryFor_81 : decode cX5_cryFor 81 = .ok (.bipush 12, 2) := by decide +kernel
theorem dX5_cryFor_83 : decode cX5_cryFor 83 = .ok (.invokevirtual 164, 3) := by decide +kernel
theorem dX5_cryFor_86 : decode cX5_cryFor 86 = .ok (.ireturn, 1) := by decide +kernel
set_option maxRecDepth 20000 in
theorem ggX5_startFor_X5_isWithin : GoodIn wsX5_startFor wsX5_isWithin := goodIn_r _ [10] (by decide +kernel) (by decide +kernel)
set_option maxRecDepth 20000 in
theorem gX5_startFor_X5_isWithin : GoodIn wsX5_startFor (va_wsS RX5 47 yX5_isWithin wsX5_isWithin) := goodIn_app (goodIn_of _ (by decide +kernel)) ggX5_startFor_X5_isWithin
set_option maxRecDepth 20000 in
theorem ggX5_startFor_X5_finding : GoodIn wsX5_startFor wsX5_finding := goodIn_r _ [14, 1, 15, 7, 8, 9, 10, 145, 146, 147, 148, 149, 150, 151, 152] (by decide +kernel) (by decide +kernel)
set_option maxRecDepth 20000 in
theorem gX5_startFor_X5_finding : GoodIn wsX5_startFor (wsV RX5 55 RX5 yX5_finding wsX5_finding) := goodIn_app (goodIn_of _ (by decide +kernel)) ggX5_startFor_X5_finding
set_option maxRecDepth 20000 in
theorem ggX5_startFor_X2_become : GoodIn wsX5_startFor wsX2_become := goodIn_r _ [20, 21, 22, 23, 24, 25, 26, 27, 28, 29, 30, 31, 32, 33, 34, 35, 36, 37, 38, 39, 40, 41, 42, 43, 44, 45, 46, 153, 154, 155, 156, 157, 158, 159, 160, 161, 162, 163, 164, 165, 166, 167, 168, 169] (by decide +kernel) (by decide +kernel)
set_option maxRecDepth 20000 in
theorem gX5_startFor_X2_become : GoodIn wsX5_startFor (wsV RX5 156 RX2 yX2_become wsX2_become) := goodIn_app (goodIn_of _ (by decide +kernel)) ggX5_startFor_X2_become
set_option maxRecDepth 20000 in
theorem ggX5_startFor_X2_passDays : GoodIn wsX5_startFor wsX2_passDays := goodIn_r _ [50, 51, 52, 53, 19, 54, 21, 22, 24, 31, 55, 56, 57, 58, 59, 60, 61, 62, 63, 33, 34, 23, 29, 64, 65, 66, 67, 39, 68, 46, 44, 69, 70, 71, 72, 43, 73, 74, 75, 76, 41, 45, 77, 78, 79, 80, 81, 82, 83, 84, 42, 85, 86, 87, 88, 89, 90, 91, 92, 93, 94, 95, 96, 97, 98, 99, 100, 101, 102, 103, 104, 105, 106, 107, 108, 109, 110, 111, 112, 113, 114, 115, 116, 117, 118, 119, 120, 121, 122, 123, 124, 125, 126, 30, 127, 128, 129, 130, 131, 132, 133, 134, 135, 136, 137, 138, 139, 140, 153, 154, 155, 156, 157, 158, 159, 160, 161, 162, 163, 164, 165, 166, 167, 168, 169] (by decide +kernel) (by decide +kernel)
set_option maxRecDepth 20000 in
theorem gX5_startFor_X2_passDays : GoodIn wsX5_startFor (wsV RX5 127 RX2 yX2_passDays wsX2_passDays) := goodIn_app (goodIn_of _ (by decide +kernel)) ggX5_startFor_X2_passDays
set_option maxRecDepth 20000 in
theorem ggX5_startFor_X5_firstGreatestOutcome : GoodIn wsX5_startFor wsX5_firstGreatestOutcome := goodIn_r _ [144, 5, 145, 146, 147, 148, 149, 150, 151, 152] (by decide +kernel) (by decide +kernel)
set_option maxRecDepth 20000 in
theorem gX5_startFor_X5_firstGreatestOutcome : GoodIn wsX5_startFor (wsV RX5 164 RX5 yX5_firstGreatestOutcome wsX5_firstGreatestOutcome) := goodIn_app (goodIn_of _ (by decide +kernel)) ggX5_startFor_X5_firstGreatestOutcome
theorem dX5_startFor_0 : decode cX5_startFor 0 = .ok (.iload_n 1, 1) := by decide +kernel
theorem dX5_startFor_1 : decode cX5_startFor 1 = .ok (.iconst 0, 1) := by decide +kernel
theorem dX5_startFor_2 : decode cX5_startFor 2 = .ok (.bipush 60, 2) := by decide +kernel
theorem dX5_startFor_4 : decode cX5_startFor 4 = .ok (.invokestatic 47, 3) := by decide +kernel
theorem dX5_startFor_7 : decode cX5_startFor 7 = .ok (.ifCond .ne 10, 3) := by decide +kernel
theorem dX5_startFor_10 : decode cX5_startFor 10 = .ok (.aload_n 0, 1) := by decide +kernel
theorem dX5_startFor_11 : decode cX5_startFor 11 = .ok (.ldc 54, 2) := by decide +kernel
theorem dX5_startFor_13 : decode cX5_startFor 13 = .ok (.invokevirtual 55, 3) := by decide +kernel
theorem dX5_startFor_16 : decode cX5_startFor 16 = .ok (.ireturn, 1) := by decide +kernel
theorem dX5_startFor_17 : decode cX5_startFor 17 = .ok (.iconst 0, 1) := by decide +kernel
theorem dX5_startFor_18 : decode cX5_startFor 18 = .ok (.istore_n 2, 1) := by decide +kernel
theorem dX5_startFor_19 : decode cX5_startFor 19 = .ok (.iload_n 2, 1) := by decide +kernel
theorem dX5_startFor_20 : decode cX5_startFor 20 = .ok (.bipush 16, 2) := by decide +kernel
theorem dX5_startFor_22 : decode cX5_startFor 22 = .ok (.if_icmp .ge 49, 3) := by decide +kernel
theorem dX5_startFor_25 : decode cX5_startFor 25 = .ok (.aload_n 0, 1) := by decide +kernel
theorem dX5_startFor_26 : decode cX5_startFor 26 = .ok (.getfield 16, 3) := by decide +kernel
theorem dX5_startFor_29 : decode cX5_startFor 29 = .ok (.aload_n 0, 1) := by decide +kernel
theorem dX5_startFor_30 : decode cX5_startFor 30 = .ok (.getfield 12, 3) := by decide +kernel
theorem dX5_startFor_33 : decode cX5_startFor 33 = .ok (.invokevirtual 156, 3) := by decide +kernel
theorem dX5_startFor_36 : decode cX5_startFor 36 = .ok (.aload_n 0, 1) := by decide +kernel
theorem dX5_startFor_37 : decode cX5_startFor 37 = .ok (.getfield 16, 3) := by decide +kernel
theorem dX5_startFor_40 : decode cX5_startFor 40 = .ok (.iload_n 2, 1) := by decide +kernel
theorem dX5_startFor_41 : decode cX5_startFor 41 = .ok (.putfield 62, 3) := by decide +kernel
theorem dX5_startFor_44 : decode cX5_startFor 44 = .ok (.aload_n 0, 1) := by decide +kernel
theorem dX5_startFor_45 : decode cX5_startFor 45 = .ok (.getfield 16, 3) := by decide +kernel
theorem dX5_startFor_48 : decode cX5_startFor 48 = .ok (.iload_n 1, 1) := by decide +kernel
theorem dX5_startFor_49 : decode cX5_startFor 49 = .ok (.invokevirtual 127, 3) := by decide +kernel
theorem dX5_startFor_52 : decode cX5_startFor 52 = .ok (.aload_n 0, 1) := by decide +kernel
theorem dX5_startFor_53 : decode cX5_startFor 53 = .ok (.getfield 26, 3) := by decide +kernel
theorem dX5_startFor_56 : decode cX5_startFor 56 = .ok (.iload_n 2, 1) := by decide +kernel
theorem dX5_startFor_57 : decode cX5_startFor 57 = .ok (.aload_n 0, 1) := by decide +kernel
theorem dX5_startFor_58 : decode cX5_startFor 58 = .ok (.getfield 16, 3) := by decide +kernel
theorem dX5_startFor_61 : decode cX5_startFor 61 = .ok (.getfield 131, 3) := by decide +kernel
theorem dX5_startFor_64 : decode cX5_startFor 64 = .ok (.iastore, 1) := by decide +kernel
theorem dX5_startFor_65 : decode cX5_startFor 65 = .ok (.iinc 2 1, 3) := by decide +kernel
theorem dX5_startFor_68 : decode cX5_startFor 68 = .ok (.goto (-49), 3) := by decide +kernel
theorem dX5_startFor_71 : decode cX5_startFor 71 = .ok (.aload_n 0, 1) := by decide +kernel
theorem dX5_startFor_72 : decode cX5_startFor 72 = .ok (.bipush 16, 2) := by decide +kernel
theorem dX5_startFor_74 : decode cX5_startFor 74 = .ok (.invokevirtual 164, 3) := by decide +kernel
theorem dX5_startFor_77 : decode cX5_startFor 77 = .ok (.ireturn, 1) := by decide +kernel
set_option maxRecDepth 20000 in
theorem ggX5_loudFor_X5_isWithin : GoodIn wsX5_loudFor wsX5_isWithin := goodIn_r _ [11] (by decide +kernel) (by decide +kernel)
set_option maxRecDepth 20000 in
theorem gX5_loudFor_X5_isWithin : GoodIn wsX5_loudFor (va_wsS RX5 47 yX5_isWithin wsX5_isWithin) := goodIn_app (goodIn_of _ (by decide +kernel)) ggX5_loudFor_X5_isWithin
set_option maxRecDepth 20000 in
theorem ggX5_loudFor_X5_finding : GoodIn wsX5_loudFor wsX5_finding := goodIn_r _ [15, 2, 16, 8, 9, 10, 11, 142, 143, 144, 145, 146, 147, 148, 149] (by decide +kernel) (by decide +kernel)
set_option maxRecDepth 20000 in
theorem gX5_loudFor_X5_finding : GoodIn wsX5_loudFor (wsV RX5 55 RX5 yX5_finding wsX5_finding) := goodIn_app (goodIn_of _ (by decide +kernel)) ggX5_loudFor_X5_finding
set_option maxRecDepth 20000 in
theorem ggX5_loudFor_X2_become : GoodIn wsX5_loudFor wsX2_become := goodIn_r _ [21, 22, 23, 24, 25, 26, 27, 28, 29, 30, 31, 32, 33, 34, 35, 36, 37, 38, 39, 40, 41, 42, 43, 44, 45, 46, 47, 150, 151, 152, 153, 154, 155, 156, 157, 158, 159, 160, 161, 162, 163, 164, 165, 166] (by decide +kernel) (by decide +kernel)
set_option maxRecDepth 20000 in
theorem gX5_loudFor_X2_become : GoodIn wsX5_loudFor (wsV RX5 156 RX2 yX2_become wsX2_become) := goodIn_app (goodIn_of _ (by decide +kernel)) ggX5_loudFor_X2_become
set_option maxRecDepth 20000 in
theorem ggX5_loudFor_X2_passDays : GoodIn wsX5_loudFor wsX2_passDays := goodIn_r _ [51, 52, 53, 54, 20, 55, 22, 23, 25, 32, 56, 57, 58, 59, 60, 61, 62, 63, 64, 34, 35, 24, 30, 65, 66, 67, 68, 40, 69, 47, 45, 70, 71, 72, 73, 44, 74, 75, 76, 77, 42, 46, 78, 79, 80, 81, 82, 83, 84, 85, 43, 86, 87, 88, 89, 90, 91, 92, 93, 94, 95, 96, 97, 98, 99, 100, 101, 102, 103, 104, 105, 106, 107, 108, 109, 110, 111, 112, 113, 114, 115, 116, 117, 118, 119, 120, 121, 122, 123, 124, 125, 126, 127, 31, 128, 129, 130, 131, 132, 133, 134, 135, 136, 137, 138, 139, 140, 141, 150, 151, 152, 153, 154, 155, 156, 157, 158, 159, 160, 161, 162, 163, 164, 165, 166] (by decide +kernel) (by decide +kernel)
set_option maxRecDepth 20000 in
theorem gX5_loudFor_X2_passDays : GoodIn wsX5_loudFor (wsV RX5 127 RX2 yX2_passDays wsX2_passDays) := goodIn_app (goodIn_of _ (by decide +kernel)) ggX5_loudFor_X2_passDays
theorem dX5_loudFor_0 : decode cX5_loudFor 0 = .ok (.iload_n 1, 1) := by decide +kernel
theorem dX5_loudFor_1 : decode cX5_loudFor 1 = .ok (.iconst 0, 1) := by decide +kernel
theorem dX5_loudFor_2 : decode cX5_loudFor 2 = .ok (.ldc 125, 2) := by decide +kernel
theorem dX5_loudFor_4 : decode cX5_loudFor 4 = .ok (.invokestatic 47, 3) := by decide +kernel
theorem dX5_loudFor_7 : decode cX5_loudFor 7 = .ok (.ifCond .eq 13, 3) := by decide +kernel
theorem dX5_loudFor_10 : decode cX5_loudFor 10 = .ok (.iload_n 2, 1) := by decide +kernel
theorem dX5_loudFor_11 : decode cX5_loudFor 11 = .ok (.iconst 0, 1) := by decide +kernel
theorem dX5_loudFor_12 : decode cX5_loudFor 12 = .ok (.bipush 60, 2) := by decide +kernel
theorem dX5_loudFor_14 : decode cX5_loudFor 14 = .ok (.invokestatic 47, 3) := by decide +kernel
theorem dX5_loudFor_17 : decode cX5_loudFor 17 = .ok (.ifCond .ne 10, 3) := by decide +kernel
theorem dX5_loudFor_20 : decode cX5_loudFor 20 = .ok (.aload_n 0, 1) := by decide +kernel
theorem dX5_loudFor_21 : decode cX5_loudFor 21 = .ok (.ldc 54, 2) := by decide +kernel
theorem dX5_loudFor_23 : decode cX5_loudFor 23 = .ok (.invokevirtual 55, 3) := by decide +kernel
theorem dX5_loudFor_26 : decode cX5_loudFor 26 = .ok (.ireturn, 1) := by decide +kernel
theorem dX5_loudFor_27 : decode cX5_loudFor 27 = .ok (.iconst 0, 1) := by decide +kernel
theorem dX5_loudFor_28 : decode cX5_loudFor 28 = .ok (.istore_n 3, 1) := by decide +kernel
theorem dX5_loudFor_29 : decode cX5_loudFor 29 = .ok (.iload_n 3, 1) := by decide +kernel
theorem dX5_loudFor_30 : decode cX5_loudFor 30 = .ok (.bipush 9, 2) := by decide +kernel
theorem dX5_loudFor_32 : decode cX5_loudFor 32 = .ok (.if_icmp .gt 49, 3) := by decide +kernel
theorem dX5_loudFor_35 : decode cX5_loudFor 35 = .ok (.aload_n 0, 1) := by decide +kernel
theorem dX5_loudFor_36 : decode cX5_loudFor 36 = .ok (.getfield 16, 3) := by decide +kernel
theorem dX5_loudFor_39 : decode cX5_loudFor 39 = .ok (.aload_n 0, 1) := by decide +kernel
theorem dX5_loudFor_40 : decode cX5_loudFor 40 = .ok (.getfield 12, 3) := by decide +kernel
theorem dX5_loudFor_43 : decode cX5_loudFor 43 = .ok (.invokevirtual 156, 3) := by decide +kernel
theorem dX5_loudFor_46 : decode cX5_loudFor 46 = .ok (.aload_n 0, 1) := by decide +kernel
theorem dX5_loudFor_47 : decode cX5_loudFor 47 = .ok (.getfield 16, 3) := by decide +kernel
theorem dX5_loudFor_50 : decode cX5_loudFor 50 = .ok (.iload_n 3, 1) := by decide +kernel
theorem dX5_loudFor_51 : decode cX5_loudFor 51 = .ok (.putfield 69, 3) := by decide +kernel
theorem dX5_loudFor_54 : decode cX5_loudFor 54 = .ok (.aload_n 0, 1) := by decide +kernel
theorem dX5_loudFor_55 : decode cX5_loudFor 55 = .ok (.getfield 16, 3) := by decide +kernel
theorem dX5_loudFor_58 : decode cX5_loudFor 58 = .ok (.iload_n 2, 1) := by decide +kernel
theorem dX5_loudFor_59 : decode cX5_loudFor 59 = .ok (.invokevirtual 127, 3) := by decide +kernel
theorem dX5_loudFor_62 : decode cX5_loudFor 62 = .ok (.aload_n 0, 1) := by decide +kernel
theorem dX5_loudFor_63 : decode cX5_loudFor 63 = .ok (.getfield 16, 3) := by decide +kernel
theorem dX5_loudFor_66 : decode cX5_loudFor 66 = .ok (.getfield 131, 3) := by decide +kernel
theorem dX5_loudFor_69 : decode cX5_loudFor 69 = .ok (.iload_n 1, 1) := by decide +kernel
theorem dX5_loudFor_70 : decode cX5_loudFor 70 = .ok (.if_icmp .lt 5, 3) := by decide +kernel
theorem dX5_loudFor_73 : decode cX5_loudFor 73 = .ok (.iload_n 3, 1) := by decide +kernel
theorem dX5_loudFor_74 : decode cX5_loudFor 74 = .ok (.ireturn, 1) := by decide +kernel
theorem dX5_loudFor_75 : decode cX5_loudFor 75 = .ok (.iinc 3 1, 3) := by decide +kernel
theorem dX5_loudFor_78 : decode cX5_loudFor 78 = .ok (.goto (-49), 3) := by decide +kernel
theorem dX5_loudFor_81 : decode cX5_loudFor 81 = .ok (.aload_n 0, 1) := by decide +kernel
theorem dX5_loudFor_82 : decode cX5_loudFor 82 = .ok (.ldc 167, 2) := by decide +kernel
theorem dX5_loudFor_84 : decode cX5_loudFor 84 = .ok (.invokevirtual 55, 3) := by decide +kernel
theorem dX5_loudFor_87 : decode cX5_loudFor 87 = .ok (.ireturn, 1) := by decide +kernel
set_option maxRecDepth 20000 in
theorem ggX5_kindFor_X2_has : GoodIn wsX5_kindFor wsX2_has := goodIn_r _ [12, 13, 14, 15, 16, 158, 159, 160, 161, 162, 163, 164, 165, 166, 167, 168] (by decide +kernel) (by decide +kernel)
set_option maxRecDepth 20000 in
theorem gX5_kindFor_X2_has : GoodIn wsX5_kindFor (wsV RX5 94 RX2 yX2_has wsX2_has) := goodIn_app (goodIn_of _ (by decide +kernel)) ggX5_kindFor_X2_has
set_option maxRecDepth 20000 in
theorem ggX5_kindFor_X5_isWithin : GoodIn wsX5_kindFor wsX5_isWithin := goodIn_r _ [16] (by decide +kernel) (by decide +kernel)
set_option maxRecDepth 20000 in
theorem gX5_kindFor_X5_isWithin : GoodIn wsX5_kindFor (va_wsS RX5 47 yX5_isWithin wsX5_isWithin) := goodIn_app (goodIn_of _ (by decide +kernel)) ggX5_kindFor_X5_isWithin
set_option maxRecDepth 20000 in
theorem ggX5_kindFor_X5_finding : GoodIn wsX5_kindFor wsX5_finding := goodIn_r _ [21, 2, 22, 17, 14, 15, 16, 150, 151, 152, 153, 154, 155, 156, 157] (by decide +kernel) (by decide +kernel)
set_option maxRecDepth 20000 in
theorem gX5_kindFor_X5_finding : GoodIn wsX5_kindFor (wsV RX5 55 RX5 yX5_finding wsX5_finding) := goodIn_app (goodIn_of _ (by decide +kernel)) ggX5_kindFor_X5_finding
set_option maxRecDepth 20000 in
theorem ggX5_kindFor_X2_become : GoodIn wsX5_kindFor wsX2_become := goodIn_r _ [26, 27, 28, 29, 30, 31, 32, 33, 34, 35, 36, 37, 38, 13, 39, 40, 41, 42, 43, 44, 45, 46, 47, 48, 49, 50, 51, 158, 159, 160, 161, 162, 163, 164, 165, 166, 167, 168, 169, 170, 171, 172, 173, 174] (by decide +kernel) (by decide +kernel)
set_option maxRecDepth 20000 in
theorem gX5_kindFor_X2_become : GoodIn wsX5_kindFor (wsV RX5 156 RX2 yX2_become wsX2_become) := goodIn_app (goodIn_of _ (by decide +kernel)) ggX5_kindFor_X2_become
set_option maxRecDepth 20000 in
theorem ggX5_kindFor_X2_passDays : GoodIn wsX5_kindFor wsX2_passDays := goodIn_r _ [55, 56, 57, 58, 11, 59, 27, 28, 30, 37, 60, 61, 62, 63, 64, 65, 66, 67, 68, 13, 39, 29, 35, 69, 70, 71, 72, 44, 73, 51, 49, 74, 75, 76, 77, 48, 78, 79, 80, 81, 46, 50, 82, 83, 84, 85, 86, 87, 88, 89, 47, 90, 91, 92, 93, 94, 95, 96, 97, 98, 99, 100, 101, 102, 103, 104, 105, 106, 107, 108, 109, 110, 111, 112, 113, 114, 115, 116, 117, 118, 119, 120, 121, 122, 123, 124, 125, 126, 127, 128, 129, 130, 131, 36, 132, 133, 134, 135, 136, 137, 138, 139, 140, 141, 142, 143, 144, 145, 158, 159, 160, 161, 162, 163, 164, 165, 166, 167, 168, 169, 170, 171, 172, 173, 174] (by decide +kernel) (by decide +kernel)
set_option maxRecDepth 20000 in
theorem gX5_kindFor_X2_passDays : GoodIn wsX5_kindFor (wsV RX5 127 RX2 yX2_passDays wsX2_passDays) := goodIn_app (goodIn_of _ (by decide +kernel)) ggX5_kindFor_X2_passDays
set_option maxRecDepth 20000 in
theorem ggX5_kindFor_X5_firstGreatestOutcome : GoodIn wsX5_kindFor wsX5_firstGreatestOutcome := goodIn_r _ [149, 6, 150, 151, 152, 153, 154, 155, 156, 157] (by decide +kernel) (by decide +kernel)
set_option maxRecDepth 20000 in
theorem gX5_kindFor_X5_firstGreatestOutcome : GoodIn wsX5_kindFor (wsV RX5 164 RX5 yX5_firstGreatestOutcome wsX5_firstGreatestOutcome) := goodIn_app (goodIn_of _ (by decide +kernel)) ggX5_kindFor_X5_firstGreatestOutcome
theorem dX5_kindFor_0 : decode cX5_kindFor 0 = .ok (.aload_n 0, 1) := by decide +kernel
theorem dX5_kindFor_1 : decode cX5_kindFor 1 = .ok (.getfield 12, 3) := by decide +kernel
theorem dX5_kindFor_4 : decode cX5_kindFor 4 = .ok (.iload_n 1, 1) := by decide +kernel
theorem dX5_kindFor_5 : decode cX5_kindFor 5 = .ok (.invokevirtual 94, 3) := by decide +kernel
theorem dX5_kindFor_8 : decode cX5_kindFor 8 = .ok (.ifCond .eq 13, 3) := by decide +kernel
theorem dX5_kindFor_11 : decode cX5_kindFor 11 = .ok (.iload_n 2, 1) := by decide +kernel
theorem dX5_kindFor_12 : decode cX5_kindFor 12 = .ok (.iconst 0, 1) := by decide +kernel
theorem dX5_kindFor_13 : decode cX5_kindFor 13 = .ok (.bipush 60, 2) := by decide +kernel
theorem dX5_kindFor_15 : decode cX5_kindFor 15 = .ok (.invokestatic 47, 3) := by decide +kernel
theorem dX5_kindFor_18 : decode cX5_kindFor 18 = .ok (.ifCond .ne 10, 3) := by decide +kernel
theorem dX5_kindFor_21 : decode cX5_kindFor 21 = .ok (.aload_n 0, 1) := by decide +kernel
theorem dX5_kindFor_22 : decode cX5_kindFor 22 = .ok (.ldc 54, 2) := by decide +kernel
theorem dX5_kindFor_24 : decode cX5_kindFor 24 = .ok (.invokevirtual 55, 3) := by decide +kernel
theorem dX5_kindFor_27 : decode cX5_kindFor 27 = .ok (.ireturn, 1) := by decide +kernel
theorem dX5_kindFor_28 : decode cX5_kindFor 28 = .ok (.iconst 0, 1) := by decide +kernel
theorem dX5_kindFor_29 : decode cX5_kindFor 29 = .ok (.istore_n 3, 1) := by decide +kernel
theorem dX5_kindFor_30 : decode cX5_kindFor 30 = .ok (.iload_n 3, 1) := by decide +kernel
theorem dX5_kindFor_31 : decode cX5_kindFor 31 = .ok (.bipush 7, 2) := by decide +kernel
theorem dX5_kindFor_33 : decode cX5_kindFor 33 = .ok (.if_icmp .ge 59, 3) := by decide +kernel
theorem dX5_kindFor_36 : decode cX5_kindFor 36 = .ok (.aload_n 0, 1) := by decide +kernel
theorem dX5_kindFor_37 : decode cX5_kindFor 37 = .ok (.getfield 16, 3) := by decide +kernel
theorem dX5_kindFor_40 : decode cX5_kindFor 40 = .ok (.aload_n 0, 1) := by decide +kernel
theorem dX5_kindFor_41 : decode cX5_kindFor 41 = .ok (.getfield 12, 3) := by decide +kernel
theorem dX5_kindFor_44 : decode cX5_kindFor 44 = .ok (.invokevirtual 156, 3) := by decide +kernel
theorem dX5_kindFor_47 : decode cX5_kindFor 47 = .ok (.aload_n 0, 1) := by decide +kernel
theorem dX5_kindFor_48 : decode cX5_kindFor 48 = .ok (.getfield 16, 3) := by decide +kernel
theorem dX5_kindFor_51 : decode cX5_kindFor 51 = .ok (.getfield 103, 3) := by decide +kernel
theorem dX5_kindFor_54 : decode cX5_kindFor 54 = .ok (.iload_n 1, 1) := by decide +kernel
theorem dX5_kindFor_55 : decode cX5_kindFor 55 = .ok (.aaload, 1) := by decide +kernel
theorem dX5_kindFor_56 : decode cX5_kindFor 56 = .ok (.iload_n 3, 1) := by decide +kernel
theorem dX5_kindFor_57 : decode cX5_kindFor 57 = .ok (.putfield 168, 3) := by decide +kernel
theorem dX5_kindFor_60 : decode cX5_kindFor 60 = .ok (.aload_n 0, 1) := by decide +kernel
theorem dX5_kindFor_61 : decode cX5_kindFor 61 = .ok (.getfield 16, 3) := by decide +kernel
theorem dX5_kindFor_64 : decode cX5_kindFor 64 = .ok (.iload_n 2, 1) := by decide +kernel
theorem dX5_kindFor_65 : decode cX5_kindFor 65 = .ok (.invokevirtual 127, 3) := by decide +kernel
theorem dX5_kindFor_68 : decode cX5_kindFor 68 = .ok (.aload_n 0, 1) := by decide +kernel
theorem dX5_kindFor_69 : decode cX5_kindFor 69 = .ok (.getfield 26, 3) := by decide +kernel
theorem dX5_kindFor_72 : decode cX5_kindFor 72 = .ok (.iload_n 3, 1) := by decide +kernel
theorem dX5_kindFor_73 : decode cX5_kindFor 73 = .ok (.aload_n 0, 1) := by decide +kernel
theorem dX5_kindFor_74 : decode cX5_kindFor 74 = .ok (.getfield 16, 3) := by decide +kernel
theorem dX5_kindFor_77 : decode cX5_kindFor 77 = .ok (.getfield 103, 3) := by decide +kernel
theorem dX5_kindFor_80 : decode cX5_kindFor 80 = .ok (.iload_n 1, 1) := by decide +kernel
theorem dX5_kindFor_81 : decode cX5_kindFor 81 = .ok (.aaload, 1) := by decide +kernel
theorem dX5_kindFor_82 : decode cX5_kindFor 82 = .ok (.getfield 171, 3) := by decide +kernel
theorem dX5_kindFor_85 : decode cX5_kindFor 85 = .ok (.iastore, 1) := by decide +kernel
theorem dX5_kindFor_86 : decode cX5_kindFor 86 = .ok (.iinc 3 1, 3) := by decide +kernel
theorem dX5_kindFor_89 : decode cX5_kindFor 89 = .ok (.goto (-59), 3) := by decide +kernel
theorem dX5_kindFor_92 : decode cX5_kindFor 92 = .ok (.aload_n 0, 1) := by decide +kernel
theorem dX5_kindFor_93 : decode cX5_kindFor 93 = .ok (.bipush 7, 2) := by decide +kernel
theorem dX5_kindFor_95 : decode cX5_kindFor 95 = .ok (.invokevirtual 164, 3) := by decide +kernel
theorem dX5_kindFor_98 : decode cX5_kindFor 98 = .ok (.ireturn, 1) := by decide +kernel
set_option maxRecDepth 20000 in
theorem ggX5_empty_X5_isWithin : GoodIn wsX5_empty wsX5_isWithin := goodIn_r _ [8] (by decide +kernel) (by decide +kernel)
set_option maxRecDepth 20000 in
theorem gX5_empty_X5_isWithin : GoodIn wsX5_empty (va_wsS RX5 47 yX5_isWithin wsX5_isWithin) := goodIn_app (goodIn_of _ (by decide +kernel)) ggX5_empty_X5_isWithin
set_option maxRecDepth 20000 in
theorem ggX5_empty_X5_finding : GoodIn wsX5_empty wsX5_finding := goodIn_r _ [12, 1, 13, 5, 6, 7, 8, 150, 151, 152, 153, 154, 155, 156, 157] (by decide +kernel) (by decide +kernel)
set_option maxRecDepth 20000 in
theorem gX5_empty_X5_finding : GoodIn wsX5_empty (wsV RX5 55 RX5 yX5_finding wsX5_finding) := goodIn_app (goodIn_of _ (by decide +kernel)) ggX5_empty_X5_finding
set_option maxRecDepth 20000 in
theorem ggX5_empty_X2_everybody : GoodIn wsX5_empty wsX2_everybody := goodIn_r _ [18, 19, 158, 159, 160, 161, 162, 163, 164, 165, 166, 167, 168] (by decide +kernel) (by decide +kernel)
set_option maxRecDepth 20000 in
theorem gX5_empty_X2_everybody : GoodIn wsX5_empty (wsV RX5 134 RX2 yX2_everybody wsX2_everybody) := goodIn_app (goodIn_of _ (by decide +kernel)) ggX5_empty_X2_everybody
set_option maxRecDepth 20000 in
theorem ggX5_empty_J6_bitCount_0f7a4 : GoodIn wsX5_empty wsJ6_bitCount_0f7a4 := goodIn_r _ [23, 24, 25, 26] (by decide +kernel) (by decide +kernel)
set_option maxRecDepth 20000 in
theorem gX5_empty_J6_bitCount_0f7a4 : GoodIn wsX5_empty (va_wsS RX5 177 yJ6_bitCount_0f7a4 wsJ6_bitCount_0f7a4) := goodIn_app (goodIn_of _ (by decide +kernel)) ggX5_empty_J6_bitCount_0f7a4
set_option maxRecDepth 20000 in
theorem ggX5_empty_X5_earnsNothingWithout : GoodIn wsX5_empty wsX5_earnsNothingWithout := goodIn_r _ [30, 31, 2, 32, 33, 34, 35, 17, 36, 37, 38, 39, 40, 41, 42, 43, 44, 45, 46, 47, 48, 19, 49, 50, 51, 52, 53, 54, 55, 56, 57, 58, 59, 60, 61, 62, 63, 64, 65, 66, 67, 68, 69, 70, 71, 72, 73, 74, 75, 76, 77, 78, 79, 80, 81, 82, 83, 84, 85, 86, 87, 88, 89, 90, 91, 92, 93, 94, 95, 96, 97, 98, 99, 100, 101, 102, 103, 104, 105, 106, 107, 108, 109, 110, 111, 112, 113, 114, 115, 116, 117, 118, 119, 21, 22, 23, 24, 25, 26, 120, 121, 122, 123, 124, 125, 126, 127, 128, 129, 130, 131, 132, 133, 134, 135, 136, 137, 138, 139, 140, 141, 142, 143, 144, 145, 146, 147, 148, 149, 150, 151, 152, 153, 154, 155, 156, 157, 158, 159, 160, 161, 162, 163, 164, 165, 166, 167, 168, 169, 170, 171, 172, 173, 174] (by decide +kernel) (by decide +kernel)
set_option maxRecDepth 20000 in
theorem gX5_empty_X5_earnsNothingWithout : GoodIn wsX5_empty (wsV RX5 182 RX5 yX5_earnsNothingWithout wsX5_earnsNothingWithout) := goodIn_app (goodIn_of _ (by decide +kernel)) ggX5_empty_X5_earnsNothingWithout
theorem dX5_empty_0 : decode cX5_empty 0 = .ok (.iload_n 1, 1) := by decide +kernel
theorem dX5_empty_1 : decode cX5_empty 1 = .ok (.iconst 0, 1) := by decide +kernel
theorem dX5_empty_2 : decode cX5_empty 2 = .ok (.bipush 20, 2) := by decide +kernel
theorem dX5_empty_4 : decode cX5_empty 4 = .ok (.invokestatic 47, 3) := by decide +kernel
theorem dX5_empty_7 : decode cX5_empty 7 = .ok (.ifCond .ne 10, 3) := by decide +kernel
theorem dX5_empty_10 : decode cX5_empty 10 = .ok (.aload_n 0, 1) := by decide +kernel
theorem dX5_empty_11 : decode cX5_empty 11 = .ok (.ldc 54, 2) := by decide +kernel
theorem dX5_empty_13 : decode cX5_empty 13 = .ok (.invokevirtual 55, 3) := by decide +kernel
theorem dX5_empty_16 : decode cX5_empty 16 = .ok (.ireturn, 1) := by decide +kernel
theorem dX5_empty_17 : decode cX5_empty 17 = .ok (.aload_n 0, 1) := by decide +kernel
theorem dX5_empty_18 : decode cX5_empty 18 = .ok (.getfield 12, 3) := by decide +kernel
theorem dX5_empty_21 : decode cX5_empty 21 = .ok (.invokevirtual 134, 3) := by decide +kernel
theorem dX5_empty_24 : decode cX5_empty 24 = .ok (.istore_n 2, 1) := by decide +kernel
theorem dX5_empty_25 : decode cX5_empty 25 = .ok (.iconst 0, 1) := by decide +kernel
theorem dX5_empty_26 : decode cX5_empty 26 = .ok (.istore_n 3, 1) := by decide +kernel
theorem dX5_empty_27 : decode cX5_empty 27 = .ok (.iload_n 3, 1) := by decide +kernel
theorem dX5_empty_28 : decode cX5_empty 28 = .ok (.aload_n 0, 1) := by decide +kernel
theorem dX5_empty_29 : decode cX5_empty 29 = .ok (.getfield 12, 3) := by decide +kernel
theorem dX5_empty_32 : decode cX5_empty 32 = .ok (.getfield 174, 3) := by decide +kernel
theorem dX5_empty_35 : decode cX5_empty 35 = .ok (.if_icmp .gt 46, 3) := by decide +kernel
theorem dX5_empty_38 : decode cX5_empty 38 = .ok (.iconst 0, 1) := by decide +kernel
theorem dX5_empty_39 : decode cX5_empty 39 = .ok (.istore 4, 2) := by decide +kernel
theorem dX5_empty_41 : decode cX5_empty 41 = .ok (.iload 4, 2) := by decide +kernel
theorem dX5_empty_43 : decode cX5_empty 43 = .ok (.iload_n 2, 1) := by decide +kernel
theorem dX5_empty_44 : decode cX5_empty 44 = .ok (.if_icmp .gt 31, 3) := by decide +kernel
theorem dX5_empty_47 : decode cX5_empty 47 = .ok (.iload 4, 2) := by decide +kernel
theorem dX5_empty_49 : decode cX5_empty 49 = .ok (.invokestatic 177, 3) := by decide +kernel
theorem dX5_empty_52 : decode cX5_empty 52 = .ok (.iload_n 3, 1) := by decide +kernel
theorem dX5_empty_53 : decode cX5_empty 53 = .ok (.if_icmp .ne 16, 3) := by decide +kernel
theorem dX5_empty_56 : decode cX5_empty 56 = .ok (.aload_n 0, 1) := by decide +kernel
theorem dX5_empty_57 : decode cX5_empty 57 = .ok (.iload 4, 2) := by decide +kernel
theorem dX5_empty_59 : decode cX5_empty 59 = .ok (.iload_n 1, 1) := by decide +kernel
theorem dX5_empty_60 : decode cX5_empty 60 = .ok (.invokevirtual 182, 3) := by decide +kernel
theorem dX5_empty_63 : decode cX5_empty 63 = .ok (.ifCond .eq 6, 3) := by decide +kernel
theorem dX5_empty_66 : decode cX5_empty 66 = .ok (.iload 4, 2) := by decide +kernel
theorem dX5_empty_68 : decode cX5_empty 68 = .ok (.ireturn, 1) := by decide +kernel
theorem dX5_empty_69 : decode cX5_empty 69 = .ok (.iinc 4 1, 3) := by decide +kernel
theorem dX5_empty_72 : decode cX5_empty 72 = .ok (.goto (-31), 3) := by decide +kernel
theorem dX5_empty_75 : decode cX5_empty 75 = .ok (.iinc 3 1, 3) := by decide +kernel
theorem dX5_empty_78 : decode cX5_empty 78 = .ok (.goto (-51), 3) := by decide +kernel
theorem dX5_empty_81 : decode cX5_empty 81 = .ok (.aload_n 0, 1) := by decide +kernel
theorem dX5_empty_82 : decode cX5_empty 82 = .ok (.ldc 167, 2) := by decide +kernel
theorem dX5_empty_84 : decode cX5_empty 84 = .ok (.invokevirtual 55, 3) := by decide +kernel
theorem dX5_empty_87 : decode cX5_empty 87 = .ok (.ireturn, 1) := by decide +kernel
set_option maxRecDepth 20000 in
theorem ggX5_cover_X5_isWithin : GoodIn wsX5_cover wsX5_isWithin := goodIn_r _ [8] (by decide +kernel) (by decide +kernel)
set_option maxRecDepth 20000 in
theorem gX5_cover_X5_isWithin : GoodIn wsX5_cover (va_wsS RX5 47 yX5_isWithin wsX5_isWithin) := goodIn_app (goodIn_of _ (by decide +kernel)) ggX5_cover_X5_isWithin
set_option maxRecDepth 20000 in
theorem ggX5_cover_X5_finding : GoodIn wsX5_cover wsX5_finding := goodIn_r _ [12, 1, 13, 5, 6, 7, 8, 33, 34, 35, 36, 37, 38, 39, 40] (by decide +kernel) (by decide +kernel)
set_option maxRecDepth 20000 in
theorem gX5_cover_X5_finding : GoodIn wsX5_cover (wsV RX5 55 RX5 yX5_finding wsX5_finding) := goodIn_app (goodIn_of _ (by decide +kernel)) ggX5_cover_X5_finding
set_option maxRecDepth 20000 in
theorem ggX5_cover_X2_everybody : GoodIn wsX5_cover wsX2_everybody := goodIn_r _ [18, 19, 41, 42, 43, 44, 45, 46, 47, 48, 49, 50, 51] (by decide +kernel) (by decide +kernel)
set_option maxRecDepth 20000 in
theorem gX5_cover_X2_everybody : GoodIn wsX5_cover (wsV RX5 134 RX2 yX2_everybody wsX2_everybody) := goodIn_app (goodIn_of _ (by decide +kernel)) ggX5_cover_X2_everybody
set_option maxRecDepth 20000 in
theorem ggX5_cover_J6_bitCount_0f7a4 : GoodIn wsX5_cover wsJ6_bitCount_0f7a4 := goodIn_r _ [23, 24, 25, 26] (by decide +kernel) (by decide +kernel)
set_option maxRecDepth 20000 in
theorem gX5_cover_J6_bitCount_0f7a4 : GoodIn wsX5_cover (va_wsS RX5 177 yJ6_bitCount_0f7a4 wsJ6_bitCount_0f7a4) := goodIn_app (goodIn_of _ (by decide +kernel)) ggX5_cover_J6_bitCount_0f7a4
set_option maxRecDepth 20000 in
theorem ggX5_cover_X2_wantedBy : GoodIn wsX5_cover wsX2_wantedBy := goodIn_r _ [30, 19, 31, 32, 41, 42, 43, 44, 45, 46, 47, 48, 49, 50, 51, 52, 53, 54, 55, 56, 57] (by decide +kernel) (by decide +kernel)
set_option maxRecDepth 20000 in
theorem gX5_cover_X2_wantedBy : GoodIn wsX5_cover (wsV RX5 138 RX2 yX2_wantedBy wsX2_wantedBy) := goodIn_app (goodIn_of _ (by decide +kernel)) ggX5_cover_X2_wantedBy
theorem dX5_cover_0 : decode cX5_cover 0 = .ok (.iload_n 1, 1) := by decide +kernel
theorem dX5_cover_1 : decode cX5_cover 1 = .ok (.iconst 0, 1) := by decide +kernel
theorem dX5_cover_2 : decode cX5_cover 2 = .ok (.sipush 4095, 3) := by decide +kernel
theorem dX5_cover_5 : decode cX5_cover 5 = .ok (.invokestatic 47, 3) := by decide +kernel
theorem dX5_cover_8 : decode cX5_cover 8 = .ok (.ifCond .ne 10, 3) := by decide +kernel
theorem dX5_cover_11 : decode cX5_cover 11 = .ok (.aload_n 0, 1) := by decide +kernel
theorem dX5_cover_12 : decode cX5_cover 12 = .ok (.ldc 54, 2) := by decide +kernel
theorem dX5_cover_14 : decode cX5_cover 14 = .ok (.invokevirtual 55, 3) := by decide +kernel
theorem dX5_cover_17 : decode cX5_cover 17 = .ok (.ireturn, 1) := by decide +kernel
theorem dX5_cover_18 : decode cX5_cover 18 = .ok (.aload_n 0, 1) := by decide +kernel
theorem dX5_cover_19 : decode cX5_cover 19 = .ok (.getfield 12, 3) := by decide +kernel
theorem dX5_cover_22 : decode cX5_cover 22 = .ok (.invokevirtual 134, 3) := by decide +kernel
theorem dX5_cover_25 : decode cX5_cover 25 = .ok (.istore_n 2, 1) := by decide +kernel
theorem dX5_cover_26 : decode cX5_cover 26 = .ok (.iconst 0, 1) := by decide +kernel
theorem dX5_cover_27 : decode cX5_cover 27 = .ok (.istore_n 3, 1) := by decide +kernel
theorem dX5_cover_28 : decode cX5_cover 28 = .ok (.iload_n 3, 1) := by decide +kernel
theorem dX5_cover_29 : decode cX5_cover 29 = .ok (.aload_n 0, 1) := by decide +kernel
theorem dX5_cover_30 : decode cX5_cover 30 = .ok (.getfield 12, 3) := by decide +kernel
theorem dX5_cover_33 : decode cX5_cover 33 = .ok (.getfield 174, 3) := by decide +kernel
theorem dX5_cover_36 : decode cX5_cover 36 = .ok (.if_icmp .gt 52, 3) := by decide +kernel
theorem dX5_cover_39 : decode cX5_cover 39 = .ok (.iconst 0, 1) := by decide +kernel
theorem dX5_cover_40 : decode cX5_cover 40 = .ok (.istore 4, 2) := by decide +kernel
theorem dX5_cover_42 : decode cX5_cover 42 = .ok (.iload 4, 2) := by decide +kernel
theorem dX5_cover_44 : decode cX5_cover 44 = .ok (.iload_n 2, 1) := by decide +kernel
theorem dX5_cover_45 : decode cX5_cover 45 = .ok (.if_icmp .gt 37, 3) := by decide +kernel
theorem dX5_cover_48 : decode cX5_cover 48 = .ok (.iload 4, 2) := by decide +kernel
theorem dX5_cover_50 : decode cX5_cover 50 = .ok (.invokestatic 177, 3) := by decide +kernel
theorem dX5_cover_53 : decode cX5_cover 53 = .ok (.iload_n 3, 1) := by decide +kernel
theorem dX5_cover_54 : decode cX5_cover 54 = .ok (.if_icmp .ne 22, 3) := by decide +kernel
theorem dX5_cover_57 : decode cX5_cover 57 = .ok (.iload_n 1, 1) := by decide +kernel
theorem dX5_cover_58 : decode cX5_cover 58 = .ok (.aload_n 0, 1) := by decide +kernel
theorem dX5_cover_59 : decode cX5_cover 59 = .ok (.getfield 12, 3) := by decide +kernel
theorem dX5_cover_62 : decode cX5_cover 62 = .ok (.iload 4, 2) := by decide +kernel
theorem dX5_cover_64 : decode cX5_cover 64 = .ok (.invokevirtual 138, 3) := by decide +kernel
theorem dX5_cover_67 : decode cX5_cover 67 = .ok (.iconst (-1), 1) := by decide +kernel
theorem dX5_cover_68 : decode cX5_cover 68 = .ok (.ixor, 1) := by decide +kernel
theorem dX5_cover_69 : decode cX5_cover 69 = .ok (.iand, 1) := by decide +kernel
theorem dX5_cover_70 : decode cX5_cover 70 = .ok (.ifCond .ne 6, 3) := by decide +kernel
theorem dX5_cover_73 : decode cX5_cover 73 = .ok (.iload 4, 2) := by decide +kernel
theorem dX5_cover_75 : decode cX5_cover 75 = .ok (.ireturn, 1) := by decide +kernel
theorem dX5_cover_76 : decode cX5_cover 76 = .ok (.iinc 4 1, 3) := by decide +kernel
theorem dX5_cover_79 : decode cX5_cover 79 = .ok (.goto (-37), 3) := by decide +kernel
theorem dX5_cover_82 : decode cX5_cover 82 = .ok (.iinc 3 1, 3) := by decide +kernel
theorem dX5_cover_85 : decode cX5_cover 85 = .ok (.goto (-57), 3) := by decide +kernel
theorem dX5_cover_88 : decode cX5_cover 88 = .ok (.aload_n 0, 1) := by decide +kernel
theorem dX5_cover_89 : decode cX5_cover 89 = .ok (.ldc 167, 2) := by decide +kernel
theorem dX5_cover_91 : decode cX5_cover 91 = .ok (.invokevirtual 55, 3) := by decide +kernel
theorem dX5_cover_94 : decode cX5_cover 94 = .ok (.ireturn, 1) := by decide +kernel
set_option maxRecDepth 20000 in
theorem ggX5_fits_X5_wrongWithStandings : GoodIn wsX5_fits wsX5_wrongWithStandings := goodIn_r _ [10, 2, 11, 12, 13, 14, 9, 15, 5, 16, 17, 18, 19, 20, 21, 22, 23, 24, 25, 26, 27, 28, 29, 30, 31, 32, 33, 34, 166, 167, 168, 169, 170, 171, 172, 173, 191, 192, 193, 174, 175, 176, 177, 178, 179, 180, 181, 182, 183, 184] (by decide +kernel) (by decide +kernel)
set_option maxRecDepth 20000 in
theorem gX5_fits_X5_wrongWithStandings : GoodIn wsX5_fits (wsV RX5 186 RX5 yX5_wrongWithStandings wsX5_wrongWithStandings) := goodIn_app (goodIn_of _ (by decide +kernel)) ggX5_fits_X5_wrongWithStandings
set_option maxRecDepth 20000 in
theorem ggX5_fits_X5_finding : GoodIn wsX5_fits wsX5_finding := goodIn_r _ [38, 11, 39, 20, 21, 9, 22, 166, 167, 168, 169, 170, 171, 172, 173] (by decide +kernel) (by decide +kernel)
set_option maxRecDepth 20000 in
theorem gX5_fits_X5_finding : GoodIn wsX5_fits (wsV RX5 55 RX5 yX5_finding wsX5_finding) := goodIn_app (goodIn_of _ (by decide +kernel)) ggX5_fits_X5_finding
set_option maxRecDepth 20000 in
theorem ggX5_fits_X2_become : GoodIn wsX5_fits wsX2_become := goodIn_r _ [43, 44, 45, 46, 47, 48, 49, 50, 51, 52, 53, 54, 55, 34, 56, 57, 58, 59, 60, 61, 62, 63, 64, 65, 66, 67, 68, 174, 175, 176, 177, 178, 179, 180, 181, 182, 183, 184, 185, 186, 187, 188, 189, 190] (by decide +kernel) (by decide +kernel)
set_option maxRecDepth 20000 in
theorem gX5_fits_X2_become : GoodIn wsX5_fits (wsV RX5 156 RX2 yX2_become wsX2_become) := goodIn_app (goodIn_of _ (by decide +kernel)) ggX5_fits_X2_become
set_option maxRecDepth 20000 in
theorem ggX5_fits_X5_standsAsTold : GoodIn wsX5_fits wsX5_standsAsTold := goodIn_r _ [72, 73, 1, 74, 3, 75, 76, 77, 78, 32, 79, 44, 45, 47, 54, 80, 81, 82, 83, 84, 85, 86, 87, 88, 34, 56, 46, 52, 89, 90, 91, 92, 61, 93, 68, 66, 94, 95, 96, 97, 65, 98, 99, 100, 101, 63, 67, 102, 103, 104, 105, 106, 107, 108, 109, 64, 110, 111, 112, 113, 114, 115, 116, 117, 118, 119, 120, 121, 122, 123, 124, 125, 126, 127, 128, 129, 130, 131, 132, 133, 134, 135, 136, 137, 138, 139, 140, 141, 142, 143, 144, 145, 146, 147, 148, 149, 150, 151, 53, 152, 153, 154, 155, 156, 157, 158, 159, 160, 161, 162, 163, 164, 165, 191, 192, 193, 166, 167, 168, 169, 170, 171, 172, 173, 174, 175, 176, 177, 178, 179, 180, 181, 182, 183, 184, 185, 186, 187, 188, 189, 190] (by decide +kernel) (by decide +kernel)
set_option maxRecDepth 20000 in
theorem gX5_fits_X5_standsAsTold : GoodIn wsX5_fits (wsV RX5 192 RX5 yX5_standsAsTold wsX5_standsAsTold) := goodIn_app (goodIn_of _ (by decide +kernel)) ggX5_fits_X5_standsAsTold
theorem dX5_fits_0 : decode cX5_fits 0 = .ok (.aload_n 0, 1) := by decide +kernel
theorem dX5_fits_1 : decode cX5_fits 1 = .ok (.iload_n 1, 1) := by decide +kernel
theorem dX5_fits_2 : decode cX5_fits 2 = .ok (.iload_n 2, 1) := by decide +kernel
theorem dX5_fits_3 : decode cX5_fits 3 = .ok (.invokevirtual 186, 3) := by decide +kernel
theorem dX5_fits_6 : decode cX5_fits 6 = .ok (.istore_n 3, 1) := by decide +kernel
theorem dX5_fits_7 : decode cX5_fits 7 = .ok (.iload_n 3, 1) := by decide +kernel
theorem dX5_fits_8 : decode cX5_fits 8 = .ok (.ifCond .eq 9, 3) := by decide +kernel
theorem dX5_fits_11 : decode cX5_fits 11 = .ok (.aload_n 0, 1) := by decide +kernel
theorem dX5_fits_12 : decode cX5_fits 12 = .ok (.iload_n 3, 1) := by decide +kernel
theorem dX5_fits_13 : decode cX5_fits 13 = .ok (.invokevirtual 55, 3) := by decide +kernel
theorem dX5_fits_16 : decode cX5_fits 16 = .ok (.ireturn, 1) := by decide +kernel
theorem dX5_fits_17 : decode cX5_fits 17 = .ok (.iconst 0, 1) := by decide +kernel
theorem dX5_fits_18 : decode cX5_fits 18 = .ok (.istore 4, 2) := by decide +kernel
theorem dX5_fits_20 : decode cX5_fits 20 = .ok (.iconst 0, 1) := by decide +kernel
theorem dX5_fits_21 : decode cX5_fits 21 = .ok (.istore 5, 2) := by decide +kernel
theorem dX5_fits_23 : decode cX5_fits 23 = .ok (.iload 5, 2) := by decide +kernel
theorem dX5_fits_25 : decode cX5_fits 25 = .ok (.bipush 12, 2) := by decide +kernel
theorem dX5_fits_27 : decode cX5_fits 27 = .ok (.if_icmp .ge 59, 3) := by decide +kernel
theorem dX5_fits_30 : decode cX5_fits 30 = .ok (.aload_n 0, 1) := by decide +kernel
theorem dX5_fits_31 : decode cX5_fits 31 = .ok (.getfield 16, 3) := by decide +kernel
theorem dX5_fits_34 : decode cX5_fits 34 = .ok (.aload_n 0, 1) := by decide +kernel
theorem dX5_fits_35 : decode cX5_fits 35 = .ok (.getfield 12, 3) := by decide +kernel
theorem dX5_fits_38 : decode cX5_fits 38 = .ok (.invokevirtual 156, 3) := by decide +kernel
theorem dX5_fits_41 : decode cX5_fits 41 = .ok (.aload_n 0, 1) := by decide +kernel
theorem dX5_fits_42 : decode cX5_fits 42 = .ok (.getfield 16, 3) := by decide +kernel
theorem dX5_fits_45 : decode cX5_fits 45 = .ok (.getfield 103, 3) := by decide +kernel
theorem dX5_fits_48 : decode cX5_fits 48 = .ok (.iload_n 2, 1) := by decide +kernel
theorem dX5_fits_49 : decode cX5_fits 49 = .ok (.aaload, 1) := by decide +kernel
theorem dX5_fits_50 : decode cX5_fits 50 = .ok (.iconst 1, 1) := by decide +kernel
theorem dX5_fits_51 : decode cX5_fits 51 = .ok (.iload 5, 2) := by decide +kernel
theorem dX5_fits_53 : decode cX5_fits 53 = .ok (.ishl, 1) := by decide +kernel
theorem dX5_fits_54 : decode cX5_fits 54 = .ok (.putfield 189, 3) := by decide +kernel
theorem dX5_fits_57 : decode cX5_fits 57 = .ok (.aload_n 0, 1) := by decide +kernel
theorem dX5_fits_58 : decode cX5_fits 58 = .ok (.aload_n 0, 1) := by decide +kernel
theorem dX5_fits_59 : decode cX5_fits 59 = .ok (.getfield 40, 3) := by decide +kernel
theorem dX5_fits_62 : decode cX5_fits 62 = .ok (.iload_n 1, 1) := by decide +kernel
theorem dX5_fits_63 : decode cX5_fits 63 = .ok (.aaload, 1) := by decide +kernel
theorem dX5_fits_64 : decode cX5_fits 64 = .ok (.iload_n 2, 1) := by decide +kernel
theorem dX5_fits_65 : decode cX5_fits 65 = .ok (.invokevirtual 192, 3) := by decide +kernel
theorem dX5_fits_68 : decode cX5_fits 68 = .ok (.ifCond .eq 12, 3) := by decide +kernel
theorem dX5_fits_71 : decode cX5_fits 71 = .ok (.iload 4, 2) := by decide +kernel
theorem dX5_fits_73 : decode cX5_fits 73 = .ok (.iconst 1, 1) := by decide +kernel
theorem dX5_fits_74 : decode cX5_fits 74 = .ok (.iload 5, 2) := by decide +kernel
theorem dX5_fits_76 : decode cX5_fits 76 = .ok (.ishl, 1) := by decide +kernel
theorem dX5_fits_77 : decode cX5_fits 77 = .ok (.ior, 1) := by decide +kernel
theorem dX5_fits_78 : decode cX5_fits 78 = .ok (.istore 4, 2) := by decide +kernel
theorem dX5_fits_80 : decode cX5_fits 80 = .ok (.iinc 5 1, 3) := by decide +kernel
theorem dX5_fits_83 : decode cX5_fits 83 = .ok (.goto (-60), 3) := by decide +kernel
theorem dX5_fits_86 : decode cX5_fits 86 = .ok (.iload 4, 2) := by decide +kernel
theorem dX5_fits_88 : decode cX5_fits 88 = .ok (.ireturn, 1) := by decide +kernel
set_option maxRecDepth 20000 in
theorem ggX5_kinds_X5_wrongWithStandings : GoodIn wsX5_kinds wsX5_wrongWithStandings := goodIn_r _ [10, 2, 11, 12, 13, 14, 9, 15, 5, 16, 17, 18, 19, 20, 21, 22, 23, 24, 25, 26, 27, 28, 29, 30, 31, 32, 33, 34, 166, 167, 168, 169, 170, 171, 172, 173, 191, 192, 193, 174, 175, 176, 177, 178, 179, 180, 181, 182, 183, 184] (by decide +kernel) (by decide +kernel)
set_option maxRecDepth 20000 in
theorem gX5_kinds_X5_wrongWithStandings : GoodIn wsX5_kinds (wsV RX5 186 RX5 yX5_wrongWithStandings wsX5_wrongWithStandings) := goodIn_app (goodIn_of _ (by decide +kernel)) ggX5_kinds_X5_wrongWithStandings
set_option maxRecDepth 20000 in
theorem ggX5_kinds_X5_finding : GoodIn wsX5_kinds wsX5_finding := goodIn_r _ [38, 11, 39, 20, 21, 9, 22, 166, 167, 168, 169, 170, 171, 172, 173] (by decide +kernel) (by decide +kernel)
set_option maxRecDepth 20000 in
theorem gX5_kinds_X5_finding : GoodIn wsX5_kinds (wsV RX5 55 RX5 yX5_finding wsX5_finding) := goodIn_app (goodIn_of _ (by decide +kernel)) ggX5_kinds_X5_finding
set_option maxRecDepth 20000 in
theorem ggX5_kinds_X2_become : GoodIn wsX5_kinds wsX2_become := goodIn_r _ [43, 44, 45, 46, 47, 48, 49, 50, 51, 52, 53, 54, 55, 34, 56, 57, 58, 59, 60, 61, 62, 63, 64, 65, 66, 67, 68, 174, 175, 176, 177, 178, 179, 180, 181, 182, 183, 184, 185, 186, 187, 188, 189, 190] (by decide +kernel) (by decide +kernel)
set_option maxRecDepth 20000 in
theorem gX5_kinds_X2_become : GoodIn wsX5_kinds (wsV RX5 156 RX2 yX2_become wsX2_become) := goodIn_app (goodIn_of _ (by decide +kernel)) ggX5_kinds_X2_become
set_option maxRecDepth 20000 in
theorem ggX5_kinds_X5_standsAsTold : GoodIn wsX5_kinds wsX5_standsAsTold := goodIn_r _ [72, 73, 1, 74, 3, 75, 76, 77, 78, 32, 79, 44, 45, 47, 54, 80, 81, 82, 83, 84, 85, 86, 87, 88, 34, 56, 46, 52, 89, 90, 91, 92, 61, 93, 68, 66, 94, 95, 96, 97, 65, 98, 99, 100, 101, 63, 67, 102, 103, 104, 105, 106, 107, 108, 109, 64, 110, 111, 112, 113, 114, 115, 116, 117, 118, 119, 120, 121, 122, 123, 124, 125, 126, 127, 128, 129, 130, 131, 132, 133, 134, 135, 136, 137, 138, 139, 140, 141, 142, 143, 144, 145, 146, 147, 148, 149, 150, 151, 53, 152, 153, 154, 155, 156, 157, 158, 159, 160, 161, 162, 163, 164, 165, 191, 192, 193, 166, 167, 168, 169, 170, 171, 172, 173, 174, 175, 176, 177, 178, 179, 180, 181, 182, 183, 184, 185, 186, 187, 188, 189, 190] (by decide +kernel) (by decide +kernel)
set_option maxRecDepth 20000 in
theorem gX5_kinds_X5_standsAsTold : GoodIn wsX5_kinds (wsV RX5 192 RX5 yX5_standsAsTold wsX5_standsAsTold) := goodIn_app (goodIn_of _ (by decide +kernel)) ggX5_kinds_X5_standsAsTold
theorem dX5_kinds_0 : decode cX5_kinds 0 = .ok (.aload_n 0, 1) := by decide +kernel
theorem dX5_kinds_1 : decode cX5_kinds 1 = .ok (.iload_n 1, 1) := by decide +kernel
theorem dX5_kinds_2 : decode cX5_kinds 2 = .ok (.iload_n 2, 1) := by decide +kernel
theorem dX5_kinds_3 : decode cX5_kinds 3 = .ok (.invokevirtual 186, 3) := by decide +kernel
theorem dX5_kinds_6 : decode cX5_kinds 6 = .ok (.istore_n 3, 1) := by decide +kernel
theorem dX5_kinds_7 : decode cX5_kinds 7 = .ok (.iload_n 3, 1) := by decide +kernel
theorem dX5_kinds_8 : decode cX5_kinds 8 = .ok (.ifCond .eq 9, 3) := by decide +kernel
theorem dX5_kinds_11 : decode cX5_kinds 11 = .ok (.aload_n 0, 1) := by decide +kernel
theorem dX5_kinds_12 : decode cX5_kinds 12 = .ok (.iload_n 3, 1) := by decide +kernel
theorem dX5_kinds_13 : decode cX5_kinds 13 = .ok (.invokevirtual 55, 3) := by decide +kernel
theorem dX5_kinds_16 : decode cX5_kinds 16 = .ok (.ireturn, 1) := by decide +kernel
theorem dX5_kinds_17 : decode cX5_kinds 17 = .ok (.iconst 0, 1) := by decide +kernel
theorem dX5_kinds_18 : decode cX5_kinds 18 = .ok (.istore 4, 2) := by decide +kernel
theorem dX5_kinds_20 : decode cX5_kinds 20 = .ok (.iconst 0, 1) := by decide +kernel
theorem dX5_kinds_21 : decode cX5_kinds 21 = .ok (.istore 5, 2) := by decide +kernel
theorem dX5_kinds_23 : decode cX5_kinds 23 = .ok (.iload 5, 2) := by decide +kernel
theorem dX5_kinds_25 : decode cX5_kinds 25 = .ok (.bipush 7, 2) := by decide +kernel
theorem dX5_kinds_27 : decode cX5_kinds 27 = .ok (.if_icmp .ge 57, 3) := by decide +kernel
theorem dX5_kinds_30 : decode cX5_kinds 30 = .ok (.aload_n 0, 1) := by decide +kernel
theorem dX5_kinds_31 : decode cX5_kinds 31 = .ok (.getfield 16, 3) := by decide +kernel
theorem dX5_kinds_34 : decode cX5_kinds 34 = .ok (.aload_n 0, 1) := by decide +kernel
theorem dX5_kinds_35 : decode cX5_kinds 35 = .ok (.getfield 12, 3) := by decide +kernel
theorem dX5_kinds_38 : decode cX5_kinds 38 = .ok (.invokevirtual 156, 3) := by decide +kernel
theorem dX5_kinds_41 : decode cX5_kinds 41 = .ok (.aload_n 0, 1) := by decide +kernel
theorem dX5_kinds_42 : decode cX5_kinds 42 = .ok (.getfield 16, 3) := by decide +kernel
theorem dX5_kinds_45 : decode cX5_kinds 45 = .ok (.getfield 103, 3) := by decide +kernel
theorem dX5_kinds_48 : decode cX5_kinds 48 = .ok (.iload_n 2, 1) := by decide +kernel
theorem dX5_kinds_49 : decode cX5_kinds 49 = .ok (.aaload, 1) := by decide +kernel
theorem dX5_kinds_50 : decode cX5_kinds 50 = .ok (.iload 5, 2) := by decide +kernel
theorem dX5_kinds_52 : decode cX5_kinds 52 = .ok (.putfield 168, 3) := by decide +kernel
theorem dX5_kinds_55 : decode cX5_kinds 55 = .ok (.aload_n 0, 1) := by decide +kernel
theorem dX5_kinds_56 : decode cX5_kinds 56 = .ok (.aload_n 0, 1) := by decide +kernel
theorem dX5_kinds_57 : decode cX5_kinds 57 = .ok (.getfield 40, 3) := by decide +kernel
theorem dX5_kinds_60 : decode cX5_kinds 60 = .ok (.iload_n 1, 1) := by decide +kernel
theorem dX5_kinds_61 : decode cX5_kinds 61 = .ok (.aaload, 1) := by decide +kernel
theorem dX5_kinds_62 : decode cX5_kinds 62 = .ok (.iload_n 2, 1) := by decide +kernel
theorem dX5_kinds_63 : decode cX5_kinds 63 = .ok (.invokevirtual 192, 3) := by decide +kernel
theorem dX5_kinds_66 : decode cX5_kinds 66 = .ok (.ifCond .eq 12, 3) := by decide +kernel
theorem dX5_kinds_69 : decode cX5_kinds 69 = .ok (.iload 4, 2) := by decide +kernel
theorem dX5_kinds_71 : decode cX5_kinds 71 = .ok (.iconst 1, 1) := by decide +kernel
theorem dX5_kinds_72 : decode cX5_kinds 72 = .ok (.iload 5, 2) := by decide +kernel
theorem dX5_kinds_74 : decode cX5_kinds 74 = .ok (.ishl, 1) := by decide +kernel
theorem dX5_kinds_75 : decode cX5_kinds 75 = .ok (.ior, 1) := by decide +kernel
theorem dX5_kinds_76 : decode cX5_kinds 76 = .ok (.istore 4, 2) := by decide +kernel
theorem dX5_kinds_78 : decode cX5_kinds 78 = .ok (.iinc 5 1, 3) := by decide +kernel
theorem dX5_kinds_81 : decode cX5_kinds 81 = .ok (.goto (-58), 3) := by decide +kernel
theorem dX5_kinds_84 : decode cX5_kinds 84 = .ok (.iload 4, 2) := by decide +kernel
theorem dX5_kinds_86 : decode cX5_kinds 86 = .ok (.ireturn, 1) := by decide +kernel
set_option maxRecDepth 20000 in
theorem ggX5_hawk_X5_isWithin : GoodIn wsX5_hawk wsX5_isWithin := goodIn_r _ [12] (by decide +kernel) (by decide +kernel)
set_option maxRecDepth 20000 in
theorem gX5_hawk_X5_isWithin : GoodIn wsX5_hawk (va_wsS RX5 47 yX5_isWithin wsX5_isWithin) := goodIn_app (goodIn_of _ (by decide +kernel)) ggX5_hawk_X5_isWithin
set_option maxRecDepth 20000 in
theorem ggX5_hawk_X5_finding : GoodIn wsX5_hawk wsX5_finding := goodIn_r _ [16, 1, 17, 9, 10, 11, 12, 131, 132, 133, 134, 135, 136, 137, 138] (by decide +kernel) (by decide +kernel)
set_option maxRecDepth 20000 in
theorem gX5_hawk_X5_finding : GoodIn wsX5_hawk (wsV RX5 55 RX5 yX5_finding wsX5_finding) := goodIn_app (goodIn_of _ (by decide +kernel)) ggX5_hawk_X5_finding
set_option maxRecDepth 20000 in
theorem ggX5_hawk_X2_draw : GoodIn wsX5_hawk wsX2_draw := goodIn_r _ [22, 23, 24, 139, 140, 141, 142, 143, 144, 145, 146, 147, 148, 149] (by decide +kernel) (by decide +kernel)
set_option maxRecDepth 20000 in
theorem gX5_hawk_X2_draw : GoodIn wsX5_hawk (wsV RX5 196 RX2 yX2_draw wsX2_draw) := goodIn_app (goodIn_of _ (by decide +kernel)) ggX5_hawk_X2_draw
set_option maxRecDepth 20000 in
theorem ggX5_hawk_X2_passDay : GoodIn wsX5_hawk wsX2_passDay := goodIn_r _ [28, 29, 30, 31, 32, 33, 34, 35, 36, 37, 38, 39, 40, 21, 41, 42, 43, 44, 45, 46, 47, 48, 49, 50, 51, 52, 53, 54, 55, 56, 57, 58, 59, 60, 61, 62, 63, 64, 65, 66, 67, 68, 69, 70, 71, 72, 73, 74, 75, 76, 77, 78, 79, 80, 81, 82, 83, 84, 85, 86, 87, 88, 89, 90, 91, 92, 93, 94, 95, 96, 97, 98, 99, 100, 101, 102, 103, 104, 105, 106, 107, 108, 109, 110, 111, 112, 113, 114, 115, 116, 117, 118, 119, 120, 121, 122, 123, 124, 125, 126, 127, 128, 129, 130, 139, 140, 141, 142, 143, 144, 145, 146, 147, 148, 149, 150, 151, 152, 153, 154, 155] (by decide +kernel) (by decide +kernel)
set_option maxRecDepth 20000 in
theorem gX5_hawk_X2_passDay : GoodIn wsX5_hawk (wsV RX5 199 RX2 yX2_passDay wsX2_passDay) := goodIn_app (goodIn_of _ (by decide +kernel)) ggX5_hawk_X2_passDay
theorem dX5_hawk_0 : decode cX5_hawk 0 = .ok (.iload_n 1, 1) := by decide +kernel
theorem dX5_hawk_1 : decode cX5_hawk 1 = .ok (.iconst 1, 1) := by decide +kernel
theorem dX5_hawk_2 : decode cX5_hawk 2 = .ok (.bipush 20, 2) := by decide +kernel
theorem dX5_hawk_4 : decode cX5_hawk 4 = .ok (.invokestatic 47, 3) := by decide +kernel
theorem dX5_hawk_7 : decode cX5_hawk 7 = .ok (.ifCond .ne 10, 3) := by decide +kernel
theorem dX5_hawk_10 : decode cX5_hawk 10 = .ok (.aload_n 0, 1) := by decide +kernel
theorem dX5_hawk_11 : decode cX5_hawk 11 = .ok (.ldc 54, 2) := by decide +kernel
theorem dX5_hawk_13 : decode cX5_hawk 13 = .ok (.invokevirtual 55, 3) := by decide +kernel
theorem dX5_hawk_16 : decode cX5_hawk 16 = .ok (.ireturn, 1) := by decide +kernel
theorem dX5_hawk_17 : decode cX5_hawk 17 = .ok (.aload_n 0, 1) := by decide +kernel
theorem dX5_hawk_18 : decode cX5_hawk 18 = .ok (.getfield 12, 3) := by decide +kernel
theorem dX5_hawk_21 : decode cX5_hawk 21 = .ok (.getfield 122, 3) := by decide +kernel
theorem dX5_hawk_24 : decode cX5_hawk 24 = .ok (.iload_n 1, 1) := by decide +kernel
theorem dX5_hawk_25 : decode cX5_hawk 25 = .ok (.iadd, 1) := by decide +kernel
theorem dX5_hawk_26 : decode cX5_hawk 26 = .ok (.ldc 125, 2) := by decide +kernel
theorem dX5_hawk_28 : decode cX5_hawk 28 = .ok (.if_icmp .le 10, 3) := by decide +kernel
theorem dX5_hawk_31 : decode cX5_hawk 31 = .ok (.aload_n 0, 1) := by decide +kernel
theorem dX5_hawk_32 : decode cX5_hawk 32 = .ok (.ldc 126, 2) := by decide +kernel
theorem dX5_hawk_34 : decode cX5_hawk 34 = .ok (.invokevirtual 55, 3) := by decide +kernel
theorem dX5_hawk_37 : decode cX5_hawk 37 = .ok (.ireturn, 1) := by decide +kernel
theorem dX5_hawk_38 : decode cX5_hawk 38 = .ok (.iconst 0, 1) := by decide +kernel
theorem dX5_hawk_39 : decode cX5_hawk 39 = .ok (.istore_n 2, 1) := by decide +kernel
theorem dX5_hawk_40 : decode cX5_hawk 40 = .ok (.iload_n 2, 1) := by decide +kernel
theorem dX5_hawk_41 : decode cX5_hawk 41 = .ok (.iload_n 1, 1) := by decide +kernel
theorem dX5_hawk_42 : decode cX5_hawk 42 = .ok (.if_icmp .ge 61, 3) := by decide +kernel
theorem dX5_hawk_45 : decode cX5_hawk 45 = .ok (.aload_n 0, 1) := by decide +kernel
theorem dX5_hawk_46 : decode cX5_hawk 46 = .ok (.getfield 12, 3) := by decide +kernel
theorem dX5_hawk_49 : decode cX5_hawk 49 = .ok (.getfield 79, 3) := by decide +kernel
theorem dX5_hawk_52 : decode cX5_hawk 52 = .ok (.aload_n 0, 1) := by decide +kernel
theorem dX5_hawk_53 : decode cX5_hawk 53 = .ok (.getfield 12, 3) := by decide +kernel
theorem dX5_hawk_56 : decode cX5_hawk 56 = .ok (.getfield 122, 3) := by decide +kernel
theorem dX5_hawk_59 : decode cX5_hawk 59 = .ok (.bipush 6, 2) := by decide +kernel
theorem dX5_hawk_61 : decode cX5_hawk 61 = .ok (.irem, 1) := by decide +kernel
theorem dX5_hawk_62 : decode cX5_hawk 62 = .ok (.aload_n 0, 1) := by decide +kernel
theorem dX5_hawk_63 : decode cX5_hawk 63 = .ok (.getfield 12, 3) := by decide +kernel
theorem dX5_hawk_66 : decode cX5_hawk 66 = .ok (.invokevirtual 196, 3) := by decide +kernel
theorem dX5_hawk_69 : decode cX5_hawk 69 = .ok (.bipush 12, 2) := by decide +kernel
theorem dX5_hawk_71 : decode cX5_hawk 71 = .ok (.irem, 1) := by decide +kernel
theorem dX5_hawk_72 : decode cX5_hawk 72 = .ok (.iastore, 1) := by decide +kernel
theorem dX5_hawk_73 : decode cX5_hawk 73 = .ok (.aload_n 0, 1) := by decide +kernel
theorem dX5_hawk_74 : decode cX5_hawk 74 = .ok (.getfield 12, 3) := by decide +kernel
theorem dX5_hawk_77 : decode cX5_hawk 77 = .ok (.aload_n 0, 1) := by decide +kernel
theorem dX5_hawk_78 : decode cX5_hawk 78 = .ok (.getfield 12, 3) := by decide +kernel
theorem dX5_hawk_81 : decode cX5_hawk 81 = .ok (.invokevirtual 196, 3) := by decide +kernel
theorem dX5_hawk_84 : decode cX5_hawk 84 = .ok (.bipush 10, 2) := by decide +kernel
theorem dX5_hawk_86 : decode cX5_hawk 86 = .ok (.irem, 1) := by decide +kernel
theorem dX5_hawk_87 : decode cX5_hawk 87 = .ok (.putfield 69, 3) := by decide +kernel
theorem dX5_hawk_90 : decode cX5_hawk 90 = .ok (.aload_n 0, 1) := by decide +kernel
theorem dX5_hawk_91 : decode cX5_hawk 91 = .ok (.getfield 12, 3) := by decide +kernel
theorem dX5_hawk_94 : decode cX5_hawk 94 = .ok (.invokevirtual 199, 3) := by decide +kernel
theorem dX5_hawk_97 : decode cX5_hawk 97 = .ok (.iinc 2 1, 3) := by decide +kernel
theorem dX5_hawk_100 : decode cX5_hawk 100 = .ok (.goto (-60), 3) := by decide +kernel
theorem dX5_hawk_103 : decode cX5_hawk 103 = .ok (.aload_n 0, 1) := by decide +kernel
theorem dX5_hawk_104 : decode cX5_hawk 104 = .ok (.getfield 12, 3) := by decide +kernel
theorem dX5_hawk_107 : decode cX5_hawk 107 = .ok (.getfield 131, 3) := by decide +kernel
theorem dX5_hawk_110 : decode cX5_hawk 110 = .ok (.ireturn, 1) := by decide +kernel
set_option maxRecDepth 20000 in
theorem ggX5_odds_X2_has : GoodIn wsX5_odds wsX2_has := goodIn_r _ [13, 14, 15, 16, 17, 45, 46, 47, 48, 49, 50, 51, 52, 53, 54, 55] (by decide +kernel) (by decide +kernel)
set_option maxRecDepth 20000 in
theorem gX5_odds_X2_has : GoodIn wsX5_odds (wsV RX5 94 RX2 yX2_has wsX2_has) := goodIn_app (goodIn_of _ (by decide +kernel)) ggX5_odds_X2_has
set_option maxRecDepth 20000 in
theorem ggX5_odds_X5_isWithin : GoodIn wsX5_odds wsX5_isWithin := goodIn_r _ [17] (by decide +kernel) (by decide +kernel)
set_option maxRecDepth 20000 in
theorem gX5_odds_X5_isWithin : GoodIn wsX5_odds (va_wsS RX5 47 yX5_isWithin wsX5_isWithin) := goodIn_app (goodIn_of _ (by decide +kernel)) ggX5_odds_X5_isWithin
set_option maxRecDepth 20000 in
theorem ggX5_odds_X5_finding : GoodIn wsX5_odds wsX5_finding := goodIn_r _ [22, 2, 23, 18, 15, 16, 17, 37, 38, 39, 40, 41, 42, 43, 44] (by decide +kernel) (by decide +kernel)
set_option maxRecDepth 20000 in
theorem gX5_odds_X5_finding : GoodIn wsX5_odds (wsV RX5 55 RX5 yX5_finding wsX5_finding) := goodIn_app (goodIn_of _ (by decide +kernel)) ggX5_odds_X5_finding
set_option maxRecDepth 20000 in
theorem ggX5_odds_J6_bitCount_0f7a4 : GoodIn wsX5_odds wsJ6_bitCount_0f7a4 := goodIn_r _ [27, 28, 29, 30] (by decide +kernel) (by decide +kernel)
set_option maxRecDepth 20000 in
theorem gX5_odds_J6_bitCount_0f7a4 : GoodIn wsX5_odds (va_wsS RX5 177 yJ6_bitCount_0f7a4 wsJ6_bitCount_0f7a4) := goodIn_app (goodIn_of _ (by decide +kernel)) ggX5_odds_J6_bitCount_0f7a4
set_option maxRecDepth 20000 in
theorem ggX5_odds_X5_commonDivisor : GoodIn wsX5_odds wsX5_commonDivisor := goodIn_r _ [33, 5, 6, 7, 8] (by decide +kernel) (by decide +kernel)
set_option maxRecDepth 20000 in
theorem gX5_odds_X5_commonDivisor : GoodIn wsX5_odds (va_wsS RX5 202 yX5_commonDivisor wsX5_commonDivisor) := goodIn_app (goodIn_of _ (by decide +kernel)) ggX5_odds_X5_commonDivisor
set_option maxRecDepth 20000 in
theorem ggX5_odds_X5_power : GoodIn wsX5_odds wsX5_power := goodIn_r _ [36] (by decide +kernel) (by decide +kernel)
set_option maxRecDepth 20000 in
theorem gX5_odds_X5_power : GoodIn wsX5_odds (va_wsS RX5 210 yX5_power wsX5_power) := goodIn_app (goodIn_of _ (by decide +kernel)) ggX5_odds_X5_power
theorem dX5_odds_0 : decode cX5_odds 0 = .ok (.aload_n 0, 1) := by decide +kernel
theorem dX5_odds_1 : decode cX5_odds 1 = .ok (.getfield 12, 3) := by decide +kernel
theorem dX5_odds_4 : decode cX5_odds 4 = .ok (.iload_n 1, 1) := by decide +kernel
theorem dX5_odds_5 : decode cX5_odds 5 = .ok (.invokevirtual 94, 3) := by decide +kernel
theorem dX5_odds_8 : decode cX5_odds 8 = .ok (.ifCond .eq 22, 3) := by decide +kernel
theorem dX5_odds_11 : decode cX5_odds 11 = .ok (.iload_n 2, 1) := by decide +kernel
theorem dX5_odds_12 : decode cX5_odds 12 = .ok (.iconst 0, 1) := by decide +kernel
theorem dX5_odds_13 : decode cX5_odds 13 = .ok (.bipush 17, 2) := by decide +kernel
theorem dX5_odds_15 : decode cX5_odds 15 = .ok (.invokestatic 47, 3) := by decide +kernel
theorem dX5_odds_18 : decode cX5_odds 18 = .ok (.ifCond .eq 12, 3) := by decide +kernel
theorem dX5_odds_21 : decode cX5_odds 21 = .ok (.iload_n 3, 1) := by decide +kernel
theorem dX5_odds_22 : decode cX5_odds 22 = .ok (.iconst 0, 1) := by decide +kernel
theorem dX5_odds_23 : decode cX5_odds 23 = .ok (.iconst 1, 1) := by decide +kernel
theorem dX5_odds_24 : decode cX5_odds 24 = .ok (.invokestatic 47, 3) := by decide +kernel
theorem dX5_odds_27 : decode cX5_odds 27 = .ok (.ifCond .ne 11, 3) := by decide +kernel
theorem dX5_odds_30 : decode cX5_odds 30 = .ok (.aload_n 0, 1) := by decide +kernel
theorem dX5_odds_31 : decode cX5_odds 31 = .ok (.ldc 54, 2) := by decide +kernel
theorem dX5_odds_33 : decode cX5_odds 33 = .ok (.invokevirtual 55, 3) := by decide +kernel
theorem dX5_odds_36 : decode cX5_odds 36 = .ok (.i2l, 1) := by decide +kernel
theorem dX5_odds_37 : decode cX5_odds 37 = .ok (.lreturn, 1) := by decide +kernel
theorem dX5_odds_38 : decode cX5_odds 38 = .ok (.aload_n 0, 1) := by decide +kernel
theorem dX5_odds_39 : decode cX5_odds 39 = .ok (.getfield 12, 3) := by decide +kernel
theorem dX5_odds_42 : decode cX5_odds 42 = .ok (.getfield 103, 3) := by decide +kernel
theorem dX5_odds_45 : decode cX5_odds 45 = .ok (.iload_n 1, 1) := by decide +kernel
theorem dX5_odds_46 : decode cX5_odds 46 = .ok (.aaload, 1) := by decide +kernel
theorem dX5_odds_47 : decode cX5_odds 47 = .ok (.getfield 189, 3) := by decide +kernel
theorem dX5_odds_50 : decode cX5_odds 50 = .ok (.invokestatic 177, 3) := by decide +kernel
theorem dX5_odds_53 : decode cX5_odds 53 = .ok (.istore 4, 2) := by decide +kernel
theorem dX5_odds_55 : decode cX5_odds 55 = .ok (.iload 4, 2) := by decide +kernel
theorem dX5_odds_57 : decode cX5_odds 57 = .ok (.bipush 12, 2) := by decide +kernel
theorem dX5_odds_59 : decode cX5_odds 59 = .ok (.invokestatic 202, 3) := by decide +kernel
theorem dX5_odds_62 : decode cX5_odds 62 = .ok (.istore 5, 2) := by decide +kernel
theorem dX5_odds_64 : decode cX5_odds 64 = .ok (.iload_n 3, 1) := by decide +kernel
theorem dX5_odds_65 : decode cX5_odds 65 = .ok (.ifCond .ne 8, 3) := by decide +kernel
theorem dX5_odds_68 : decode cX5_odds 68 = .ok (.iload 4, 2) := by decide +kernel
theorem dX5_odds_70 : decode cX5_odds 70 = .ok (.goto 5, 3) := by decide +kernel
theorem dX5_odds_73 : decode cX5_odds 73 = .ok (.bipush 12, 2) := by decide +kernel
theorem dX5_odds_75 : decode cX5_odds 75 = .ok (.iconst 1, 1) := by decide +kernel
theorem dX5_odds_76 : decode cX5_odds 76 = .ok (.iload 5, 2) := by decide +kernel
theorem dX5_odds_78 : decode cX5_odds 78 = .ok (.invokestatic 205, 3) := by decide +kernel
theorem dX5_odds_81 : decode cX5_odds 81 = .ok (.idiv, 1) := by decide +kernel
theorem dX5_odds_82 : decode cX5_odds 82 = .ok (.i2l, 1) := by decide +kernel
theorem dX5_odds_83 : decode cX5_odds 83 = .ok (.iload_n 2, 1) := by decide +kernel
theorem dX5_odds_84 : decode cX5_odds 84 = .ok (.invokestatic 210, 3) := by decide +kernel
theorem dX5_odds_87 : decode cX5_odds 87 = .ok (.lreturn, 1) := by decide +kernel
theorem dX5_seed_0 : decode cX5_seed 0 = .ok (.aload_n 0, 1) := by decide +kernel
theorem dX5_seed_1 : decode cX5_seed 1 = .ok (.getfield 12, 3) := by decide +kernel
theorem dX5_seed_4 : decode cX5_seed 4 = .ok (.getfield 214, 3) := by decide +kernel
theorem dX5_seed_7 : decode cX5_seed 7 = .ok (.istore_n 2, 1) := by decide +kernel
theorem dX5_seed_8 : decode cX5_seed 8 = .ok (.aload_n 0, 1) := by decide +kernel
theorem dX5_seed_9 : decode cX5_seed 9 = .ok (.getfield 12, 3) := by decide +kernel
theorem dX5_seed_12 : decode cX5_seed 12 = .ok (.iload_n 1, 1) := by decide +kernel
theorem dX5_seed_13 : decode cX5_seed 13 = .ok (.putfield 214, 3) := by decide +kernel
theorem dX5_seed_16 : decode cX5_seed 16 = .ok (.iload_n 2, 1) := by decide +kernel
theorem dX5_seed_17 : decode cX5_seed 17 = .ok (.ireturn, 1) := by decide +kernel
set_option maxRecDepth 20000 in
theorem ggX5_feed_X5_isWithin : GoodIn wsX5_feed wsX5_isWithin := goodIn_r _ [8] (by decide +kernel) (by decide +kernel)
set_option maxRecDepth 20000 in
theorem gX5_feed_X5_isWithin : GoodIn wsX5_feed (va_wsS RX5 47 yX5_isWithin wsX5_isWithin) := goodIn_app (goodIn_of _ (by decide +kernel)) ggX5_feed_X5_isWithin
set_option maxRecDepth 20000 in
theorem ggX5_feed_X5_finding : GoodIn wsX5_feed wsX5_finding := goodIn_r _ [12, 1, 13, 5, 6, 7, 8, 21, 22, 23, 24, 25, 26, 27, 28] (by decide +kernel) (by decide +kernel)
set_option maxRecDepth 20000 in
theorem gX5_feed_X5_finding : GoodIn wsX5_feed (wsV RX5 55 RX5 yX5_finding wsX5_finding) := goodIn_app (goodIn_of _ (by decide +kernel)) ggX5_feed_X5_finding
set_option maxRecDepth 20000 in
theorem ggX5_feed_X3_append : GoodIn wsX5_feed wsX3_append := goodIn_r _ [18, 19, 20, 29, 30, 31, 32, 33, 34] (by decide +kernel) (by decide +kernel)
set_option maxRecDepth 20000 in
theorem gX5_feed_X3_append : GoodIn wsX5_feed (wsV RX5 220 RX3 yX3_append wsX3_append) := goodIn_app (goodIn_of _ (by decide +kernel)) ggX5_feed_X3_append
theorem dX5_feed_0 : decode cX5_feed 0 = .ok (.iload_n 2, 1) := by decide +kernel
theorem dX5_feed_1 : decode cX5_feed 1 = .ok (.iconst 1, 1) := by decide +kernel
theorem dX5_feed_2 : decode cX5_feed 2 = .ok (.iconst 4, 1) := by decide +kernel
theorem dX5_feed_3 : decode cX5_feed 3 = .ok (.invokestatic 47, 3) := by decide +kernel
theorem dX5_feed_6 : decode cX5_feed 6 = .ok (.ifCond .ne 10, 3) := by decide +kernel
theorem dX5_feed_9 : decode cX5_feed 9 = .ok (.aload_n 0, 1) := by decide +kernel
theorem dX5_feed_10 : decode cX5_feed 10 = .ok (.ldc 54, 2) := by decide +kernel
theorem dX5_feed_12 : decode cX5_feed 12 = .ok (.invokevirtual 55, 3) := by decide +kernel
theorem dX5_feed_15 : decode cX5_feed 15 = .ok (.ireturn, 1) := by decide +kernel
theorem dX5_feed_16 : decode cX5_feed 16 = .ok (.aload_n 0, 1) := by decide +kernel
theorem dX5_feed_17 : decode cX5_feed 17 = .ok (.getfield 33, 3) := by decide +kernel
theorem dX5_feed_20 : decode cX5_feed 20 = .ok (.getfield 217, 3) := by decide +kernel
theorem dX5_feed_23 : decode cX5_feed 23 = .ok (.iload_n 2, 1) := by decide +kernel
theorem dX5_feed_24 : decode cX5_feed 24 = .ok (.iadd, 1) := by decide +kernel
theorem dX5_feed_25 : decode cX5_feed 25 = .ok (.bipush 120, 2) := by decide +kernel
theorem dX5_feed_27 : decode cX5_feed 27 = .ok (.if_icmp .le 10, 3) := by decide +kernel
theorem dX5_feed_30 : decode cX5_feed 30 = .ok (.aload_n 0, 1) := by decide +kernel
theorem dX5_feed_31 : decode cX5_feed 31 = .ok (.ldc 89, 2) := by decide +kernel
theorem dX5_feed_33 : decode cX5_feed 33 = .ok (.invokevirtual 55, 3) := by decide +kernel
theorem dX5_feed_36 : decode cX5_feed 36 = .ok (.ireturn, 1) := by decide +kernel
theorem dX5_feed_37 : decode cX5_feed 37 = .ok (.iload_n 2, 1) := by decide +kernel
theorem dX5_feed_38 : decode cX5_feed 38 = .ok (.iconst 1, 1) := by decide +kernel
theorem dX5_feed_39 : decode cX5_feed 39 = .ok (.isub, 1) := by decide +kernel
theorem dX5_feed_40 : decode cX5_feed 40 = .ok (.istore_n 3, 1) := by decide +kernel
theorem dX5_feed_41 : decode cX5_feed 41 = .ok (.iload_n 3, 1) := by decide +kernel
theorem dX5_feed_42 : decode cX5_feed 42 = .ok (.ifCond .lt 23, 3) := by decide +kernel
theorem dX5_feed_45 : decode cX5_feed 45 = .ok (.aload_n 0, 1) := by decide +kernel
theorem dX5_feed_46 : decode cX5_feed 46 = .ok (.getfield 33, 3) := by decide +kernel
theorem dX5_feed_49 : decode cX5_feed 49 = .ok (.iload_n 1, 1) := by decide +kernel
theorem dX5_feed_50 : decode cX5_feed 50 = .ok (.bipush 8, 2) := by decide +kernel
theorem dX5_feed_52 : decode cX5_feed 52 = .ok (.iload_n 3, 1) := by decide +kernel
theorem dX5_feed_53 : decode cX5_feed 53 = .ok (.imul, 1) := by decide +kernel
theorem dX5_feed_54 : decode cX5_feed 54 = .ok (.iushr, 1) := by decide +kernel
theorem dX5_feed_55 : decode cX5_feed 55 = .ok (.i2b, 1) := by decide +kernel
theorem dX5_feed_56 : decode cX5_feed 56 = .ok (.invokevirtual 220, 3) := by decide +kernel
theorem dX5_feed_59 : decode cX5_feed 59 = .ok (.iinc 3 (-1), 3) := by decide +kernel
theorem dX5_feed_62 : decode cX5_feed 62 = .ok (.goto (-21), 3) := by decide +kernel
theorem dX5_feed_65 : decode cX5_feed 65 = .ok (.aload_n 0, 1) := by decide +kernel
theorem dX5_feed_66 : decode cX5_feed 66 = .ok (.getfield 33, 3) := by decide +kernel
theorem dX5_feed_69 : decode cX5_feed 69 = .ok (.getfield 217, 3) := by decide +kernel
theorem dX5_feed_72 : decode cX5_feed 72 = .ok (.ireturn, 1) := by decide +kernel
set_option maxRecDepth 20000 in
theorem ggX5_wipe_X3_clear : GoodIn wsX5_wipe wsX3_clear := goodIn_r _ [7, 8, 17, 18, 19, 20, 21, 22] (by decide +kernel) (by decide +kernel)
set_option maxRecDepth 20000 in
theorem gX5_wipe_X3_clear : GoodIn wsX5_wipe (wsV RX5 224 RX3 yX3_clear wsX3_clear) := goodIn_app (goodIn_of _ (by decide +kernel)) ggX5_wipe_X3_clear
theorem dX5_wipe_0 : decode cX5_wipe 0 = .ok (.aload_n 0, 1) := by decide +kernel
theorem dX5_wipe_1 : decode cX5_wipe 1 = .ok (.getfield 33, 3) := by decide +kernel
theorem dX5_wipe_4 : decode cX5_wipe 4 = .ok (.getfield 217, 3) := by decide +kernel
theorem dX5_wipe_7 : decode cX5_wipe 7 = .ok (.istore_n 1, 1) := by decide +kernel
theorem dX5_wipe_8 : decode cX5_wipe 8 = .ok (.aload_n 0, 1) := by decide +kernel
theorem dX5_wipe_9 : decode cX5_wipe 9 = .ok (.getfield 33, 3) := by decide +kernel
theorem dX5_wipe_12 : decode cX5_wipe 12 = .ok (.invokevirtual 224, 3) := by decide +kernel
theorem dX5_wipe_15 : decode cX5_wipe 15 = .ok (.iload_n 1, 1) := by decide +kernel
theorem dX5_wipe_16 : decode cX5_wipe 16 = .ok (.ireturn, 1) := by decide +kernel
set_option maxRecDepth 20000 in
theorem ggX5_text_X2_become : GoodIn wsX5_text wsX2_become := goodIn_r _ [13, 14, 15, 16, 17, 18, 19, 20, 21, 22, 23, 24, 25, 26, 27, 28, 29, 30, 31, 32, 33, 34, 35, 36, 37, 38, 39, 202, 203, 204, 205, 206, 207, 208, 209, 210, 211, 212, 213, 214, 215, 216, 217, 218] (by decide +kernel) (by decide +kernel)
set_option maxRecDepth 20000 in
theorem gX5_text_X2_become : GoodIn wsX5_text (wsV RX5 156 RX2 yX2_become wsX2_become) := goodIn_app (goodIn_of _ (by decide +kernel)) ggX5_text_X2_become
set_option maxRecDepth 20000 in
theorem ggX5_text_X4_init : GoodIn wsX5_text wsX4_init := goodIn_r _ [42, 43, 44, 45, 46, 47, 48, 49, 192, 193, 194, 195] (by decide +kernel) (by decide +kernel)
set_option maxRecDepth 20000 in
theorem gX5_text_X4_init : GoodIn wsX5_text (wsX4_init) := ggX5_text_X4_init
set_option maxRecDepth 20000 in
theorem ggX5_text_X4_readItems : GoodIn wsX5_text wsX4_readItems := goodIn_r _ [53, 48, 46, 54, 55, 56, 57, 58, 59, 60, 61, 62, 63, 64, 65, 66, 67, 68, 69, 70, 71, 72, 73, 74, 75, 76, 77, 78, 79, 5, 80, 81, 82, 83, 84, 85, 86, 87, 88, 89, 90, 91, 92, 93, 94, 95, 96, 97, 98, 99, 100, 101, 102, 103, 104, 105, 106, 107, 108, 109, 110, 111, 112, 113, 114, 115, 116, 117, 118, 119, 120, 121, 122, 123, 124, 125, 126, 127, 128, 129, 130, 131, 132, 133, 134, 135, 136, 137, 49, 47, 138, 139, 140, 141, 142, 143, 144, 145, 146, 147, 148, 149, 150, 151, 152, 153, 154, 155, 156, 157, 158, 159, 160, 161, 162, 163, 164, 165, 166, 167, 168, 169, 170, 12, 171, 27, 26, 172, 173, 174, 175, 176, 177, 178, 32, 179, 34, 35, 36, 37, 38, 39, 192, 193, 194, 195, 196, 197, 198, 199, 200, 201, 202, 203, 204, 205, 206, 207, 208, 209, 210, 211, 212, 213, 214, 215, 216, 217, 218] (by decide +kernel) (by decide +kernel)
set_option maxRecDepth 20000 in
theorem gX5_text_X4_readItems : GoodIn wsX5_text (wsV RX5 232 RX4 yX4_readItems wsX4_readItems) := goodIn_app (goodIn_of _ (by decide +kernel)) ggX5_text_X4_readItems
set_option maxRecDepth 20000 in
theorem ggX5_text_X3_clear : GoodIn wsX5_text wsX3_clear := goodIn_r _ [183, 65, 196, 197, 198, 199, 200, 201] (by decide +kernel) (by decide +kernel)
set_option maxRecDepth 20000 in
theorem gX5_text_X3_clear : GoodIn wsX5_text (wsV RX5 224 RX3 yX3_clear wsX3_clear) := goodIn_app (goodIn_of _ (by decide +kernel)) ggX5_text_X3_clear
theorem dX5_text_0 : decode cX5_text 0 = .ok (.aload_n 0, 1) := by decide +kernel
theorem dX5_text_1 : decode cX5_text 1 = .ok (.getfield 16, 3) := by decide +kernel
theorem dX5_text_4 : decode cX5_text 4 = .ok (.aload_n 0, 1) := by decide +kernel
theorem dX5_text_5 : decode cX5_text 5 = .ok (.getfield 12, 3) := by decide +kernel
theorem dX5_text_8 : decode cX5_text 8 = .ok (.invokevirtual 156, 3) := by decide +kernel
theorem dX5_text_11 : decode cX5_text 11 = .ok (.new 227, 3) := by decide +kernel
theorem dX5_text_14 : decode cX5_text 14 = .ok (.dup, 1) := by decide +kernel
theorem dX5_text_15 : decode cX5_text 15 = .ok (.aload_n 0, 1) := by decide +kernel
theorem dX5_text_16 : decode cX5_text 16 = .ok (.getfield 33, 3) := by decide +kernel
theorem dX5_text_19 : decode cX5_text 19 = .ok (.aload_n 0, 1) := by decide +kernel
theorem dX5_text_20 : decode cX5_text 20 = .ok (.getfield 16, 3) := by decide +kernel
theorem dX5_text_23 : decode cX5_text 23 = .ok (.invokespecial 229, 3) := by decide +kernel
theorem dX5_text_26 : decode cX5_text 26 = .ok (.astore_n 1, 1) := by decide +kernel
theorem dX5_text_27 : decode cX5_text 27 = .ok (.aload_n 1, 1) := by decide +kernel
theorem dX5_text_28 : decode cX5_text 28 = .ok (.invokevirtual 232, 3) := by decide +kernel
theorem dX5_text_31 : decode cX5_text 31 = .ok (.istore_n 2, 1) := by decide +kernel
theorem dX5_text_32 : decode cX5_text 32 = .ok (.iload_n 2, 1) := by decide +kernel
theorem dX5_text_33 : decode cX5_text 33 = .ok (.ifCond .eq 10, 3) := by decide +kernel
theorem dX5_text_36 : decode cX5_text 36 = .ok (.aload_n 1, 1) := by decide +kernel
theorem dX5_text_37 : decode cX5_text 37 = .ok (.getfield 235, 3) := by decide +kernel
theorem dX5_text_40 : decode cX5_text 40 = .ok (.goto 12, 3) := by decide +kernel
theorem dX5_text_43 : decode cX5_text 43 = .ok (.iconst (-1), 1) := by decide +kernel
theorem dX5_text_44 : decode cX5_text 44 = .ok (.aload_n 0, 1) := by decide +kernel
theorem dX5_text_45 : decode cX5_text 45 = .ok (.getfield 33, 3) := by decide +kernel
theorem dX5_text_48 : decode cX5_text 48 = .ok (.getfield 238, 3) := by decide +kernel
theorem dX5_text_51 : decode cX5_text 51 = .ok (.isub, 1) := by decide +kernel
theorem dX5_text_52 : decode cX5_text 52 = .ok (.istore_n 3, 1) := by decide +kernel
theorem dX5_text_53 : decode cX5_text 53 = .ok (.iload_n 2, 1) := by decide +kernel
theorem dX5_text_54 : decode cX5_text 54 = .ok (.ifCond .eq 14, 3) := by decide +kernel
theorem dX5_text_57 : decode cX5_text 57 = .ok (.aload_n 0, 1) := by decide +kernel
theorem dX5_text_58 : decode cX5_text 58 = .ok (.getfield 12, 3) := by decide +kernel
theorem dX5_text_61 : decode cX5_text 61 = .ok (.aload_n 0, 1) := by decide +kernel
theorem dX5_text_62 : decode cX5_text 62 = .ok (.getfield 16, 3) := by decide +kernel
theorem dX5_text_65 : decode cX5_text 65 = .ok (.invokevirtual 156, 3) := by decide +kernel
theorem dX5_text_68 : decode cX5_text 68 = .ok (.aload_n 0, 1) := by decide +kernel
theorem dX5_text_69 : decode cX5_text 69 = .ok (.getfield 33, 3) := by decide +kernel
theorem dX5_text_72 : decode cX5_text 72 = .ok (.invokevirtual 224, 3) := by decide +kernel
theorem dX5_text_75 : decode cX5_text 75 = .ok (.iload_n 3, 1) := by decide +kernel
theorem dX5_text_76 : decode cX5_text 76 = .ok (.ireturn, 1) := by decide +kernel
set_option maxRecDepth 20000 in
theorem ggX5_hold_X5_isSpot : GoodIn wsX5_hold wsX5_isSpot := goodIn_r _ [7, 8, 9, 6, 10] (by decide +kernel) (by decide +kernel)
set_option maxRecDepth 20000 in
theorem gX5_hold_X5_isSpot : GoodIn wsX5_hold (va_wsS RX5 241 yX5_isSpot wsX5_isSpot) := goodIn_app (goodIn_of _ (by decide +kernel)) ggX5_hold_X5_isSpot
set_option maxRecDepth 20000 in
theorem ggX5_hold_X2_has : GoodIn wsX5_hold wsX2_has := goodIn_r _ [15, 16, 9, 6, 10, 30, 31, 32, 33, 34, 35, 36, 37, 38, 39, 40] (by decide +kernel) (by decide +kernel)
set_option maxRecDepth 20000 in
theorem gX5_hold_X2_has : GoodIn wsX5_hold (wsV RX5 94 RX2 yX2_has wsX2_has) := goodIn_app (goodIn_of _ (by decide +kernel)) ggX5_hold_X2_has
set_option maxRecDepth 20000 in
theorem ggX5_hold_X5_finding : GoodIn wsX5_hold wsX5_finding := goodIn_r _ [20, 2, 21, 8, 9, 6, 10, 22, 23, 24, 25, 26, 27, 28, 29] (by decide +kernel) (by decide +kernel)
set_option maxRecDepth 20000 in
theorem gX5_hold_X5_finding : GoodIn wsX5_hold (wsV RX5 55 RX5 yX5_finding wsX5_finding) := goodIn_app (goodIn_of _ (by decide +kernel)) ggX5_hold_X5_finding
theorem dX5_hold_0 : decode cX5_hold 0 = .ok (.iload_n 1, 1) := by decide +kernel
theorem dX5_hold_1 : decode cX5_hold 1 = .ok (.invokestatic 241, 3) := by decide +kernel
theorem dX5_hold_4 : decode cX5_hold 4 = .ok (.ifCond .eq 19, 3) := by decide +kernel
theorem dX5_hold_7 : decode cX5_hold 7 = .ok (.iload_n 2, 1) := by decide +kernel
theorem dX5_hold_8 : decode cX5_hold 8 = .ok (.iconst (-1), 1) := by decide +kernel
theorem dX5_hold_9 : decode cX5_hold 9 = .ok (.if_icmp .eq 21, 3) := by decide +kernel
theorem dX5_hold_12 : decode cX5_hold 12 = .ok (.aload_n 0, 1) := by decide +kernel
theorem dX5_hold_13 : decode cX5_hold 13 = .ok (.getfield 12, 3) := by decide +kernel
theorem dX5_hold_16 : decode cX5_hold 16 = .ok (.iload_n 2, 1) := by decide +kernel
theorem dX5_hold_17 : decode cX5_hold 17 = .ok (.invokevirtual 94, 3) := by decide +kernel
theorem dX5_hold_20 : decode cX5_hold 20 = .ok (.ifCond .ne 10, 3) := by decide +kernel
theorem dX5_hold_23 : decode cX5_hold 23 = .ok (.aload_n 0, 1) := by decide +kernel
theorem dX5_hold_24 : decode cX5_hold 24 = .ok (.ldc 54, 2) := by decide +kernel
theorem dX5_hold_26 : decode cX5_hold 26 = .ok (.invokevirtual 55, 3) := by decide +kernel
theorem dX5_hold_29 : decode cX5_hold 29 = .ok (.ireturn, 1) := by decide +kernel
theorem dX5_hold_30 : decode cX5_hold 30 = .ok (.aload_n 0, 1) := by decide +kernel
theorem dX5_hold_31 : decode cX5_hold 31 = .ok (.getfield 12, 3) := by decide +kernel
theorem dX5_hold_34 : decode cX5_hold 34 = .ok (.getfield 244, 3) := by decide +kernel
theorem dX5_hold_37 : decode cX5_hold 37 = .ok (.iload_n 1, 1) := by decide +kernel
theorem dX5_hold_38 : decode cX5_hold 38 = .ok (.iload_n 2, 1) := by decide +kernel
theorem dX5_hold_39 : decode cX5_hold 39 = .ok (.iastore, 1) := by decide +kernel
theorem dX5_hold_40 : decode cX5_hold 40 = .ok (.iconst 1, 1) := by decide +kernel
theorem dX5_hold_41 : decode cX5_hold 41 = .ok (.ireturn, 1) := by decide +kernel
set_option maxRecDepth 20000 in
theorem ggX5_as_X5_isSpot : GoodIn wsX5_as wsX5_isSpot := goodIn_r _ [10, 11, 12, 9, 13] (by decide +kernel) (by decide +kernel)
set_option maxRecDepth 20000 in
theorem gX5_as_X5_isSpot : GoodIn wsX5_as (va_wsS RX5 241 yX5_isSpot wsX5_isSpot) := goodIn_app (goodIn_of _ (by decide +kernel)) ggX5_as_X5_isSpot
set_option maxRecDepth 20000 in
theorem ggX5_as_X5_isKind : GoodIn wsX5_as wsX5_isKind := goodIn_r _ [16, 11, 12, 9, 13] (by decide +kernel) (by decide +kernel)
set_option maxRecDepth 20000 in
theorem gX5_as_X5_isKind : GoodIn wsX5_as (va_wsS RX5 82 yX5_isKind wsX5_isKind) := goodIn_app (goodIn_of _ (by decide +kernel)) ggX5_as_X5_isKind
set_option maxRecDepth 20000 in
theorem ggX5_as_X5_finding : GoodIn wsX5_as wsX5_finding := goodIn_r _ [20, 1, 21, 11, 12, 9, 13, 34, 35, 36, 37, 38, 39, 40, 41] (by decide +kernel) (by decide +kernel)
set_option maxRecDepth 20000 in
theorem gX5_as_X5_finding : GoodIn wsX5_as (wsV RX5 55 RX5 yX5_finding wsX5_finding) := goodIn_app (goodIn_of _ (by decide +kernel)) ggX5_as_X5_finding
set_option maxRecDepth 20000 in
theorem ggX5_as_X2_has : GoodIn wsX5_as wsX2_has := goodIn_r _ [26, 27, 12, 9, 13, 42, 43, 44, 45, 46, 47, 48, 49, 50, 51, 52] (by decide +kernel) (by decide +kernel)
set_option maxRecDepth 20000 in
theorem gX5_as_X2_has : GoodIn wsX5_as (wsV RX5 94 RX2 yX2_has wsX2_has) := goodIn_app (goodIn_of _ (by decide +kernel)) ggX5_as_X2_has
set_option maxRecDepth 20000 in
theorem ggX5_as_X0_isOf : GoodIn wsX5_as wsX0_isOf := goodIn_r _ [32, 33, 15, 9, 16, 11, 12, 13, 53, 54, 55, 56, 57, 58] (by decide +kernel) (by decide +kernel)
set_option maxRecDepth 20000 in
theorem gX5_as_X0_isOf : GoodIn wsX5_as (wsV RX5 248 RX0 yX0_isOf wsX0_isOf) := goodIn_app (goodIn_of _ (by decide +kernel)) ggX5_as_X0_isOf
theorem dX5_as_0 : decode cX5_as 0 = .ok (.iload_n 1, 1) := by decide +kernel
theorem dX5_as_1 : decode cX5_as 1 = .ok (.invokestatic 241, 3) := by decide +kernel
theorem dX5_as_4 : decode cX5_as 4 = .ok (.ifCond .eq 10, 3) := by decide +kernel
theorem dX5_as_7 : decode cX5_as 7 = .ok (.iload_n 2, 1) := by decide +kernel
theorem dX5_as_8 : decode cX5_as 8 = .ok (.invokestatic 82, 3) := by decide +kernel
theorem dX5_as_11 : decode cX5_as 11 = .ok (.ifCond .ne 10, 3) := by decide +kernel
theorem dX5_as_14 : decode cX5_as 14 = .ok (.aload_n 0, 1) := by decide +kernel
theorem dX5_as_15 : decode cX5_as 15 = .ok (.ldc 54, 2) := by decide +kernel
theorem dX5_as_17 : decode cX5_as 17 = .ok (.invokevirtual 55, 3) := by decide +kernel
theorem dX5_as_20 : decode cX5_as 20 = .ok (.ireturn, 1) := by decide +kernel
theorem dX5_as_21 : decode cX5_as 21 = .ok (.aload_n 0, 1) := by decide +kernel
theorem dX5_as_22 : decode cX5_as 22 = .ok (.getfield 12, 3) := by decide +kernel
theorem dX5_as_25 : decode cX5_as 25 = .ok (.getfield 244, 3) := by decide +kernel
theorem dX5_as_28 : decode cX5_as 28 = .ok (.iload_n 1, 1) := by decide +kernel
theorem dX5_as_29 : decode cX5_as 29 = .ok (.iaload, 1) := by decide +kernel
theorem dX5_as_30 : decode cX5_as 30 = .ok (.istore_n 3, 1) := by decide +kernel
theorem dX5_as_31 : decode cX5_as 31 = .ok (.aload_n 0, 1) := by decide +kernel
theorem dX5_as_32 : decode cX5_as 32 = .ok (.getfield 12, 3) := by decide +kernel
theorem dX5_as_35 : decode cX5_as 35 = .ok (.iload_n 3, 1) := by decide +kernel
theorem dX5_as_36 : decode cX5_as 36 = .ok (.invokevirtual 94, 3) := by decide +kernel
theorem dX5_as_39 : decode cX5_as 39 = .ok (.ifCond .ne 10, 3) := by decide +kernel
theorem dX5_as_42 : decode cX5_as 42 = .ok (.aload_n 0, 1) := by decide +kernel
theorem dX5_as_43 : decode cX5_as 43 = .ok (.ldc 247, 2) := by decide +kernel
theorem dX5_as_45 : decode cX5_as 45 = .ok (.invokevirtual 55, 3) := by decide +kernel
theorem dX5_as_48 : decode cX5_as 48 = .ok (.ireturn, 1) := by decide +kernel
theorem dX5_as_49 : decode cX5_as 49 = .ok (.aload_n 0, 1) := by decide +kernel
theorem dX5_as_50 : decode cX5_as 50 = .ok (.getfield 12, 3) := by decide +kernel
theorem dX5_as_53 : decode cX5_as 53 = .ok (.getfield 103, 3) := by decide +kernel
theorem dX5_as_56 : decode cX5_as 56 = .ok (.iload_n 3, 1) := by decide +kernel
theorem dX5_as_57 : decode cX5_as 57 = .ok (.aaload, 1) := by decide +kernel
theorem dX5_as_58 : decode cX5_as 58 = .ok (.iload_n 2, 1) := by decide +kernel
theorem dX5_as_59 : decode cX5_as 59 = .ok (.invokevirtual 248, 3) := by decide +kernel
theorem dX5_as_62 : decode cX5_as 62 = .ok (.ifCond .ne 10, 3) := by decide +kernel
theorem dX5_as_65 : decode cX5_as 65 = .ok (.aload_n 0, 1) := by decide +kernel
theorem dX5_as_66 : decode cX5_as 66 = .ok (.ldc 251, 2) := by decide +kernel
theorem dX5_as_68 : decode cX5_as 68 = .ok (.invokevirtual 55, 3) := by decide +kernel
theorem dX5_as_71 : decode cX5_as 71 = .ok (.ireturn, 1) := by decide +kernel
theorem dX5_as_72 : decode cX5_as 72 = .ok (.iload_n 3, 1) := by decide +kernel
theorem dX5_as_73 : decode cX5_as 73 = .ok (.ireturn, 1) := by decide +kernel
set_option maxRecDepth 20000 in
theorem ggX5_sheet_X5_isSheet : GoodIn wsX5_sheet wsX5_isSheet := goodIn_r _ [8, 9, 10, 7, 11] (by decide +kernel) (by decide +kernel)
set_option maxRecDepth 20000 in
theorem gX5_sheet_X5_isSheet : GoodIn wsX5_sheet (va_wsS RX5 252 yX5_isSheet wsX5_isSheet) := goodIn_app (goodIn_of _ (by decide +kernel)) ggX5_sheet_X5_isSheet
set_option maxRecDepth 20000 in
theorem ggX5_sheet_X5_finding : GoodIn wsX5_sheet wsX5_finding := goodIn_r _ [15, 1, 16, 9, 10, 7, 11, 29, 30, 31, 32, 33, 34, 35, 36] (by decide +kernel) (by decide +kernel)
set_option maxRecDepth 20000 in
theorem gX5_sheet_X5_finding : GoodIn wsX5_sheet (wsV RX5 55 RX5 yX5_finding wsX5_finding) := goodIn_app (goodIn_of _ (by decide +kernel)) ggX5_sheet_X5_finding
set_option maxRecDepth 20000 in
theorem ggX5_sheet_X1_makeAnew : GoodIn wsX5_sheet wsX1_makeAnew := goodIn_r _ [21, 22, 23, 24, 25, 26, 27, 28, 37, 38, 39] (by decide +kernel) (by decide +kernel)
set_option maxRecDepth 20000 in
theorem gX5_sheet_X1_makeAnew : GoodIn wsX5_sheet (wsV RX5 256 RX1 yX1_makeAnew wsX1_makeAnew) := goodIn_app (goodIn_of _ (by decide +kernel)) ggX5_sheet_X1_makeAnew
theorem dX5_sheet_0 : decode cX5_sheet 0 = .ok (.iload_n 1, 1) := by decide +kernel
theorem dX5_sheet_1 : decode cX5_sheet 1 = .ok (.invokestatic 252, 3) := by decide +kernel
theorem dX5_sheet_4 : decode cX5_sheet 4 = .ok (.ifCond .eq 25, 3) := by decide +kernel
theorem dX5_sheet_7 : decode cX5_sheet 7 = .ok (.iload_n 2, 1) := by decide +kernel
theorem dX5_sheet_8 : decode cX5_sheet 8 = .ok (.ifCond .eq 28, 3) := by decide +kernel
theorem dX5_sheet_11 : decode cX5_sheet 11 = .ok (.iload_n 2, 1) := by decide +kernel
theorem dX5_sheet_12 : decode cX5_sheet 12 = .ok (.bipush 8, 2) := by decide +kernel
theorem dX5_sheet_14 : decode cX5_sheet 14 = .ok (.if_icmp .eq 22, 3) := by decide +kernel
theorem dX5_sheet_17 : decode cX5_sheet 17 = .ok (.iload_n 2, 1) := by decide +kernel
theorem dX5_sheet_18 : decode cX5_sheet 18 = .ok (.bipush 16, 2) := by decide +kernel
theorem dX5_sheet_20 : decode cX5_sheet 20 = .ok (.if_icmp .eq 16, 3) := by decide +kernel
theorem dX5_sheet_23 : decode cX5_sheet 23 = .ok (.iload_n 2, 1) := by decide +kernel
theorem dX5_sheet_24 : decode cX5_sheet 24 = .ok (.bipush 32, 2) := by decide +kernel
theorem dX5_sheet_26 : decode cX5_sheet 26 = .ok (.if_icmp .eq 10, 3) := by decide +kernel
theorem dX5_sheet_29 : decode cX5_sheet 29 = .ok (.aload_n 0, 1) := by decide +kernel
theorem dX5_sheet_30 : decode cX5_sheet 30 = .ok (.ldc 54, 2) := by decide +kernel
theorem dX5_sheet_32 : decode cX5_sheet 32 = .ok (.invokevirtual 55, 3) := by decide +kernel
theorem dX5_sheet_35 : decode cX5_sheet 35 = .ok (.ireturn, 1) := by decide +kernel
theorem dX5_sheet_36 : decode cX5_sheet 36 = .ok (.iload_n 3, 1) := by decide +kernel
theorem dX5_sheet_37 : decode cX5_sheet 37 = .ok (.ifCond .ge 10, 3) := by decide +kernel
theorem dX5_sheet_40 : decode cX5_sheet 40 = .ok (.aload_n 0, 1) := by decide +kernel
theorem dX5_sheet_41 : decode cX5_sheet 41 = .ok (.ldc 255, 2) := by decide +kernel
theorem dX5_sheet_43 : decode cX5_sheet 43 = .ok (.invokevirtual 55, 3) := by decide +kernel
theorem dX5_sheet_46 : decode cX5_sheet 46 = .ok (.ireturn, 1) := by decide +kernel
theorem dX5_sheet_47 : decode cX5_sheet 47 = .ok (.iload_n 3, 1) := by decide +kernel
theorem dX5_sheet_48 : decode cX5_sheet 48 = .ok (.bipush 40, 2) := by decide +kernel
theorem dX5_sheet_50 : decode cX5_sheet 50 = .ok (.if_icmp .le 10, 3) := by decide +kernel
theorem dX5_sheet_53 : decode cX5_sheet 53 = .ok (.aload_n 0, 1) := by decide +kernel
theorem dX5_sheet_54 : decode cX5_sheet 54 = .ok (.ldc 54, 2) := by decide +kernel
theorem dX5_sheet_56 : decode cX5_sheet 56 = .ok (.invokevirtual 55, 3) := by decide +kernel
theorem dX5_sheet_59 : decode cX5_sheet 59 = .ok (.ireturn, 1) := by decide +kernel
theorem dX5_sheet_60 : decode cX5_sheet 60 = .ok (.aload_n 0, 1) := by decide +kernel
theorem dX5_sheet_61 : decode cX5_sheet 61 = .ok (.getfield 40, 3) := by decide +kernel
theorem dX5_sheet_64 : decode cX5_sheet 64 = .ok (.iload_n 1, 1) := by decide +kernel
theorem dX5_sheet_65 : decode cX5_sheet 65 = .ok (.aaload, 1) := by decide +kernel
theorem dX5_sheet_66 : decode cX5_sheet 66 = .ok (.iload_n 2, 1) := by decide +kernel
theorem dX5_sheet_67 : decode cX5_sheet 67 = .ok (.iload_n 3, 1) := by decide +kernel
theorem dX5_sheet_68 : decode cX5_sheet 68 = .ok (.invokevirtual 256, 3) := by decide +kernel
theorem dX5_sheet_71 : decode cX5_sheet 71 = .ok (.aload_n 0, 1) := by decide +kernel
theorem dX5_sheet_72 : decode cX5_sheet 72 = .ok (.getfield 40, 3) := by decide +kernel
theorem dX5_sheet_75 : decode cX5_sheet 75 = .ok (.iload_n 1, 1) := by decide +kernel
theorem dX5_sheet_76 : decode cX5_sheet 76 = .ok (.aaload, 1) := by decide +kernel
theorem dX5_sheet_77 : decode cX5_sheet 77 = .ok (.getfield 259, 3) := by decide +kernel
theorem dX5_sheet_80 : decode cX5_sheet 80 = .ok (.ireturn, 1) := by decide +kernel
set_option maxRecDepth 20000 in
theorem ggX5_write_X5_wrongWithSheet : GoodIn wsX5_write wsX5_wrongWithSheet := goodIn_r _ [8, 3, 1, 9, 10, 11, 7, 12, 13, 14, 15, 16, 17, 18, 19, 20, 21, 32, 33, 34, 35, 36, 37, 38, 39, 40, 41, 42] (by decide +kernel) (by decide +kernel)
set_option maxRecDepth 20000 in
theorem gX5_write_X5_wrongWithSheet : GoodIn wsX5_write (wsV RX5 262 RX5 yX5_wrongWithSheet wsX5_wrongWithSheet) := goodIn_app (goodIn_of _ (by decide +kernel)) ggX5_write_X5_wrongWithSheet
set_option maxRecDepth 20000 in
theorem ggX5_write_X5_finding : GoodIn wsX5_write wsX5_finding := goodIn_r _ [25, 3, 26, 13, 14, 7, 15, 32, 33, 34, 35, 36, 37, 38, 39] (by decide +kernel) (by decide +kernel)
set_option maxRecDepth 20000 in
theorem gX5_write_X5_finding : GoodIn wsX5_write (wsV RX5 55 RX5 yX5_finding wsX5_finding) := goodIn_app (goodIn_of _ (by decide +kernel)) ggX5_write_X5_finding
set_option maxRecDepth 20000 in
theorem ggX5_write_X5_isWithin : GoodIn wsX5_write wsX5_isWithin := goodIn_r _ [15] (by decide +kernel) (by decide +kernel)
set_option maxRecDepth 20000 in
theorem gX5_write_X5_isWithin : GoodIn wsX5_write (va_wsS RX5 47 yX5_isWithin wsX5_isWithin) := goodIn_app (goodIn_of _ (by decide +kernel)) ggX5_write_X5_isWithin
set_option maxRecDepth 20000 in
theorem ggX5_write_X1_put : GoodIn wsX5_write wsX1_put := goodIn_r _ [30, 21, 31, 40, 41, 42] (by decide +kernel) (by decide +kernel)
set_option maxRecDepth 20000 in
theorem gX5_write_X1_put : GoodIn wsX5_write (wsV RX5 265 RX1 yX1_put wsX1_put) := goodIn_app (goodIn_of _ (by decide +kernel)) ggX5_write_X1_put
theorem dX5_write_0 : decode cX5_write 0 = .ok (.aload_n 0, 1) := by decide +kernel
theorem dX5_write_1 : decode cX5_write 1 = .ok (.iload_n 1, 1) := by decide +kernel
theorem dX5_write_2 : decode cX5_write 2 = .ok (.invokevirtual 262, 3) := by decide +kernel
theorem dX5_write_5 : decode cX5_write 5 = .ok (.istore 4, 2) := by decide +kernel
theorem dX5_write_7 : decode cX5_write 7 = .ok (.iload 4, 2) := by decide +kernel
theorem dX5_write_9 : decode cX5_write 9 = .ok (.ifCond .eq 10, 3) := by decide +kernel
theorem dX5_write_12 : decode cX5_write 12 = .ok (.aload_n 0, 1) := by decide +kernel
theorem dX5_write_13 : decode cX5_write 13 = .ok (.iload 4, 2) := by decide +kernel
theorem dX5_write_15 : decode cX5_write 15 = .ok (.invokevirtual 55, 3) := by decide +kernel
theorem dX5_write_18 : decode cX5_write 18 = .ok (.ireturn, 1) := by decide +kernel
theorem dX5_write_19 : decode cX5_write 19 = .ok (.iload_n 2, 1) := by decide +kernel
theorem dX5_write_20 : decode cX5_write 20 = .ok (.iconst 0, 1) := by decide +kernel
theorem dX5_write_21 : decode cX5_write 21 = .ok (.aload_n 0, 1) := by decide +kernel
theorem dX5_write_22 : decode cX5_write 22 = .ok (.getfield 40, 3) := by decide +kernel
theorem dX5_write_25 : decode cX5_write 25 = .ok (.iload_n 1, 1) := by decide +kernel
theorem dX5_write_26 : decode cX5_write 26 = .ok (.aaload, 1) := by decide +kernel
theorem dX5_write_27 : decode cX5_write 27 = .ok (.getfield 259, 3) := by decide +kernel
theorem dX5_write_30 : decode cX5_write 30 = .ok (.iconst 1, 1) := by decide +kernel
theorem dX5_write_31 : decode cX5_write 31 = .ok (.isub, 1) := by decide +kernel
theorem dX5_write_32 : decode cX5_write 32 = .ok (.invokestatic 47, 3) := by decide +kernel
theorem dX5_write_35 : decode cX5_write 35 = .ok (.ifCond .ne 10, 3) := by decide +kernel
theorem dX5_write_38 : decode cX5_write 38 = .ok (.aload_n 0, 1) := by decide +kernel
theorem dX5_write_39 : decode cX5_write 39 = .ok (.ldc 54, 2) := by decide +kernel
theorem dX5_write_41 : decode cX5_write 41 = .ok (.invokevirtual 55, 3) := by decide +kernel
theorem dX5_write_44 : decode cX5_write 44 = .ok (.ireturn, 1) := by decide +kernel
theorem dX5_write_45 : decode cX5_write 45 = .ok (.aload_n 0, 1) := by decide +kernel
theorem dX5_write_46 : decode cX5_write 46 = .ok (.getfield 40, 3) := by decide +kernel
theorem dX5_write_49 : decode cX5_write 49 = .ok (.iload_n 1, 1) := by decide +kernel
theorem dX5_write_50 : decode cX5_write 50 = .ok (.aaload, 1) := by decide +kernel
theorem dX5_write_51 : decode cX5_write 51 = .ok (.iload_n 2, 1) := by decide +kernel
theorem dX5_write_52 : decode cX5_write 52 = .ok (.iload_n 3, 1) := by decide +kernel
theorem dX5_write_53 : decode cX5_write 53 = .ok (.invokevirtual 265, 3) := by decide +kernel
theorem dX5_write_56 : decode cX5_write 56 = .ok (.iconst 1, 1) := by decide +kernel
theorem dX5_write_57 : decode cX5_write 57 = .ok (.ireturn, 1) := by decide +kernel
set_option maxRecDepth 20000 in
theorem ggX5_copy_X5_isSheet : GoodIn wsX5_copy wsX5_isSheet := goodIn_r _ [14, 15, 16, 13, 17] (by decide +kernel) (by decide +kernel)
set_option maxRecDepth 20000 in
theorem gX5_copy_X5_isSheet : GoodIn wsX5_copy (va_wsS RX5 252 yX5_isSheet wsX5_isSheet) := goodIn_app (goodIn_of _ (by decide +kernel)) ggX5_copy_X5_isSheet
set_option maxRecDepth 20000 in
theorem ggX5_copy_X5_finding : GoodIn wsX5_copy wsX5_finding := goodIn_r _ [21, 1, 22, 15, 16, 13, 17, 34, 35, 36, 37, 38, 39, 40, 41] (by decide +kernel) (by decide +kernel)
set_option maxRecDepth 20000 in
theorem gX5_copy_X5_finding : GoodIn wsX5_copy (wsV RX5 55 RX5 yX5_finding wsX5_finding) := goodIn_app (goodIn_of _ (by decide +kernel)) ggX5_copy_X5_finding
set_option maxRecDepth 20000 in
theorem ggX5_copy_X1_isMissing : GoodIn wsX5_copy wsX1_isMissing := goodIn_r _ [27, 28, 42, 43, 44] (by decide +kernel) (by decide +kernel)
set_option maxRecDepth 20000 in
theorem gX5_copy_X1_isMissing : GoodIn wsX5_copy (wsV RX5 266 RX1 yX1_isMissing wsX1_isMissing) := goodIn_app (goodIn_of _ (by decide +kernel)) ggX5_copy_X1_isMissing
set_option maxRecDepth 20000 in
theorem ggX5_copy_X1_hasRow : GoodIn wsX5_copy wsX1_hasRow := goodIn_r _ [32, 33, 42, 43, 44] (by decide +kernel) (by decide +kernel)
set_option maxRecDepth 20000 in
theorem gX5_copy_X1_hasRow : GoodIn wsX5_copy (wsV RX5 272 RX1 yX1_hasRow wsX1_hasRow) := goodIn_app (goodIn_of _ (by decide +kernel)) ggX5_copy_X1_hasRow
theorem dX5_copy_0 : decode cX5_copy 0 = .ok (.iload_n 1, 1) := by decide +kernel
theorem dX5_copy_1 : decode cX5_copy 1 = .ok (.invokestatic 252, 3) := by decide +kernel
theorem dX5_copy_4 : decode cX5_copy 4 = .ok (.ifCond .eq 10, 3) := by decide +kernel
theorem dX5_copy_7 : decode cX5_copy 7 = .ok (.iload_n 3, 1) := by decide +kernel
theorem dX5_copy_8 : decode cX5_copy 8 = .ok (.invokestatic 252, 3) := by decide +kernel
theorem dX5_copy_11 : decode cX5_copy 11 = .ok (.ifCond .ne 10, 3) := by decide +kernel
theorem dX5_copy_14 : decode cX5_copy 14 = .ok (.aload_n 0, 1) := by decide +kernel
theorem dX5_copy_15 : decode cX5_copy 15 = .ok (.ldc 54, 2) := by decide +kernel
theorem dX5_copy_17 : decode cX5_copy 17 = .ok (.invokevirtual 55, 3) := by decide +kernel
theorem dX5_copy_20 : decode cX5_copy 20 = .ok (.ireturn, 1) := by decide +kernel
theorem dX5_copy_21 : decode cX5_copy 21 = .ok (.aload_n 0, 1) := by decide +kernel
theorem dX5_copy_22 : decode cX5_copy 22 = .ok (.getfield 40, 3) := by decide +kernel
theorem dX5_copy_25 : decode cX5_copy 25 = .ok (.iload_n 1, 1) := by decide +kernel
theorem dX5_copy_26 : decode cX5_copy 26 = .ok (.aaload, 1) := by decide +kernel
theorem dX5_copy_27 : decode cX5_copy 27 = .ok (.astore 6, 2) := by decide +kernel
theorem dX5_copy_29 : decode cX5_copy 29 = .ok (.aload_n 0, 1) := by decide +kernel
theorem dX5_copy_30 : decode cX5_copy 30 = .ok (.getfield 40, 3) := by decide +kernel
theorem dX5_copy_33 : decode cX5_copy 33 = .ok (.iload_n 3, 1) := by decide +kernel
theorem dX5_copy_34 : decode cX5_copy 34 = .ok (.aaload, 1) := by decide +kernel
theorem dX5_copy_35 : decode cX5_copy 35 = .ok (.astore 7, 2) := by decide +kernel
theorem dX5_copy_37 : decode cX5_copy 37 = .ok (.aload 6, 2) := by decide +kernel
theorem dX5_copy_39 : decode cX5_copy 39 = .ok (.invokevirtual 266, 3) := by decide +kernel
theorem dX5_copy_42 : decode cX5_copy 42 = .ok (.ifCond .ne 11, 3) := by decide +kernel
theorem dX5_copy_45 : decode cX5_copy 45 = .ok (.aload 7, 2) := by decide +kernel
theorem dX5_copy_47 : decode cX5_copy 47 = .ok (.invokevirtual 266, 3) := by decide +kernel
theorem dX5_copy_50 : decode cX5_copy 50 = .ok (.ifCond .eq 10, 3) := by decide +kernel
theorem dX5_copy_53 : decode cX5_copy 53 = .ok (.aload_n 0, 1) := by decide +kernel
theorem dX5_copy_54 : decode cX5_copy 54 = .ok (.ldc 247, 2) := by decide +kernel
theorem dX5_copy_56 : decode cX5_copy 56 = .ok (.invokevirtual 55, 3) := by decide +kernel
theorem dX5_copy_59 : decode cX5_copy 59 = .ok (.ireturn, 1) := by decide +kernel
theorem dX5_copy_60 : decode cX5_copy 60 = .ok (.aload 6, 2) := by decide +kernel
theorem dX5_copy_62 : decode cX5_copy 62 = .ok (.getfield 269, 3) := by decide +kernel
theorem dX5_copy_65 : decode cX5_copy 65 = .ok (.aload 7, 2) := by decide +kernel
theorem dX5_copy_67 : decode cX5_copy 67 = .ok (.getfield 269, 3) := by decide +kernel
theorem dX5_copy_70 : decode cX5_copy 70 = .ok (.if_icmp .eq 10, 3) := by decide +kernel
theorem dX5_copy_73 : decode cX5_copy 73 = .ok (.aload_n 0, 1) := by decide +kernel
theorem dX5_copy_74 : decode cX5_copy 74 = .ok (.ldc 251, 2) := by decide +kernel
theorem dX5_copy_76 : decode cX5_copy 76 = .ok (.invokevirtual 55, 3) := by decide +kernel
theorem dX5_copy_79 : decode cX5_copy 79 = .ok (.ireturn, 1) := by decide +kernel
theorem dX5_copy_80 : decode cX5_copy 80 = .ok (.aload 6, 2) := by decide +kernel
theorem dX5_copy_82 : decode cX5_copy 82 = .ok (.iload_n 2, 1) := by decide +kernel
theorem dX5_copy_83 : decode cX5_copy 83 = .ok (.iload 5, 2) := by decide +kernel
theorem dX5_copy_85 : decode cX5_copy 85 = .ok (.invokevirtual 272, 3) := by decide +kernel
theorem dX5_copy_88 : decode cX5_copy 88 = .ok (.ifCond .eq 15, 3) := by decide +kernel
theorem dX5_copy_91 : decode cX5_copy 91 = .ok (.aload 7, 2) := by decide +kernel
theorem dX5_copy_93 : decode cX5_copy 93 = .ok (.iload 4, 2) := by decide +kernel
theorem dX5_copy_95 : decode cX5_copy 95 = .ok (.iload 5, 2) := by decide +kernel
theorem dX5_copy_97 : decode cX5_copy 97 = .ok (.invokevirtual 272, 3) := by decide +kernel
theorem dX5_copy_100 : decode cX5_copy 100 = .ok (.ifCond .ne 10, 3) := by decide +kernel
theorem dX5_copy_103 : decode cX5_copy 103 = .ok (.aload_n 0, 1) := by decide +kernel
theorem dX5_copy_104 : decode cX5_copy 104 = .ok (.ldc 54, 2) := by decide +kernel
theorem dX5_copy_106 : decode cX5_copy 106 = .ok (.invokevirtual 55, 3) := by decide +kernel
theorem dX5_copy_109 : decode cX5_copy 109 = .ok (.ireturn, 1) := by decide +kernel
theorem dX5_copy_110 : decode cX5_copy 110 = .ok (.aload 6, 2) := by decide +kernel
theorem dX5_copy_112 : decode cX5_copy 112 = .ok (.getfield 275, 3) := by decide +kernel
theorem dX5_copy_115 : decode cX5_copy 115 = .ok (.iload_n 2, 1) := by decide +kernel
theorem dX5_copy_116 : decode cX5_copy 116 = .ok (.aload 7, 2) := by decide +kernel
theorem dX5_copy_118 : decode cX5_copy 118 = .ok (.getfield 275, 3) := by decide +kernel
theorem dX5_copy_121 : decode cX5_copy 121 = .ok (.iload 4, 2) := by decide +kernel
theorem dX5_copy_123 : decode cX5_copy 123 = .ok (.iload 5, 2) := by decide +kernel
theorem dX5_copy_125 : decode cX5_copy 125 = .ok (.invokestatic 278, 3) := by decide +kernel
theorem dX5_copy_128 : decode cX5_copy 128 = .ok (.iload 5, 2) := by decide +kernel
theorem dX5_copy_130 : decode cX5_copy 130 = .ok (.ireturn, 1) := by decide +kernel
set_option maxRecDepth 20000 in
theorem ggX5_load_X5_wrongWithSheet : GoodIn wsX5_load wsX5_wrongWithSheet := goodIn_r _ [11, 12, 1, 13, 14, 15, 10, 16, 17, 18, 19, 20, 21, 22, 23, 24, 25, 37, 38, 39, 40, 41, 42, 43, 44, 45, 46, 47] (by decide +kernel) (by decide +kernel)
set_option maxRecDepth 20000 in
theorem gX5_load_X5_wrongWithSheet : GoodIn wsX5_load (wsV RX5 262 RX5 yX5_wrongWithSheet wsX5_wrongWithSheet) := goodIn_app (goodIn_of _ (by decide +kernel)) ggX5_load_X5_wrongWithSheet
set_option maxRecDepth 20000 in
theorem ggX5_load_X5_finding : GoodIn wsX5_load wsX5_finding := goodIn_r _ [29, 12, 30, 17, 18, 10, 19, 37, 38, 39, 40, 41, 42, 43, 44] (by decide +kernel) (by decide +kernel)
set_option maxRecDepth 20000 in
theorem gX5_load_X5_finding : GoodIn wsX5_load (wsV RX5 55 RX5 yX5_finding wsX5_finding) := goodIn_app (goodIn_of _ (by decide +kernel)) ggX5_load_X5_finding
set_option maxRecDepth 20000 in
theorem ggX5_load_X2_has : GoodIn wsX5_load wsX2_has := goodIn_r _ [35, 36, 18, 10, 19, 48, 49, 50, 51, 52, 53, 54, 55, 56, 57, 58] (by decide +kernel) (by decide +kernel)
set_option maxRecDepth 20000 in
theorem gX5_load_X2_has : GoodIn wsX5_load (wsV RX5 94 RX2 yX2_has wsX2_has) := goodIn_app (goodIn_of _ (by decide +kernel)) ggX5_load_X2_has
set_option maxRecDepth 20000 in
theorem ggX5_load_X5_isWithin : GoodIn wsX5_load wsX5_isWithin := goodIn_r _ [19] (by decide +kernel) (by decide +kernel)
set_option maxRecDepth 20000 in
theorem gX5_load_X5_isWithin : GoodIn wsX5_load (va_wsS RX5 47 yX5_isWithin wsX5_isWithin) := goodIn_app (goodIn_of _ (by decide +kernel)) ggX5_load_X5_isWithin
theorem dX5_load_0 : decode cX5_load 0 = .ok (.aload_n 0, 1) := by decide +kernel
theorem dX5_load_1 : decode cX5_load 1 = .ok (.iload_n 1, 1) := by decide +kernel
theorem dX5_load_2 : decode cX5_load 2 = .ok (.invokevirtual 262, 3) := by decide +kernel
theorem dX5_load_5 : decode cX5_load 5 = .ok (.istore_n 2, 1) := by decide +kernel
theorem dX5_load_6 : decode cX5_load 6 = .ok (.iload_n 2, 1) := by decide +kernel
theorem dX5_load_7 : decode cX5_load 7 = .ok (.ifCond .eq 9, 3) := by decide +kernel
theorem dX5_load_10 : decode cX5_load 10 = .ok (.aload_n 0, 1) := by decide +kernel
theorem dX5_load_11 : decode cX5_load 11 = .ok (.iload_n 2, 1) := by decide +kernel
theorem dX5_load_12 : decode cX5_load 12 = .ok (.invokevirtual 55, 3) := by decide +kernel
theorem dX5_load_15 : decode cX5_load 15 = .ok (.ireturn, 1) := by decide +kernel
theorem dX5_load_16 : decode cX5_load 16 = .ok (.aload_n 0, 1) := by decide +kernel
theorem dX5_load_17 : decode cX5_load 17 = .ok (.getfield 40, 3) := by decide +kernel
theorem dX5_load_20 : decode cX5_load 20 = .ok (.iload_n 1, 1) := by decide +kernel
theorem dX5_load_21 : decode cX5_load 21 = .ok (.aaload, 1) := by decide +kernel
theorem dX5_load_22 : decode cX5_load 22 = .ok (.astore_n 3, 1) := by decide +kernel
theorem dX5_load_23 : decode cX5_load 23 = .ok (.iconst 0, 1) := by decide +kernel
theorem dX5_load_24 : decode cX5_load 24 = .ok (.istore 4, 2) := by decide +kernel
theorem dX5_load_26 : decode cX5_load 26 = .ok (.iload 4, 2) := by decide +kernel
theorem dX5_load_28 : decode cX5_load 28 = .ok (.aload_n 3, 1) := by decide +kernel
theorem dX5_load_29 : decode cX5_load 29 = .ok (.getfield 259, 3) := by decide +kernel
theorem dX5_load_32 : decode cX5_load 32 = .ok (.if_icmp .ge 58, 3) := by decide +kernel
theorem dX5_load_35 : decode cX5_load 35 = .ok (.aload_n 0, 1) := by decide +kernel
theorem dX5_load_36 : decode cX5_load 36 = .ok (.getfield 12, 3) := by decide +kernel
theorem dX5_load_39 : decode cX5_load 39 = .ok (.iload 4, 2) := by decide +kernel
theorem dX5_load_41 : decode cX5_load 41 = .ok (.invokevirtual 94, 3) := by decide +kernel
theorem dX5_load_44 : decode cX5_load 44 = .ok (.ifCond .eq 46, 3) := by decide +kernel
theorem dX5_load_47 : decode cX5_load 47 = .ok (.aload_n 3, 1) := by decide +kernel
theorem dX5_load_48 : decode cX5_load 48 = .ok (.getfield 275, 3) := by decide +kernel
theorem dX5_load_51 : decode cX5_load 51 = .ok (.iload 4, 2) := by decide +kernel
theorem dX5_load_53 : decode cX5_load 53 = .ok (.iaload, 1) := by decide +kernel
theorem dX5_load_54 : decode cX5_load 54 = .ok (.iconst 0, 1) := by decide +kernel
theorem dX5_load_55 : decode cX5_load 55 = .ok (.sipush 4095, 3) := by decide +kernel
theorem dX5_load_58 : decode cX5_load 58 = .ok (.invokestatic 47, 3) := by decide +kernel
theorem dX5_load_61 : decode cX5_load 61 = .ok (.ifCond .eq 29, 3) := by decide +kernel
theorem dX5_load_64 : decode cX5_load 64 = .ok (.aload_n 0, 1) := by decide +kernel
theorem dX5_load_65 : decode cX5_load 65 = .ok (.getfield 12, 3) := by decide +kernel
theorem dX5_load_68 : decode cX5_load 68 = .ok (.getfield 103, 3) := by decide +kernel
theorem dX5_load_71 : decode cX5_load 71 = .ok (.iload 4, 2) := by decide +kernel
theorem dX5_load_73 : decode cX5_load 73 = .ok (.aaload, 1) := by decide +kernel
theorem dX5_load_74 : decode cX5_load 74 = .ok (.aload_n 3, 1) := by decide +kernel
theorem dX5_load_75 : decode cX5_load 75 = .ok (.getfield 275, 3) := by decide +kernel
theorem dX5_load_78 : decode cX5_load 78 = .ok (.iload 4, 2) := by decide +kernel
theorem dX5_load_80 : decode cX5_load 80 = .ok (.iaload, 1) := by decide +kernel
theorem dX5_load_81 : decode cX5_load 81 = .ok (.putfield 189, 3) := by decide +kernel
theorem dX5_load_84 : decode cX5_load 84 = .ok (.iinc 4 1, 3) := by decide +kernel
theorem dX5_load_87 : decode cX5_load 87 = .ok (.goto (-61), 3) := by decide +kernel
theorem dX5_load_90 : decode cX5_load 90 = .ok (.iload 4, 2) := by decide +kernel
theorem dX5_load_92 : decode cX5_load 92 = .ok (.ireturn, 1) := by decide +kernel
set_option maxRecDepth 20000 in
theorem ggX5_judge_X5_wrongWithSheet : GoodIn wsX5_judge wsX5_wrongWithSheet := goodIn_r _ [10, 11, 1, 12, 13, 14, 9, 15, 16, 17, 18, 19, 20, 21, 22, 23, 24, 30, 31, 32, 33, 34, 35, 36, 37, 38, 39, 40] (by decide +kernel) (by decide +kernel)
set_option maxRecDepth 20000 in
theorem gX5_judge_X5_wrongWithSheet : GoodIn wsX5_judge (wsV RX5 262 RX5 yX5_wrongWithSheet wsX5_wrongWithSheet) := goodIn_app (goodIn_of _ (by decide +kernel)) ggX5_judge_X5_wrongWithSheet
set_option maxRecDepth 20000 in
theorem ggX5_judge_X5_finding : GoodIn wsX5_judge wsX5_finding := goodIn_r _ [28, 11, 29, 16, 17, 9, 18, 30, 31, 32, 33, 34, 35, 36, 37] (by decide +kernel) (by decide +kernel)
set_option maxRecDepth 20000 in
theorem gX5_judge_X5_finding : GoodIn wsX5_judge (wsV RX5 55 RX5 yX5_finding wsX5_finding) := goodIn_app (goodIn_of _ (by decide +kernel)) ggX5_judge_X5_finding
theorem dX5_judge_0 : decode cX5_judge 0 = .ok (.aload_n 0, 1) := by decide +kernel
theorem dX5_judge_1 : decode cX5_judge 1 = .ok (.iload_n 1, 1) := by decide +kernel
theorem dX5_judge_2 : decode cX5_judge 2 = .ok (.invokevirtual 262, 3) := by decide +kernel
theorem dX5_judge_5 : decode cX5_judge 5 = .ok (.istore_n 2, 1) := by decide +kernel
theorem dX5_judge_6 : decode cX5_judge 6 = .ok (.iload_n 2, 1) := by decide +kernel
theorem dX5_judge_7 : decode cX5_judge 7 = .ok (.ifCond .eq 9, 3) := by decide +kernel
theorem dX5_judge_10 : decode cX5_judge 10 = .ok (.aload_n 0, 1) := by decide +kernel
theorem dX5_judge_11 : decode cX5_judge 11 = .ok (.iload_n 2, 1) := by decide +kernel
theorem dX5_judge_12 : decode cX5_judge 12 = .ok (.invokevirtual 55, 3) := by decide +kernel
theorem dX5_judge_15 : decode cX5_judge 15 = .ok (.ireturn, 1) := by decide +kernel
theorem dX5_judge_16 : decode cX5_judge 16 = .ok (.aload_n 0, 1) := by decide +kernel
theorem dX5_judge_17 : decode cX5_judge 17 = .ok (.getfield 40, 3) := by decide +kernel
theorem dX5_judge_20 : decode cX5_judge 20 = .ok (.iload_n 1, 1) := by decide +kernel
theorem dX5_judge_21 : decode cX5_judge 21 = .ok (.aaload, 1) := by decide +kernel
theorem dX5_judge_22 : decode cX5_judge 22 = .ok (.astore_n 3, 1) := by decide +kernel
theorem dX5_judge_23 : decode cX5_judge 23 = .ok (.iconst 0, 1) := by decide +kernel
theorem dX5_judge_24 : decode cX5_judge 24 = .ok (.istore 4, 2) := by decide +kernel
theorem dX5_judge_26 : decode cX5_judge 26 = .ok (.iload 4, 2) := by decide +kernel
theorem dX5_judge_28 : decode cX5_judge 28 = .ok (.aload_n 3, 1) := by decide +kernel
theorem dX5_judge_29 : decode cX5_judge 29 = .ok (.getfield 259, 3) := by decide +kernel
theorem dX5_judge_32 : decode cX5_judge 32 = .ok (.if_icmp .ge 41, 3) := by decide +kernel
theorem dX5_judge_35 : decode cX5_judge 35 = .ok (.iload 4, 2) := by decide +kernel
theorem dX5_judge_37 : decode cX5_judge 37 = .ok (.bipush 12, 2) := by decide +kernel
theorem dX5_judge_39 : decode cX5_judge 39 = .ok (.if_icmp .ge 23, 3) := by decide +kernel
theorem dX5_judge_42 : decode cX5_judge 42 = .ok (.aload_n 3, 1) := by decide +kernel
theorem dX5_judge_43 : decode cX5_judge 43 = .ok (.getfield 275, 3) := by decide +kernel
theorem dX5_judge_46 : decode cX5_judge 46 = .ok (.iload 4, 2) := by decide +kernel
theorem dX5_judge_48 : decode cX5_judge 48 = .ok (.iaload, 1) := by decide +kernel
theorem dX5_judge_49 : decode cX5_judge 49 = .ok (.aload_n 0, 1) := by decide +kernel
theorem dX5_judge_50 : decode cX5_judge 50 = .ok (.getfield 12, 3) := by decide +kernel
theorem dX5_judge_53 : decode cX5_judge 53 = .ok (.getfield 116, 3) := by decide +kernel
theorem dX5_judge_56 : decode cX5_judge 56 = .ok (.iload 4, 2) := by decide +kernel
theorem dX5_judge_58 : decode cX5_judge 58 = .ok (.iaload, 1) := by decide +kernel
theorem dX5_judge_59 : decode cX5_judge 59 = .ok (.if_icmp .eq 8, 3) := by decide +kernel
theorem dX5_judge_62 : decode cX5_judge 62 = .ok (.iconst 1, 1) := by decide +kernel
theorem dX5_judge_63 : decode cX5_judge 63 = .ok (.iload 4, 2) := by decide +kernel
theorem dX5_judge_65 : decode cX5_judge 65 = .ok (.iadd, 1) := by decide +kernel
theorem dX5_judge_66 : decode cX5_judge 66 = .ok (.ireturn, 1) := by decide +kernel
