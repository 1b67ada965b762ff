theorem dX0_init_0 : decode cX0_init 0 = .ok (.aload_n 0, 1) := by decide +kernel
theorem dX0_init_1 : decode cX0_init 1 = .ok (.invokespecial 3, 3) := by decide +kernel
theorem dX0_init_4 : decode cX0_init 4 = .ok (.aload_n 0, 1) := by decide +kernel
theorem dX0_init_5 : decode cX0_init 5 = .ok (.iconst 0, 1) := by decide +kernel
theorem dX0_init_6 : decode cX0_init 6 = .ok (.putfield 9, 3) := by decide +kernel
theorem dX0_init_9 : decode cX0_init 9 = .ok (.aload_n 0, 1) := by decide +kernel
theorem dX0_init_10 : decode cX0_init 10 = .ok (.iconst 0, 1) := by decide +kernel
theorem dX0_init_11 : decode cX0_init 11 = .ok (.putfield 15, 3) := by decide +kernel
theorem dX0_init_14 : decode cX0_init 14 = .ok (.aload_n 0, 1) := by decide +kernel
theorem dX0_init_15 : decode cX0_init 15 = .ok (.iconst 0, 1) := by decide +kernel
theorem dX0_init_16 : decode cX0_init 16 = .ok (.putfield 18, 3) := by decide +kernel
theorem dX0_init_19 : decode cX0_init 19 = .ok (.aload_n 0, 1) := by decide +kernel
theorem dX0_init_20 : decode cX0_init 20 = .ok (.bipush 50, 2) := by decide +kernel
theorem dX0_init_22 : decode cX0_init 22 = .ok (.putfield 21, 3) := by decide +kernel
theorem dX0_init_25 : decode cX0_init 25 = .ok (.aload_n 0, 1) := by decide +kernel
theorem dX0_init_26 : decode cX0_init 26 = .ok (.iconst 0, 1) := by decide +kernel
theorem dX0_init_27 : decode cX0_init 27 = .ok (.putfield 24, 3) := by decide +kernel
theorem dX0_init_30 : decode cX0_init 30 = .ok (.aload_n 0, 1) := by decide +kernel
theorem dX0_init_31 : decode cX0_init 31 = .ok (.iconst 0, 1) := by decide +kernel
theorem dX0_init_32 : decode cX0_init 32 = .ok (.putfield 27, 3) := by decide +kernel
theorem dX0_init_35 : decode cX0_init 35 = .ok (.return_, 1) := by decide +kernel
theorem dX0_moveInAs_0 : decode cX0_moveInAs 0 = .ok (.aload_n 0, 1) := by decide +kernel
theorem dX0_moveInAs_1 : decode cX0_moveInAs 1 = .ok (.iload_n 1, 1) := by decide +kernel
theorem dX0_moveInAs_2 : decode cX0_moveInAs 2 = .ok (.putfield 9, 3) := by decide +kernel
theorem dX0_moveInAs_5 : decode cX0_moveInAs 5 = .ok (.aload_n 0, 1) := by decide +kernel
theorem dX0_moveInAs_6 : decode cX0_moveInAs 6 = .ok (.iload_n 2, 1) := by decide +kernel
theorem dX0_moveInAs_7 : decode cX0_moveInAs 7 = .ok (.putfield 15, 3) := by decide +kernel
theorem dX0_moveInAs_10 : decode cX0_moveInAs 10 = .ok (.aload_n 0, 1) := by decide +kernel
theorem dX0_moveInAs_11 : decode cX0_moveInAs 11 = .ok (.iconst 0, 1) := by decide +kernel
theorem dX0_moveInAs_12 : decode cX0_moveInAs 12 = .ok (.putfield 18, 3) := by decide +kernel
theorem dX0_moveInAs_15 : decode cX0_moveInAs 15 = .ok (.aload_n 0, 1) := by decide +kernel
theorem dX0_moveInAs_16 : decode cX0_moveInAs 16 = .ok (.bipush 50, 2) := by decide +kernel
theorem dX0_moveInAs_18 : decode cX0_moveInAs 18 = .ok (.putfield 21, 3) := by decide +kernel
theorem dX0_moveInAs_21 : decode cX0_moveInAs 21 = .ok (.aload_n 0, 1) := by decide +kernel
theorem dX0_moveInAs_22 : decode cX0_moveInAs 22 = .ok (.iconst 0, 1) := by decide +kernel
theorem dX0_moveInAs_23 : decode cX0_moveInAs 23 = .ok (.putfield 24, 3) := by decide +kernel
theorem dX0_moveInAs_26 : decode cX0_moveInAs 26 = .ok (.aload_n 0, 1) := by decide +kernel
theorem dX0_moveInAs_27 : decode cX0_moveInAs 27 = .ok (.iconst 0, 1) := by decide +kernel
theorem dX0_moveInAs_28 : decode cX0_moveInAs 28 = .ok (.putfield 27, 3) := by decide +kernel
theorem dX0_moveInAs_31 : decode cX0_moveInAs 31 = .ok (.return_, 1) := by decide +kernel
theorem dX0_become_0 : decode cX0_become 0 = .ok (.aload_n 0, 1) := by decide +kernel
theorem dX0_become_1 : decode cX0_become 1 = .ok (.aload_n 1, 1) := by decide +kernel
theorem dX0_become_2 : decode cX0_become 2 = .ok (.getfield 9, 3) := by decide +kernel
theorem dX0_become_5 : decode cX0_become 5 = .ok (.putfield 9, 3) := by decide +kernel
theorem dX0_become_8 : decode cX0_become 8 = .ok (.aload_n 0, 1) := by decide +kernel
theorem dX0_become_9 : decode cX0_become 9 = .ok (.aload_n 1, 1) := by decide +kernel
theorem dX0_become_10 : decode cX0_become 10 = .ok (.getfield 15, 3) := by decide +kernel
theorem dX0_become_13 : decode cX0_become 13 = .ok (.putfield 15, 3) := by decide +kernel
theorem dX0_become_16 : decode cX0_become 16 = .ok (.aload_n 0, 1) := by decide +kernel
theorem dX0_become_17 : decode cX0_become 17 = .ok (.aload_n 1, 1) := by decide +kernel
theorem dX0_become_18 : decode cX0_become 18 = .ok (.getfield 18, 3) := by decide +kernel
theorem dX0_become_21 : decode cX0_become 21 = .ok (.putfield 18, 3) := by decide +kernel
theorem dX0_become_24 : decode cX0_become 24 = .ok (.aload_n 0, 1) := by decide +kernel
theorem dX0_become_25 : decode cX0_become 25 = .ok (.aload_n 1, 1) := by decide +kernel
theorem dX0_become_26 : decode cX0_become 26 = .ok (.getfield 21, 3) := by decide +kernel
theorem dX0_become_29 : decode cX0_become 29 = .ok (.putfield 21, 3) := by decide +kernel
theorem dX0_become_32 : decode cX0_become 32 = .ok (.aload_n 0, 1) := by decide +kernel
theorem dX0_become_33 : decode cX0_become 33 = .ok (.aload_n 1, 1) := by decide +kernel
theorem dX0_become_34 : decode cX0_become 34 = .ok (.getfield 24, 3) := by decide +kernel
theorem dX0_become_37 : decode cX0_become 37 = .ok (.putfield 24, 3) := by decide +kernel
theorem dX0_become_40 : decode cX0_become 40 = .ok (.aload_n 0, 1) := by decide +kernel
theorem dX0_become_41 : decode cX0_become 41 = .ok (.aload_n 1, 1) := by decide +kernel
theorem dX0_become_42 : decode cX0_become 42 = .ok (.getfield 27, 3) := by decide +kernel
theorem dX0_become_45 : decode cX0_become 45 = .ok (.putfield 27, 3) := by decide +kernel
theorem dX0_become_48 : decode cX0_become 48 = .ok (.return_, 1) := by decide +kernel
theorem dX0_put_0 : decode cX0_put 0 = .ok (.iload_n 1, 1) := by decide +kernel
theorem dX0_put_1 : decode cX0_put 1 = .ok (.tableswitch 75 0 4 #[35, 43, 51, 59, 67], 35) := by decide +kernel
theorem dX0_put_36 : decode cX0_put 36 = .ok (.aload_n 0, 1) := by decide +kernel
theorem dX0_put_37 : decode cX0_put 37 = .ok (.iload_n 2, 1) := by decide +kernel
theorem dX0_put_38 : decode cX0_put 38 = .ok (.putfield 9, 3) := by decide +kernel
theorem dX0_put_41 : decode cX0_put 41 = .ok (.goto 40, 3) := by decide +kernel
theorem dX0_put_44 : decode cX0_put 44 = .ok (.aload_n 0, 1) := by decide +kernel
theorem dX0_put_45 : decode cX0_put 45 = .ok (.iload_n 2, 1) := by decide +kernel
theorem dX0_put_46 : decode cX0_put 46 = .ok (.putfield 15, 3) := by decide +kernel
theorem dX0_put_49 : decode cX0_put 49 = .ok (.goto 32, 3) := by decide +kernel
theorem dX0_put_52 : decode cX0_put 52 = .ok (.aload_n 0, 1) := by decide +kernel
theorem dX0_put_53 : decode cX0_put 53 = .ok (.iload_n 2, 1) := by decide +kernel
theorem dX0_put_54 : decode cX0_put 54 = .ok (.putfield 18, 3) := by decide +kernel
theorem dX0_put_57 : decode cX0_put 57 = .ok (.goto 24, 3) := by decide +kernel
theorem dX0_put_60 : decode cX0_put 60 = .ok (.aload_n 0, 1) := by decide +kernel
theorem dX0_put_61 : decode cX0_put 61 = .ok (.iload_n 2, 1) := by decide +kernel
theorem dX0_put_62 : decode cX0_put 62 = .ok (.putfield 21, 3) := by decide +kernel
theorem dX0_put_65 : decode cX0_put 65 = .ok (.goto 16, 3) := by decide +kernel
theorem dX0_put_68 : decode cX0_put 68 = .ok (.aload_n 0, 1) := by decide +kernel
theorem dX0_put_69 : decode cX0_put 69 = .ok (.iload_n 2, 1) := by decide +kernel
theorem dX0_put_70 : decode cX0_put 70 = .ok (.putfield 24, 3) := by decide +kernel
theorem dX0_put_73 : decode cX0_put 73 = .ok (.goto 8, 3) := by decide +kernel
theorem dX0_put_76 : decode cX0_put 76 = .ok (.aload_n 0, 1) := by decide +kernel
theorem dX0_put_77 : decode cX0_put 77 = .ok (.iload_n 2, 1) := by decide +kernel
theorem dX0_put_78 : decode cX0_put 78 = .ok (.putfield 27, 3) := by decide +kernel
theorem dX0_put_81 : decode cX0_put 81 = .ok (.return_, 1) := by decide +kernel
set_option maxRecDepth 20000 in
theorem ggX0_tell_X0_hearing : GoodIn wsX0_tell wsX0_hearing := goodIn_r _ [11, 1, 4, 39, 40, 41, 42, 43, 44] (by decide +kernel) (by decide +kernel)
set_option maxRecDepth 20000 in
theorem gX0_tell_X0_hearing : GoodIn wsX0_tell (wsV RX0 30 RX0 yX0_hearing wsX0_hearing) := goodIn_app (goodIn_of _ (by decide +kernel)) ggX0_tell_X0_hearing
set_option maxRecDepth 20000 in
theorem ggX0_tell_X0_trust : GoodIn wsX0_tell wsX0_trust := goodIn_r _ [15, 1, 5, 39, 40, 41, 42, 43, 44] (by decide +kernel) (by decide +kernel)
set_option maxRecDepth 20000 in
theorem gX0_tell_X0_trust : GoodIn wsX0_tell (wsV RX0 34 RX0 yX0_trust wsX0_trust) := goodIn_app (goodIn_of _ (by decide +kernel)) ggX0_tell_X0_trust
set_option maxRecDepth 20000 in
theorem ggX0_tell_X0_loss : GoodIn wsX0_tell wsX0_loss := goodIn_r _ [19, 1, 3, 20, 21, 22, 23, 24, 25, 26, 39, 40, 41, 42, 43, 44] (by decide +kernel) (by decide +kernel)
set_option maxRecDepth 20000 in
theorem gX0_tell_X0_loss : GoodIn wsX0_tell (wsV RX0 38 RX0 yX0_loss wsX0_loss) := goodIn_app (goodIn_of _ (by decide +kernel)) ggX0_tell_X0_loss
set_option maxRecDepth 20000 in
theorem ggX0_tell_X0_mending : GoodIn wsX0_tell wsX0_mending := goodIn_r _ [30, 1, 39, 40, 41, 42, 43, 44] (by decide +kernel) (by decide +kernel)
set_option maxRecDepth 20000 in
theorem gX0_tell_X0_mending : GoodIn wsX0_tell (wsV RX0 41 RX0 yX0_mending wsX0_mending) := goodIn_app (goodIn_of _ (by decide +kernel)) ggX0_tell_X0_mending
set_option maxRecDepth 20000 in
theorem ggX0_tell_X0_farFrom : GoodIn wsX0_tell wsX0_farFrom := goodIn_r _ [34, 2, 35, 36, 37, 38, 39, 40, 41, 42, 43, 44] (by decide +kernel) (by decide +kernel)
set_option maxRecDepth 20000 in
theorem gX0_tell_X0_farFrom : GoodIn wsX0_tell (wsV RX0 44 RX0 yX0_farFrom wsX0_farFrom) := goodIn_app (goodIn_of _ (by decide +kernel)) ggX0_tell_X0_farFrom
theorem dX0_tell_0 : decode cX0_tell 0 = .ok (.iload_n 1, 1) := by decide +kernel
theorem dX0_tell_1 : decode cX0_tell 1 = .ok (.tableswitch 106 0 9 #[55, 60, 65, 70, 75, 80, 85, 91, 96, 101], 55) := by decide +kernel
theorem dX0_tell_56 : decode cX0_tell 56 = .ok (.aload_n 0, 1) := by decide +kernel
theorem dX0_tell_57 : decode cX0_tell 57 = .ok (.getfield 9, 3) := by decide +kernel
theorem dX0_tell_60 : decode cX0_tell 60 = .ok (.ireturn, 1) := by decide +kernel
theorem dX0_tell_61 : decode cX0_tell 61 = .ok (.aload_n 0, 1) := by decide +kernel
theorem dX0_tell_62 : decode cX0_tell 62 = .ok (.getfield 15, 3) := by decide +kernel
theorem dX0_tell_65 : decode cX0_tell 65 = .ok (.ireturn, 1) := by decide +kernel
theorem dX0_tell_66 : decode cX0_tell 66 = .ok (.aload_n 0, 1) := by decide +kernel
theorem dX0_tell_67 : decode cX0_tell 67 = .ok (.getfield 18, 3) := by decide +kernel
theorem dX0_tell_70 : decode cX0_tell 70 = .ok (.ireturn, 1) := by decide +kernel
theorem dX0_tell_71 : decode cX0_tell 71 = .ok (.aload_n 0, 1) := by decide +kernel
theorem dX0_tell_72 : decode cX0_tell 72 = .ok (.getfield 21, 3) := by decide +kernel
theorem dX0_tell_75 : decode cX0_tell 75 = .ok (.ireturn, 1) := by decide +kernel
theorem dX0_tell_76 : decode cX0_tell 76 = .ok (.aload_n 0, 1) := by decide +kernel
theorem dX0_tell_77 : decode cX0_tell 77 = .ok (.getfield 24, 3) := by decide +kernel
theorem dX0_tell_80 : decode cX0_tell 80 = .ok (.ireturn, 1) := by decide +kernel
theorem dX0_tell_81 : decode cX0_tell 81 = .ok (.aload_n 0, 1) := by decide +kernel
theorem dX0_tell_82 : decode cX0_tell 82 = .ok (.getfield 27, 3) := by decide +kernel
theorem dX0_tell_85 : decode cX0_tell 85 = .ok (.ireturn, 1) := by decide +kernel
theorem dX0_tell_86 : decode cX0_tell 86 = .ok (.aload_n 0, 1) := by decide +kernel
theorem dX0_tell_87 : decode cX0_tell 87 = .ok (.iload_n 3, 1) := by decide +kernel
theorem dX0_tell_88 : decode cX0_tell 88 = .ok (.invokevirtual 30, 3) := by decide +kernel
theorem dX0_tell_91 : decode cX0_tell 91 = .ok (.ireturn, 1) := by decide +kernel
theorem dX0_tell_92 : decode cX0_tell 92 = .ok (.aload_n 0, 1) := by decide +kernel
theorem dX0_tell_93 : decode cX0_tell 93 = .ok (.invokevirtual 34, 3) := by decide +kernel
theorem dX0_tell_96 : decode cX0_tell 96 = .ok (.ireturn, 1) := by decide +kernel
theorem dX0_tell_97 : decode cX0_tell 97 = .ok (.aload_n 0, 1) := by decide +kernel
theorem dX0_tell_98 : decode cX0_tell 98 = .ok (.invokevirtual 38, 3) := by decide +kernel
theorem dX0_tell_101 : decode cX0_tell 101 = .ok (.ireturn, 1) := by decide +kernel
theorem dX0_tell_102 : decode cX0_tell 102 = .ok (.aload_n 0, 1) := by decide +kernel
theorem dX0_tell_103 : decode cX0_tell 103 = .ok (.invokevirtual 41, 3) := by decide +kernel
theorem dX0_tell_106 : decode cX0_tell 106 = .ok (.ireturn, 1) := by decide +kernel
theorem dX0_tell_107 : decode cX0_tell 107 = .ok (.aload_n 0, 1) := by decide +kernel
theorem dX0_tell_108 : decode cX0_tell 108 = .ok (.iload_n 2, 1) := by decide +kernel
theorem dX0_tell_109 : decode cX0_tell 109 = .ok (.invokevirtual 44, 3) := by decide +kernel
theorem dX0_tell_112 : decode cX0_tell 112 = .ok (.ireturn, 1) := by decide +kernel
theorem dX0_hearing_0 : decode cX0_hearing 0 = .ok (.iload_n 1, 1) := by decide +kernel
theorem dX0_hearing_1 : decode cX0_hearing 1 = .ok (.iconst 2, 1) := by decide +kernel
theorem dX0_hearing_2 : decode cX0_hearing 2 = .ok (.iadd, 1) := by decide +kernel
theorem dX0_hearing_3 : decode cX0_hearing 3 = .ok (.istore_n 2, 1) := by decide +kernel
theorem dX0_hearing_4 : decode cX0_hearing 4 = .ok (.iload_n 2, 1) := by decide +kernel
theorem dX0_hearing_5 : decode cX0_hearing 5 = .ok (.iconst 2, 1) := by decide +kernel
theorem dX0_hearing_6 : decode cX0_hearing 6 = .ok (.idiv, 1) := by decide +kernel
theorem dX0_hearing_7 : decode cX0_hearing 7 = .ok (.istore_n 3, 1) := by decide +kernel
theorem dX0_hearing_8 : decode cX0_hearing 8 = .ok (.aload_n 0, 1) := by decide +kernel
theorem dX0_hearing_9 : decode cX0_hearing 9 = .ok (.getfield 9, 3) := by decide +kernel
theorem dX0_hearing_12 : decode cX0_hearing 12 = .ok (.tableswitch 70 1 6 #[40, 42, 46, 48, 65, 67], 40) := by decide +kernel
theorem dX0_hearing_52 : decode cX0_hearing 52 = .ok (.iload_n 2, 1) := by decide +kernel
theorem dX0_hearing_53 : decode cX0_hearing 53 = .ok (.ireturn, 1) := by decide +kernel
theorem dX0_hearing_54 : decode cX0_hearing 54 = .ok (.iconst 2, 1) := by decide +kernel
theorem dX0_hearing_55 : decode cX0_hearing 55 = .ok (.iload_n 1, 1) := by decide +kernel
theorem dX0_hearing_56 : decode cX0_hearing 56 = .ok (.imul, 1) := by decide +kernel
theorem dX0_hearing_57 : decode cX0_hearing 57 = .ok (.ireturn, 1) := by decide +kernel
theorem dX0_hearing_58 : decode cX0_hearing 58 = .ok (.iload_n 3, 1) := by decide +kernel
theorem dX0_hearing_59 : decode cX0_hearing 59 = .ok (.ireturn, 1) := by decide +kernel
theorem dX0_hearing_60 : decode cX0_hearing 60 = .ok (.iload_n 3, 1) := by decide +kernel
theorem dX0_hearing_61 : decode cX0_hearing 61 = .ok (.aload_n 0, 1) := by decide +kernel
theorem dX0_hearing_62 : decode cX0_hearing 62 = .ok (.getfield 21, 3) := by decide +kernel
theorem dX0_hearing_65 : decode cX0_hearing 65 = .ok (.bipush 50, 2) := by decide +kernel
theorem dX0_hearing_67 : decode cX0_hearing 67 = .ok (.if_icmp .lt 7, 3) := by decide +kernel
theorem dX0_hearing_70 : decode cX0_hearing 70 = .ok (.iconst 1, 1) := by decide +kernel
theorem dX0_hearing_71 : decode cX0_hearing 71 = .ok (.goto 4, 3) := by decide +kernel
theorem dX0_hearing_74 : decode cX0_hearing 74 = .ok (.iconst 0, 1) := by decide +kernel
theorem dX0_hearing_75 : decode cX0_hearing 75 = .ok (.iadd, 1) := by decide +kernel
theorem dX0_hearing_76 : decode cX0_hearing 76 = .ok (.ireturn, 1) := by decide +kernel
theorem dX0_hearing_77 : decode cX0_hearing 77 = .ok (.iconst 0, 1) := by decide +kernel
theorem dX0_hearing_78 : decode cX0_hearing 78 = .ok (.ireturn, 1) := by decide +kernel
theorem dX0_hearing_79 : decode cX0_hearing 79 = .ok (.bipush 15, 2) := by decide +kernel
theorem dX0_hearing_81 : decode cX0_hearing 81 = .ok (.ireturn, 1) := by decide +kernel
theorem dX0_hearing_82 : decode cX0_hearing 82 = .ok (.iload_n 1, 1) := by decide +kernel
theorem dX0_hearing_83 : decode cX0_hearing 83 = .ok (.ireturn, 1) := by decide +kernel
theorem dX0_trust_0 : decode cX0_trust 0 = .ok (.bipush 20, 2) := by decide +kernel
theorem dX0_trust_2 : decode cX0_trust 2 = .ok (.istore_n 1, 1) := by decide +kernel
theorem dX0_trust_3 : decode cX0_trust 3 = .ok (.iload_n 1, 1) := by decide +kernel
theorem dX0_trust_4 : decode cX0_trust 4 = .ok (.bipush 10, 2) := by decide +kernel
theorem dX0_trust_6 : decode cX0_trust 6 = .ok (.isub, 1) := by decide +kernel
theorem dX0_trust_7 : decode cX0_trust 7 = .ok (.istore_n 2, 1) := by decide +kernel
theorem dX0_trust_8 : decode cX0_trust 8 = .ok (.aload_n 0, 1) := by decide +kernel
theorem dX0_trust_9 : decode cX0_trust 9 = .ok (.getfield 9, 3) := by decide +kernel
theorem dX0_trust_12 : decode cX0_trust 12 = .ok (.tableswitch 67 1 6 #[40, 67, 42, 47, 67, 49], 40) := by decide +kernel
theorem dX0_trust_52 : decode cX0_trust 52 = .ok (.iload_n 2, 1) := by decide +kernel
theorem dX0_trust_53 : decode cX0_trust 53 = .ok (.ireturn, 1) := by decide +kernel
theorem dX0_trust_54 : decode cX0_trust 54 = .ok (.iload_n 2, 1) := by decide +kernel
theorem dX0_trust_55 : decode cX0_trust 55 = .ok (.bipush 30, 2) := by decide +kernel
theorem dX0_trust_57 : decode cX0_trust 57 = .ok (.iadd, 1) := by decide +kernel
theorem dX0_trust_58 : decode cX0_trust 58 = .ok (.ireturn, 1) := by decide +kernel
theorem dX0_trust_59 : decode cX0_trust 59 = .ok (.iconst 0, 1) := by decide +kernel
theorem dX0_trust_60 : decode cX0_trust 60 = .ok (.ireturn, 1) := by decide +kernel
theorem dX0_trust_61 : decode cX0_trust 61 = .ok (.iload_n 1, 1) := by decide +kernel
theorem dX0_trust_62 : decode cX0_trust 62 = .ok (.aload_n 0, 1) := by decide +kernel
theorem dX0_trust_63 : decode cX0_trust 63 = .ok (.getfield 24, 3) := by decide +kernel
theorem dX0_trust_66 : decode cX0_trust 66 = .ok (.bipush 10, 2) := by decide +kernel
theorem dX0_trust_68 : decode cX0_trust 68 = .ok (.if_icmp .lt 8, 3) := by decide +kernel
theorem dX0_trust_71 : decode cX0_trust 71 = .ok (.bipush 40, 2) := by decide +kernel
theorem dX0_trust_73 : decode cX0_trust 73 = .ok (.goto 4, 3) := by decide +kernel
theorem dX0_trust_76 : decode cX0_trust 76 = .ok (.iconst 0, 1) := by decide +kernel
theorem dX0_trust_77 : decode cX0_trust 77 = .ok (.iadd, 1) := by decide +kernel
theorem dX0_trust_78 : decode cX0_trust 78 = .ok (.ireturn, 1) := by decide +kernel
theorem dX0_trust_79 : decode cX0_trust 79 = .ok (.iload_n 1, 1) := by decide +kernel
theorem dX0_trust_80 : decode cX0_trust 80 = .ok (.ireturn, 1) := by decide +kernel
set_option maxRecDepth 20000 in
theorem ggX0_loss_J6_bitCount_0f7a4 : GoodIn wsX0_loss wsJ6_bitCount_0f7a4 := goodIn_r _ [6, 7, 8, 9] (by decide +kernel) (by decide +kernel)
set_option maxRecDepth 20000 in
theorem gX0_loss_J6_bitCount_0f7a4 : GoodIn wsX0_loss (va_wsS RX0 47 yJ6_bitCount_0f7a4 wsJ6_bitCount_0f7a4) := goodIn_app (goodIn_of _ (by decide +kernel)) ggX0_loss_J6_bitCount_0f7a4
theorem dX0_loss_0 : decode cX0_loss 0 = .ok (.bipush 8, 2) := by decide +kernel
theorem dX0_loss_2 : decode cX0_loss 2 = .ok (.istore_n 1, 1) := by decide +kernel
theorem dX0_loss_3 : decode cX0_loss 3 = .ok (.iload_n 1, 1) := by decide +kernel
theorem dX0_loss_4 : decode cX0_loss 4 = .ok (.iconst 3, 1) := by decide +kernel
theorem dX0_loss_5 : decode cX0_loss 5 = .ok (.isub, 1) := by decide +kernel
theorem dX0_loss_6 : decode cX0_loss 6 = .ok (.istore_n 2, 1) := by decide +kernel
theorem dX0_loss_7 : decode cX0_loss 7 = .ok (.iconst 2, 1) := by decide +kernel
theorem dX0_loss_8 : decode cX0_loss 8 = .ok (.iload_n 1, 1) := by decide +kernel
theorem dX0_loss_9 : decode cX0_loss 9 = .ok (.imul, 1) := by decide +kernel
theorem dX0_loss_10 : decode cX0_loss 10 = .ok (.istore_n 3, 1) := by decide +kernel
theorem dX0_loss_11 : decode cX0_loss 11 = .ok (.aload_n 0, 1) := by decide +kernel
theorem dX0_loss_12 : decode cX0_loss 12 = .ok (.getfield 9, 3) := by decide +kernel
theorem dX0_loss_15 : decode cX0_loss 15 = .ok (.tableswitch 60 1 6 #[37, 39, 41, 43, 45, 55], 37) := by decide +kernel
theorem dX0_loss_52 : decode cX0_loss 52 = .ok (.iload_n 2, 1) := by decide +kernel
theorem dX0_loss_53 : decode cX0_loss 53 = .ok (.ireturn, 1) := by decide +kernel
theorem dX0_loss_54 : decode cX0_loss 54 = .ok (.iload_n 3, 1) := by decide +kernel
theorem dX0_loss_55 : decode cX0_loss 55 = .ok (.ireturn, 1) := by decide +kernel
theorem dX0_loss_56 : decode cX0_loss 56 = .ok (.iload_n 2, 1) := by decide +kernel
theorem dX0_loss_57 : decode cX0_loss 57 = .ok (.ireturn, 1) := by decide +kernel
theorem dX0_loss_58 : decode cX0_loss 58 = .ok (.iconst 1, 1) := by decide +kernel
theorem dX0_loss_59 : decode cX0_loss 59 = .ok (.ireturn, 1) := by decide +kernel
theorem dX0_loss_60 : decode cX0_loss 60 = .ok (.iload_n 1, 1) := by decide +kernel
theorem dX0_loss_61 : decode cX0_loss 61 = .ok (.aload_n 0, 1) := by decide +kernel
theorem dX0_loss_62 : decode cX0_loss 62 = .ok (.getfield 18, 3) := by decide +kernel
theorem dX0_loss_65 : decode cX0_loss 65 = .ok (.invokestatic 47, 3) := by decide +kernel
theorem dX0_loss_68 : decode cX0_loss 68 = .ok (.iadd, 1) := by decide +kernel
theorem dX0_loss_69 : decode cX0_loss 69 = .ok (.ireturn, 1) := by decide +kernel
theorem dX0_loss_70 : decode cX0_loss 70 = .ok (.iload_n 3, 1) := by decide +kernel
theorem dX0_loss_71 : decode cX0_loss 71 = .ok (.bipush 6, 2) := by decide +kernel
theorem dX0_loss_73 : decode cX0_loss 73 = .ok (.isub, 1) := by decide +kernel
theorem dX0_loss_74 : decode cX0_loss 74 = .ok (.ireturn, 1) := by decide +kernel
theorem dX0_loss_75 : decode cX0_loss 75 = .ok (.iload_n 1, 1) := by decide +kernel
theorem dX0_loss_76 : decode cX0_loss 76 = .ok (.ireturn, 1) := by decide +kernel
theorem dX0_mending_0 : decode cX0_mending 0 = .ok (.iconst 2, 1) := by decide +kernel
theorem dX0_mending_1 : decode cX0_mending 1 = .ok (.istore_n 1, 1) := by decide +kernel
theorem dX0_mending_2 : decode cX0_mending 2 = .ok (.iload_n 1, 1) := by decide +kernel
theorem dX0_mending_3 : decode cX0_mending 3 = .ok (.iconst 1, 1) := by decide +kernel
theorem dX0_mending_4 : decode cX0_mending 4 = .ok (.iadd, 1) := by decide +kernel
theorem dX0_mending_5 : decode cX0_mending 5 = .ok (.istore_n 2, 1) := by decide +kernel
theorem dX0_mending_6 : decode cX0_mending 6 = .ok (.aload_n 0, 1) := by decide +kernel
theorem dX0_mending_7 : decode cX0_mending 7 = .ok (.getfield 9, 3) := by decide +kernel
theorem dX0_mending_10 : decode cX0_mending 10 = .ok (.tableswitch 52 1 6 #[38, 52, 40, 42, 46, 48], 38) := by decide +kernel
theorem dX0_mending_48 : decode cX0_mending 48 = .ok (.iload_n 2, 1) := by decide +kernel
theorem dX0_mending_49 : decode cX0_mending 49 = .ok (.ireturn, 1) := by decide +kernel
theorem dX0_mending_50 : decode cX0_mending 50 = .ok (.iload_n 2, 1) := by decide +kernel
theorem dX0_mending_51 : decode cX0_mending 51 = .ok (.ireturn, 1) := by decide +kernel
theorem dX0_mending_52 : decode cX0_mending 52 = .ok (.iconst 2, 1) := by decide +kernel
theorem dX0_mending_53 : decode cX0_mending 53 = .ok (.iload_n 2, 1) := by decide +kernel
theorem dX0_mending_54 : decode cX0_mending 54 = .ok (.imul, 1) := by decide +kernel
theorem dX0_mending_55 : decode cX0_mending 55 = .ok (.ireturn, 1) := by decide +kernel
theorem dX0_mending_56 : decode cX0_mending 56 = .ok (.iconst 0, 1) := by decide +kernel
theorem dX0_mending_57 : decode cX0_mending 57 = .ok (.ireturn, 1) := by decide +kernel
theorem dX0_mending_58 : decode cX0_mending 58 = .ok (.iload_n 1, 1) := by decide +kernel
theorem dX0_mending_59 : decode cX0_mending 59 = .ok (.iconst 3, 1) := by decide +kernel
theorem dX0_mending_60 : decode cX0_mending 60 = .ok (.iadd, 1) := by decide +kernel
theorem dX0_mending_61 : decode cX0_mending 61 = .ok (.ireturn, 1) := by decide +kernel
theorem dX0_mending_62 : decode cX0_mending 62 = .ok (.iload_n 1, 1) := by decide +kernel
theorem dX0_mending_63 : decode cX0_mending 63 = .ok (.ireturn, 1) := by decide +kernel
theorem dX0_isTemptedBy_0 : decode cX0_isTemptedBy 0 = .ok (.iload_n 1, 1) := by decide +kernel
theorem dX0_isTemptedBy_1 : decode cX0_isTemptedBy 1 = .ok (.iconst 2, 1) := by decide +kernel
theorem dX0_isTemptedBy_2 : decode cX0_isTemptedBy 2 = .ok (.irem, 1) := by decide +kernel
theorem dX0_isTemptedBy_3 : decode cX0_isTemptedBy 3 = .ok (.ifCond .ne 7, 3) := by decide +kernel
theorem dX0_isTemptedBy_6 : decode cX0_isTemptedBy 6 = .ok (.iconst 1, 1) := by decide +kernel
theorem dX0_isTemptedBy_7 : decode cX0_isTemptedBy 7 = .ok (.goto 4, 3) := by decide +kernel
theorem dX0_isTemptedBy_10 : decode cX0_isTemptedBy 10 = .ok (.iconst 0, 1) := by decide +kernel
theorem dX0_isTemptedBy_11 : decode cX0_isTemptedBy 11 = .ok (.istore_n 2, 1) := by decide +kernel
theorem dX0_isTemptedBy_12 : decode cX0_isTemptedBy 12 = .ok (.aload_n 0, 1) := by decide +kernel
theorem dX0_isTemptedBy_13 : decode cX0_isTemptedBy 13 = .ok (.getfield 9, 3) := by decide +kernel
theorem dX0_isTemptedBy_16 : decode cX0_isTemptedBy 16 = .ok (.tableswitch 71 2 6 #[36, 38, 40, 53, 55], 36) := by decide +kernel
theorem dX0_isTemptedBy_52 : decode cX0_isTemptedBy 52 = .ok (.iload_n 2, 1) := by decide +kernel
theorem dX0_isTemptedBy_53 : decode cX0_isTemptedBy 53 = .ok (.ireturn, 1) := by decide +kernel
theorem dX0_isTemptedBy_54 : decode cX0_isTemptedBy 54 = .ok (.iconst 0, 1) := by decide +kernel
theorem dX0_isTemptedBy_55 : decode cX0_isTemptedBy 55 = .ok (.ireturn, 1) := by decide +kernel
theorem dX0_isTemptedBy_56 : decode cX0_isTemptedBy 56 = .ok (.aload_n 0, 1) := by decide +kernel
theorem dX0_isTemptedBy_57 : decode cX0_isTemptedBy 57 = .ok (.getfield 18, 3) := by decide +kernel
theorem dX0_isTemptedBy_60 : decode cX0_isTemptedBy 60 = .ok (.ifCond .ne 7, 3) := by decide +kernel
theorem dX0_isTemptedBy_63 : decode cX0_isTemptedBy 63 = .ok (.iconst 1, 1) := by decide +kernel
theorem dX0_isTemptedBy_64 : decode cX0_isTemptedBy 64 = .ok (.goto 4, 3) := by decide +kernel
theorem dX0_isTemptedBy_67 : decode cX0_isTemptedBy 67 = .ok (.iconst 0, 1) := by decide +kernel
theorem dX0_isTemptedBy_68 : decode cX0_isTemptedBy 68 = .ok (.ireturn, 1) := by decide +kernel
theorem dX0_isTemptedBy_69 : decode cX0_isTemptedBy 69 = .ok (.iconst 0, 1) := by decide +kernel
theorem dX0_isTemptedBy_70 : decode cX0_isTemptedBy 70 = .ok (.ireturn, 1) := by decide +kernel
theorem dX0_isTemptedBy_71 : decode cX0_isTemptedBy 71 = .ok (.iload_n 2, 1) := by decide +kernel
theorem dX0_isTemptedBy_72 : decode cX0_isTemptedBy 72 = .ok (.ifCond .ne 9, 3) := by decide +kernel
theorem dX0_isTemptedBy_75 : decode cX0_isTemptedBy 75 = .ok (.iload_n 1, 1) := by decide +kernel
theorem dX0_isTemptedBy_76 : decode cX0_isTemptedBy 76 = .ok (.bipush 11, 2) := by decide +kernel
theorem dX0_isTemptedBy_78 : decode cX0_isTemptedBy 78 = .ok (.if_icmp .ne 7, 3) := by decide +kernel
theorem dX0_isTemptedBy_81 : decode cX0_isTemptedBy 81 = .ok (.iconst 1, 1) := by decide +kernel
theorem dX0_isTemptedBy_82 : decode cX0_isTemptedBy 82 = .ok (.goto 4, 3) := by decide +kernel
theorem dX0_isTemptedBy_85 : decode cX0_isTemptedBy 85 = .ok (.iconst 0, 1) := by decide +kernel
theorem dX0_isTemptedBy_86 : decode cX0_isTemptedBy 86 = .ok (.ireturn, 1) := by decide +kernel
theorem dX0_isTemptedBy_87 : decode cX0_isTemptedBy 87 = .ok (.aload_n 0, 1) := by decide +kernel
theorem dX0_isTemptedBy_88 : decode cX0_isTemptedBy 88 = .ok (.getfield 21, 3) := by decide +kernel
theorem dX0_isTemptedBy_91 : decode cX0_isTemptedBy 91 = .ok (.bipush 80, 2) := by decide +kernel
theorem dX0_isTemptedBy_93 : decode cX0_isTemptedBy 93 = .ok (.if_icmp .lt 7, 3) := by decide +kernel
theorem dX0_isTemptedBy_96 : decode cX0_isTemptedBy 96 = .ok (.iconst 1, 1) := by decide +kernel
theorem dX0_isTemptedBy_97 : decode cX0_isTemptedBy 97 = .ok (.goto 4, 3) := by decide +kernel
theorem dX0_isTemptedBy_100 : decode cX0_isTemptedBy 100 = .ok (.iconst 0, 1) := by decide +kernel
theorem dX0_isTemptedBy_101 : decode cX0_isTemptedBy 101 = .ok (.ireturn, 1) := by decide +kernel
theorem dX0_farFrom_0 : decode cX0_farFrom 0 = .ok (.aload_n 0, 1) := by decide +kernel
theorem dX0_farFrom_1 : decode cX0_farFrom 1 = .ok (.getfield 15, 3) := by decide +kernel
theorem dX0_farFrom_4 : decode cX0_farFrom 4 = .ok (.iload_n 1, 1) := by decide +kernel
theorem dX0_farFrom_5 : decode cX0_farFrom 5 = .ok (.isub, 1) := by decide +kernel
theorem dX0_farFrom_6 : decode cX0_farFrom 6 = .ok (.invokestatic 52, 3) := by decide +kernel
theorem dX0_farFrom_9 : decode cX0_farFrom 9 = .ok (.ireturn, 1) := by decide +kernel
theorem dX0_isFor_0 : decode cX0_isFor 0 = .ok (.aload_n 0, 1) := by decide +kernel
theorem dX0_isFor_1 : decode cX0_isFor 1 = .ok (.getfield 18, 3) := by decide +kernel
theorem dX0_isFor_4 : decode cX0_isFor 4 = .ok (.iload_n 1, 1) := by decide +kernel
theorem dX0_isFor_5 : decode cX0_isFor 5 = .ok (.ishr, 1) := by decide +kernel
theorem dX0_isFor_6 : decode cX0_isFor 6 = .ok (.iconst 1, 1) := by decide +kernel
theorem dX0_isFor_7 : decode cX0_isFor 7 = .ok (.iand, 1) := by decide +kernel
theorem dX0_isFor_8 : decode cX0_isFor 8 = .ok (.iconst 1, 1) := by decide +kernel
theorem dX0_isFor_9 : decode cX0_isFor 9 = .ok (.if_icmp .ne 7, 3) := by decide +kernel
theorem dX0_isFor_12 : decode cX0_isFor 12 = .ok (.iconst 1, 1) := by decide +kernel
theorem dX0_isFor_13 : decode cX0_isFor 13 = .ok (.goto 4, 3) := by decide +kernel
theorem dX0_isFor_16 : decode cX0_isFor 16 = .ok (.iconst 0, 1) := by decide +kernel
theorem dX0_isFor_17 : decode cX0_isFor 17 = .ok (.ireturn, 1) := by decide +kernel
set_option maxRecDepth 20000 in
theorem ggX0_isOf_X5_isKind : GoodIn wsX0_isOf wsX5_isKind := goodIn_r _ [4, 5, 6, 3, 7] (by decide +kernel) (by decide +kernel)
set_option maxRecDepth 20000 in
theorem gX0_isOf_X5_isKind_n57 : GoodIn wsX0_isOf (wsX5_isKind) := ggX0_isOf_X5_isKind
theorem dX0_isOf_0 : decode cX0_isOf 0 = .ok (.aload_n 0, 1) := by decide +kernel
theorem dX0_isOf_1 : decode cX0_isOf 1 = .ok (.getfield 9, 3) := by decide +kernel
theorem dX0_isOf_4 : decode cX0_isOf 4 = .ok (.istore_n 2, 1) := by decide +kernel
theorem dX0_isOf_5 : decode cX0_isOf 5 = .ok (.iconst 0, 1) := by decide +kernel
theorem dX0_isOf_6 : decode cX0_isOf 6 = .ok (.istore_n 3, 1) := by decide +kernel
theorem dX0_isOf_7 : decode cX0_isOf 7 = .ok (.iload_n 3, 1) := by decide +kernel
theorem dX0_isOf_8 : decode cX0_isOf 8 = .ok (.bipush 7, 2) := by decide +kernel
theorem dX0_isOf_10 : decode cX0_isOf 10 = .ok (.if_icmp .ge 29, 3) := by decide +kernel
theorem dX0_isOf_13 : decode cX0_isOf 13 = .ok (.iload_n 2, 1) := by decide +kernel
theorem dX0_isOf_14 : decode cX0_isOf 14 = .ok (.invokestatic 57, 3) := by decide +kernel
theorem dX0_isOf_17 : decode cX0_isOf 17 = .ok (.ifCond .eq 22, 3) := by decide +kernel
theorem dX0_isOf_20 : decode cX0_isOf 20 = .ok (.iload_n 2, 1) := by decide +kernel
theorem dX0_isOf_21 : decode cX0_isOf 21 = .ok (.iload_n 1, 1) := by decide +kernel
theorem dX0_isOf_22 : decode cX0_isOf 22 = .ok (.if_icmp .ne 5, 3) := by decide +kernel
theorem dX0_isOf_25 : decode cX0_isOf 25 = .ok (.iconst 1, 1) := by decide +kernel
theorem dX0_isOf_26 : decode cX0_isOf 26 = .ok (.ireturn, 1) := by decide +kernel
theorem dX0_isOf_27 : decode cX0_isOf 27 = .ok (.getstatic 61, 3) := by decide +kernel
theorem dX0_isOf_30 : decode cX0_isOf 30 = .ok (.iload_n 2, 1) := by decide +kernel
theorem dX0_isOf_31 : decode cX0_isOf 31 = .ok (.iaload, 1) := by decide +kernel
theorem dX0_isOf_32 : decode cX0_isOf 32 = .ok (.istore_n 2, 1) := by decide +kernel
theorem dX0_isOf_33 : decode cX0_isOf 33 = .ok (.iinc 3 1, 3) := by decide +kernel
theorem dX0_isOf_36 : decode cX0_isOf 36 = .ok (.goto (-29), 3) := by decide +kernel
theorem dX0_isOf_39 : decode cX0_isOf 39 = .ok (.iconst 0, 1) := by decide +kernel
theorem dX0_isOf_40 : decode cX0_isOf 40 = .ok (.ireturn, 1) := by decide +kernel
set_option maxRecDepth 20000 in
theorem ggX0_heeds_X0_farFrom : GoodIn wsX0_heeds wsX0_farFrom := goodIn_r _ [5, 6, 7, 8, 9, 10, 17, 18, 19, 20, 21, 22] (by decide +kernel) (by decide +kernel)
set_option maxRecDepth 20000 in
theorem gX0_heeds_X0_farFrom : GoodIn wsX0_heeds (wsV RX0 44 RX0 yX0_farFrom wsX0_farFrom) := goodIn_app (goodIn_of _ (by decide +kernel)) ggX0_heeds_X0_farFrom
set_option maxRecDepth 20000 in
theorem ggX0_heeds_X0_hearing : GoodIn wsX0_heeds wsX0_hearing := goodIn_r _ [14, 15, 16, 17, 18, 19, 20, 21, 22] (by decide +kernel) (by decide +kernel)
set_option maxRecDepth 20000 in
theorem gX0_heeds_X0_hearing : GoodIn wsX0_heeds (wsV RX0 30 RX0 yX0_hearing wsX0_hearing) := goodIn_app (goodIn_of _ (by decide +kernel)) ggX0_heeds_X0_hearing
theorem dX0_heeds_0 : decode cX0_heeds 0 = .ok (.aload_n 0, 1) := by decide +kernel
theorem dX0_heeds_1 : decode cX0_heeds 1 = .ok (.iload_n 1, 1) := by decide +kernel
theorem dX0_heeds_2 : decode cX0_heeds 2 = .ok (.invokevirtual 44, 3) := by decide +kernel
theorem dX0_heeds_5 : decode cX0_heeds 5 = .ok (.aload_n 0, 1) := by decide +kernel
theorem dX0_heeds_6 : decode cX0_heeds 6 = .ok (.iload_n 2, 1) := by decide +kernel
theorem dX0_heeds_7 : decode cX0_heeds 7 = .ok (.invokevirtual 30, 3) := by decide +kernel
theorem dX0_heeds_10 : decode cX0_heeds 10 = .ok (.if_icmp .gt 7, 3) := by decide +kernel
theorem dX0_heeds_13 : decode cX0_heeds 13 = .ok (.iconst 1, 1) := by decide +kernel
theorem dX0_heeds_14 : decode cX0_heeds 14 = .ok (.goto 4, 3) := by decide +kernel
theorem dX0_heeds_17 : decode cX0_heeds 17 = .ok (.iconst 0, 1) := by decide +kernel
theorem dX0_heeds_18 : decode cX0_heeds 18 = .ok (.ireturn, 1) := by decide +kernel
set_option maxRecDepth 20000 in
theorem ggX0_comesFor_X0_isFor : GoodIn wsX0_comesFor wsX0_isFor := goodIn_r _ [7, 8, 32, 33, 34, 35, 36, 37] (by decide +kernel) (by decide +kernel)
set_option maxRecDepth 20000 in
theorem gX0_comesFor_X0_isFor : GoodIn wsX0_comesFor (wsV RX0 65 RX0 yX0_isFor wsX0_isFor) := goodIn_app (goodIn_of _ (by decide +kernel)) ggX0_comesFor_X0_isFor
set_option maxRecDepth 20000 in
theorem ggX0_comesFor_X0_trust : GoodIn wsX0_comesFor wsX0_trust := goodIn_r _ [12, 13, 14, 32, 33, 34, 35, 36, 37] (by decide +kernel) (by decide +kernel)
set_option maxRecDepth 20000 in
theorem gX0_comesFor_X0_trust : GoodIn wsX0_comesFor (wsV RX0 34 RX0 yX0_trust wsX0_trust) := goodIn_app (goodIn_of _ (by decide +kernel)) ggX0_comesFor_X0_trust
set_option maxRecDepth 20000 in
theorem ggX0_comesFor_X0_heeds : GoodIn wsX0_comesFor wsX0_heeds := goodIn_r _ [18, 19, 20, 21, 6, 22, 23, 24, 25, 26, 27, 28, 29, 30, 31, 13, 2, 32, 33, 34, 35, 36, 37] (by decide +kernel) (by decide +kernel)
set_option maxRecDepth 20000 in
theorem gX0_comesFor_X0_heeds : GoodIn wsX0_comesFor (wsV RX0 68 RX0 yX0_heeds wsX0_heeds) := goodIn_app (goodIn_of _ (by decide +kernel)) ggX0_comesFor_X0_heeds
theorem dX0_comesFor_0 : decode cX0_comesFor 0 = .ok (.aload_n 0, 1) := by decide +kernel
theorem dX0_comesFor_1 : decode cX0_comesFor 1 = .ok (.getfield 27, 3) := by decide +kernel
theorem dX0_comesFor_4 : decode cX0_comesFor 4 = .ok (.ifCond .ne 35, 3) := by decide +kernel
theorem dX0_comesFor_7 : decode cX0_comesFor 7 = .ok (.aload_n 0, 1) := by decide +kernel
theorem dX0_comesFor_8 : decode cX0_comesFor 8 = .ok (.iload_n 1, 1) := by decide +kernel
theorem dX0_comesFor_9 : decode cX0_comesFor 9 = .ok (.invokevirtual 65, 3) := by decide +kernel
theorem dX0_comesFor_12 : decode cX0_comesFor 12 = .ok (.ifCond .eq 27, 3) := by decide +kernel
theorem dX0_comesFor_15 : decode cX0_comesFor 15 = .ok (.aload_n 0, 1) := by decide +kernel
theorem dX0_comesFor_16 : decode cX0_comesFor 16 = .ok (.getfield 21, 3) := by decide +kernel
theorem dX0_comesFor_19 : decode cX0_comesFor 19 = .ok (.aload_n 0, 1) := by decide +kernel
theorem dX0_comesFor_20 : decode cX0_comesFor 20 = .ok (.invokevirtual 34, 3) := by decide +kernel
theorem dX0_comesFor_23 : decode cX0_comesFor 23 = .ok (.if_icmp .lt 16, 3) := by decide +kernel
theorem dX0_comesFor_26 : decode cX0_comesFor 26 = .ok (.aload_n 0, 1) := by decide +kernel
theorem dX0_comesFor_27 : decode cX0_comesFor 27 = .ok (.iload_n 2, 1) := by decide +kernel
theorem dX0_comesFor_28 : decode cX0_comesFor 28 = .ok (.iload_n 3, 1) := by decide +kernel
theorem dX0_comesFor_29 : decode cX0_comesFor 29 = .ok (.invokevirtual 68, 3) := by decide +kernel
theorem dX0_comesFor_32 : decode cX0_comesFor 32 = .ok (.ifCond .eq 7, 3) := by decide +kernel
theorem dX0_comesFor_35 : decode cX0_comesFor 35 = .ok (.iconst 1, 1) := by decide +kernel
theorem dX0_comesFor_36 : decode cX0_comesFor 36 = .ok (.goto 4, 3) := by decide +kernel
theorem dX0_comesFor_39 : decode cX0_comesFor 39 = .ok (.iconst 0, 1) := by decide +kernel
theorem dX0_comesFor_40 : decode cX0_comesFor 40 = .ok (.ireturn, 1) := by decide +kernel
set_option maxRecDepth 20000 in
theorem ggX0_standOnTheStep_X0_loss : GoodIn wsX0_standOnTheStep wsX0_loss := goodIn_r _ [14, 15, 16, 17, 18, 19, 20, 21, 22, 23, 24, 25, 26, 27, 28, 29] (by decide +kernel) (by decide +kernel)
set_option maxRecDepth 20000 in
theorem gX0_standOnTheStep_X0_loss : GoodIn wsX0_standOnTheStep (wsV RX0 38 RX0 yX0_loss wsX0_loss) := goodIn_app (goodIn_of _ (by decide +kernel)) ggX0_standOnTheStep_X0_loss
theorem dX0_standOnTheStep_0 : decode cX0_standOnTheStep 0 = .ok (.aload_n 0, 1) := by decide +kernel
theorem dX0_standOnTheStep_1 : decode cX0_standOnTheStep 1 = .ok (.sipush 9999, 3) := by decide +kernel
theorem dX0_standOnTheStep_4 : decode cX0_standOnTheStep 4 = .ok (.aload_n 0, 1) := by decide +kernel
theorem dX0_standOnTheStep_5 : decode cX0_standOnTheStep 5 = .ok (.getfield 24, 3) := by decide +kernel
theorem dX0_standOnTheStep_8 : decode cX0_standOnTheStep 8 = .ok (.iconst 1, 1) := by decide +kernel
theorem dX0_standOnTheStep_9 : decode cX0_standOnTheStep 9 = .ok (.iadd, 1) := by decide +kernel
theorem dX0_standOnTheStep_10 : decode cX0_standOnTheStep 10 = .ok (.invokestatic 72, 3) := by decide +kernel
theorem dX0_standOnTheStep_13 : decode cX0_standOnTheStep 13 = .ok (.putfield 24, 3) := by decide +kernel
theorem dX0_standOnTheStep_16 : decode cX0_standOnTheStep 16 = .ok (.aload_n 0, 1) := by decide +kernel
theorem dX0_standOnTheStep_17 : decode cX0_standOnTheStep 17 = .ok (.iconst 0, 1) := by decide +kernel
theorem dX0_standOnTheStep_18 : decode cX0_standOnTheStep 18 = .ok (.aload_n 0, 1) := by decide +kernel
theorem dX0_standOnTheStep_19 : decode cX0_standOnTheStep 19 = .ok (.getfield 21, 3) := by decide +kernel
theorem dX0_standOnTheStep_22 : decode cX0_standOnTheStep 22 = .ok (.aload_n 0, 1) := by decide +kernel
theorem dX0_standOnTheStep_23 : decode cX0_standOnTheStep 23 = .ok (.invokevirtual 38, 3) := by decide +kernel
theorem dX0_standOnTheStep_26 : decode cX0_standOnTheStep 26 = .ok (.isub, 1) := by decide +kernel
theorem dX0_standOnTheStep_27 : decode cX0_standOnTheStep 27 = .ok (.invokestatic 76, 3) := by decide +kernel
theorem dX0_standOnTheStep_30 : decode cX0_standOnTheStep 30 = .ok (.putfield 21, 3) := by decide +kernel
theorem dX0_standOnTheStep_33 : decode cX0_standOnTheStep 33 = .ok (.return_, 1) := by decide +kernel
set_option maxRecDepth 20000 in
theorem ggX0_stayIn_X0_isFor : GoodIn wsX0_stayIn wsX0_isFor := goodIn_r _ [11, 1, 37, 38, 39, 40, 41, 42] (by decide +kernel) (by decide +kernel)
set_option maxRecDepth 20000 in
theorem gX0_stayIn_X0_isFor : GoodIn wsX0_stayIn (wsV RX0 65 RX0 yX0_isFor wsX0_isFor) := goodIn_app (goodIn_of _ (by decide +kernel)) ggX0_stayIn_X0_isFor
set_option maxRecDepth 20000 in
theorem ggX0_stayIn_X0_heeds : GoodIn wsX0_stayIn wsX0_heeds := goodIn_r _ [15, 16, 17, 18, 10, 19, 20, 21, 22, 5, 23, 24, 25, 26, 27, 28, 2, 37, 38, 39, 40, 41, 42] (by decide +kernel) (by decide +kernel)
set_option maxRecDepth 20000 in
theorem gX0_stayIn_X0_heeds : GoodIn wsX0_stayIn (wsV RX0 68 RX0 yX0_heeds wsX0_heeds) := goodIn_app (goodIn_of _ (by decide +kernel)) ggX0_stayIn_X0_heeds
set_option maxRecDepth 20000 in
theorem ggX0_stayIn_X0_isTemptedBy : GoodIn wsX0_stayIn wsX0_isTemptedBy := goodIn_r _ [32, 28, 1, 2, 37, 38, 39, 40, 41, 42] (by decide +kernel) (by decide +kernel)
set_option maxRecDepth 20000 in
theorem gX0_stayIn_X0_isTemptedBy : GoodIn wsX0_stayIn (wsV RX0 79 RX0 yX0_isTemptedBy wsX0_isTemptedBy) := goodIn_app (goodIn_of _ (by decide +kernel)) ggX0_stayIn_X0_isTemptedBy
set_option maxRecDepth 20000 in
theorem ggX0_stayIn_X0_mending : GoodIn wsX0_stayIn wsX0_mending := goodIn_r _ [36, 28, 37, 38, 39, 40, 41, 42] (by decide +kernel) (by decide +kernel)
set_option maxRecDepth 20000 in
theorem gX0_stayIn_X0_mending : GoodIn wsX0_stayIn (wsV RX0 41 RX0 yX0_mending wsX0_mending) := goodIn_app (goodIn_of _ (by decide +kernel)) ggX0_stayIn_X0_mending
theorem dX0_stayIn_0 : decode cX0_stayIn 0 = .ok (.aload_n 0, 1) := by decide +kernel
theorem dX0_stayIn_1 : decode cX0_stayIn 1 = .ok (.iload_n 1, 1) := by decide +kernel
theorem dX0_stayIn_2 : decode cX0_stayIn 2 = .ok (.invokevirtual 65, 3) := by decide +kernel
theorem dX0_stayIn_5 : decode cX0_stayIn 5 = .ok (.ifCond .ne 32, 3) := by decide +kernel
theorem dX0_stayIn_8 : decode cX0_stayIn 8 = .ok (.aload_n 0, 1) := by decide +kernel
theorem dX0_stayIn_9 : decode cX0_stayIn 9 = .ok (.iload_n 2, 1) := by decide +kernel
theorem dX0_stayIn_10 : decode cX0_stayIn 10 = .ok (.iload_n 3, 1) := by decide +kernel
theorem dX0_stayIn_11 : decode cX0_stayIn 11 = .ok (.invokevirtual 68, 3) := by decide +kernel
theorem dX0_stayIn_14 : decode cX0_stayIn 14 = .ok (.ifCond .eq 23, 3) := by decide +kernel
theorem dX0_stayIn_17 : decode cX0_stayIn 17 = .ok (.aload_n 0, 1) := by decide +kernel
theorem dX0_stayIn_18 : decode cX0_stayIn 18 = .ok (.iload_n 1, 1) := by decide +kernel
theorem dX0_stayIn_19 : decode cX0_stayIn 19 = .ok (.invokevirtual 79, 3) := by decide +kernel
theorem dX0_stayIn_22 : decode cX0_stayIn 22 = .ok (.ifCond .eq 15, 3) := by decide +kernel
theorem dX0_stayIn_25 : decode cX0_stayIn 25 = .ok (.aload_n 0, 1) := by decide +kernel
theorem dX0_stayIn_26 : decode cX0_stayIn 26 = .ok (.dup, 1) := by decide +kernel
theorem dX0_stayIn_27 : decode cX0_stayIn 27 = .ok (.getfield 18, 3) := by decide +kernel
theorem dX0_stayIn_30 : decode cX0_stayIn 30 = .ok (.iconst 1, 1) := by decide +kernel
theorem dX0_stayIn_31 : decode cX0_stayIn 31 = .ok (.iload_n 1, 1) := by decide +kernel
theorem dX0_stayIn_32 : decode cX0_stayIn 32 = .ok (.ishl, 1) := by decide +kernel
theorem dX0_stayIn_33 : decode cX0_stayIn 33 = .ok (.ior, 1) := by decide +kernel
theorem dX0_stayIn_34 : decode cX0_stayIn 34 = .ok (.putfield 18, 3) := by decide +kernel
theorem dX0_stayIn_37 : decode cX0_stayIn 37 = .ok (.aload_n 0, 1) := by decide +kernel
theorem dX0_stayIn_38 : decode cX0_stayIn 38 = .ok (.bipush 99, 2) := by decide +kernel
theorem dX0_stayIn_40 : decode cX0_stayIn 40 = .ok (.aload_n 0, 1) := by decide +kernel
theorem dX0_stayIn_41 : decode cX0_stayIn 41 = .ok (.getfield 21, 3) := by decide +kernel
theorem dX0_stayIn_44 : decode cX0_stayIn 44 = .ok (.aload_n 0, 1) := by decide +kernel
theorem dX0_stayIn_45 : decode cX0_stayIn 45 = .ok (.invokevirtual 41, 3) := by decide +kernel
theorem dX0_stayIn_48 : decode cX0_stayIn 48 = .ok (.iadd, 1) := by decide +kernel
theorem dX0_stayIn_49 : decode cX0_stayIn 49 = .ok (.invokestatic 72, 3) := by decide +kernel
theorem dX0_stayIn_52 : decode cX0_stayIn 52 = .ok (.putfield 21, 3) := by decide +kernel
theorem dX0_stayIn_55 : decode cX0_stayIn 55 = .ok (.return_, 1) := by decide +kernel
theorem dX1_init_0 : decode cX1_init 0 = .ok (.aload_n 0, 1) := by decide +kernel
theorem dX1_init_1 : decode cX1_init 1 = .ok (.invokespecial 3, 3) := by decide +kernel
theorem dX1_init_4 : decode cX1_init 4 = .ok (.aload_n 0, 1) := by decide +kernel
theorem dX1_init_5 : decode cX1_init 5 = .ok (.iconst 0, 1) := by decide +kernel
theorem dX1_init_6 : decode cX1_init 6 = .ok (.putfield 9, 3) := by decide +kernel
theorem dX1_init_9 : decode cX1_init 9 = .ok (.aload_n 0, 1) := by decide +kernel
theorem dX1_init_10 : decode cX1_init 10 = .ok (.iconst 0, 1) := by decide +kernel
theorem dX1_init_11 : decode cX1_init 11 = .ok (.putfield 15, 3) := by decide +kernel
theorem dX1_init_14 : decode cX1_init 14 = .ok (.aload_n 0, 1) := by decide +kernel
theorem dX1_init_15 : decode cX1_init 15 = .ok (.bipush 40, 2) := by decide +kernel
theorem dX1_init_17 : decode cX1_init 17 = .ok (.newarray .int, 2) := by decide +kernel
theorem dX1_init_19 : decode cX1_init 19 = .ok (.putfield 18, 3) := by decide +kernel
theorem dX1_init_22 : decode cX1_init 22 = .ok (.return_, 1) := by decide +kernel
theorem dX1_isMissing_0 : decode cX1_isMissing 0 = .ok (.aload_n 0, 1) := by decide +kernel
theorem dX1_isMissing_1 : decode cX1_isMissing 1 = .ok (.getfield 9, 3) := by decide +kernel
theorem dX1_isMissing_4 : decode cX1_isMissing 4 = .ok (.ifCond .ne 7, 3) := by decide +kernel
theorem dX1_isMissing_7 : decode cX1_isMissing 7 = .ok (.iconst 1, 1) := by decide +kernel
theorem dX1_isMissing_8 : decode cX1_isMissing 8 = .ok (.goto 4, 3) := by decide +kernel
theorem dX1_isMissing_11 : decode cX1_isMissing 11 = .ok (.iconst 0, 1) := by decide +kernel
theorem dX1_isMissing_12 : decode cX1_isMissing 12 = .ok (.ireturn, 1) := by decide +kernel
set_option maxRecDepth 20000 in
theorem ggX1_makeAnew_J7_fill_53178 : GoodIn wsX1_makeAnew wsJ7_fill_53178 := goodIn_r _ [7] (by decide +kernel) (by decide +kernel)
set_option maxRecDepth 20000 in
theorem gX1_makeAnew_J7_fill_53178 : GoodIn wsX1_makeAnew (va_wsS RX1 22 yJ7_fill_53178 wsJ7_fill_53178) := goodIn_app (goodIn_of _ (by decide +kernel)) ggX1_makeAnew_J7_fill_53178
theorem dX1_makeAnew_0 : decode cX1_makeAnew 0 = .ok (.aload_n 0, 1) := by decide +kernel
theorem dX1_makeAnew_1 : decode cX1_makeAnew 1 = .ok (.iload_n 1, 1) := by decide +kernel
theorem dX1_makeAnew_2 : decode cX1_makeAnew 2 = .ok (.putfield 9, 3) := by decide +kernel
theorem dX1_makeAnew_5 : decode cX1_makeAnew 5 = .ok (.aload_n 0, 1) := by decide +kernel
theorem dX1_makeAnew_6 : decode cX1_makeAnew 6 = .ok (.iload_n 1, 1) := by decide +kernel
theorem dX1_makeAnew_7 : decode cX1_makeAnew 7 = .ok (.ifCond .ne 7, 3) := by decide +kernel
theorem dX1_makeAnew_10 : decode cX1_makeAnew 10 = .ok (.iconst 0, 1) := by decide +kernel
theorem dX1_makeAnew_11 : decode cX1_makeAnew 11 = .ok (.goto 4, 3) := by decide +kernel
theorem dX1_makeAnew_14 : decode cX1_makeAnew 14 = .ok (.iload_n 2, 1) := by decide +kernel
theorem dX1_makeAnew_15 : decode cX1_makeAnew 15 = .ok (.putfield 15, 3) := by decide +kernel
theorem dX1_makeAnew_18 : decode cX1_makeAnew 18 = .ok (.aload_n 0, 1) := by decide +kernel
theorem dX1_makeAnew_19 : decode cX1_makeAnew 19 = .ok (.getfield 18, 3) := by decide +kernel
theorem dX1_makeAnew_22 : decode cX1_makeAnew 22 = .ok (.iconst 0, 1) := by decide +kernel
theorem dX1_makeAnew_23 : decode cX1_makeAnew 23 = .ok (.invokestatic 22, 3) := by decide +kernel
theorem dX1_makeAnew_26 : decode cX1_makeAnew 26 = .ok (.return_, 1) := by decide +kernel
theorem dX1_put_0 : decode cX1_put 0 = .ok (.aload_n 0, 1) := by decide +kernel
theorem dX1_put_1 : decode cX1_put 1 = .ok (.getfield 9, 3) := by decide +kernel
theorem dX1_put_4 : decode cX1_put 4 = .ok (.bipush 8, 2) := by decide +kernel
theorem dX1_put_6 : decode cX1_put 6 = .ok (.if_icmp .ne 14, 3) := by decide +kernel
theorem dX1_put_9 : decode cX1_put 9 = .ok (.aload_n 0, 1) := by decide +kernel
theorem dX1_put_10 : decode cX1_put 10 = .ok (.getfield 18, 3) := by decide +kernel
theorem dX1_put_13 : decode cX1_put 13 = .ok (.iload_n 1, 1) := by decide +kernel
theorem dX1_put_14 : decode cX1_put 14 = .ok (.iload_n 2, 1) := by decide +kernel
theorem dX1_put_15 : decode cX1_put 15 = .ok (.i2b, 1) := by decide +kernel
theorem dX1_put_16 : decode cX1_put 16 = .ok (.iastore, 1) := by decide +kernel
theorem dX1_put_17 : decode cX1_put 17 = .ok (.goto 30, 3) := by decide +kernel
theorem dX1_put_20 : decode cX1_put 20 = .ok (.aload_n 0, 1) := by decide +kernel
theorem dX1_put_21 : decode cX1_put 21 = .ok (.getfield 9, 3) := by decide +kernel
theorem dX1_put_24 : decode cX1_put 24 = .ok (.bipush 16, 2) := by decide +kernel
theorem dX1_put_26 : decode cX1_put 26 = .ok (.if_icmp .ne 14, 3) := by decide +kernel
theorem dX1_put_29 : decode cX1_put 29 = .ok (.aload_n 0, 1) := by decide +kernel
theorem dX1_put_30 : decode cX1_put 30 = .ok (.getfield 18, 3) := by decide +kernel
theorem dX1_put_33 : decode cX1_put 33 = .ok (.iload_n 1, 1) := by decide +kernel
theorem dX1_put_34 : decode cX1_put 34 = .ok (.iload_n 2, 1) := by decide +kernel
theorem dX1_put_35 : decode cX1_put 35 = .ok (.i2s, 1) := by decide +kernel
theorem dX1_put_36 : decode cX1_put 36 = .ok (.iastore, 1) := by decide +kernel
theorem dX1_put_37 : decode cX1_put 37 = .ok (.goto 10, 3) := by decide +kernel
theorem dX1_put_40 : decode cX1_put 40 = .ok (.aload_n 0, 1) := by decide +kernel
theorem dX1_put_41 : decode cX1_put 41 = .ok (.getfield 18, 3) := by decide +kernel
theorem dX1_put_44 : decode cX1_put 44 = .ok (.iload_n 1, 1) := by decide +kernel
theorem dX1_put_45 : decode cX1_put 45 = .ok (.iload_n 2, 1) := by decide +kernel
theorem dX1_put_46 : decode cX1_put 46 = .ok (.iastore, 1) := by decide +kernel
theorem dX1_put_47 : decode cX1_put 47 = .ok (.return_, 1) := by decide +kernel
theorem dX1_hasRow_0 : decode cX1_hasRow 0 = .ok (.iload_n 1, 1) := by decide +kernel
theorem dX1_hasRow_1 : decode cX1_hasRow 1 = .ok (.ifCond .lt 21, 3) := by decide +kernel
theorem dX1_hasRow_4 : decode cX1_hasRow 4 = .ok (.iload_n 2, 1) := by decide +kernel
theorem dX1_hasRow_5 : decode cX1_hasRow 5 = .ok (.ifCond .lt 17, 3) := by decide +kernel
theorem dX1_hasRow_8 : decode cX1_hasRow 8 = .ok (.iload_n 2, 1) := by decide +kernel
theorem dX1_hasRow_9 : decode cX1_hasRow 9 = .ok (.aload_n 0, 1) := by decide +kernel
theorem dX1_hasRow_10 : decode cX1_hasRow 10 = .ok (.getfield 15, 3) := by decide +kernel
theorem dX1_hasRow_13 : decode cX1_hasRow 13 = .ok (.iload_n 1, 1) := by decide +kernel
theorem dX1_hasRow_14 : decode cX1_hasRow 14 = .ok (.isub, 1) := by decide +kernel
theorem dX1_hasRow_15 : decode cX1_hasRow 15 = .ok (.if_icmp .gt 7, 3) := by decide +kernel
theorem dX1_hasRow_18 : decode cX1_hasRow 18 = .ok (.iconst 1, 1) := by decide +kernel
theorem dX1_hasRow_19 : decode cX1_hasRow 19 = .ok (.goto 4, 3) := by decide +kernel
theorem dX1_hasRow_22 : decode cX1_hasRow 22 = .ok (.iconst 0, 1) := by decide +kernel
theorem dX1_hasRow_23 : decode cX1_hasRow 23 = .ok (.ireturn, 1) := by decide +kernel
set_option maxRecDepth 20000 in
theorem ggX2_init_X0_init : GoodIn wsX2_init wsX0_init := goodIn_r _ [20, 21, 2, 3, 22, 23, 24, 25, 26, 27, 43, 44, 45, 46, 47, 48] (by decide +kernel) (by decide +kernel)
set_option maxRecDepth 20000 in
theorem gX2_init_X0_init_n49 : GoodIn wsX2_init (wsX0_init) := ggX2_init_X0_init
set_option maxRecDepth 20000 in
theorem ggX2_init_J7_fill_53178 : GoodIn wsX2_init wsJ7_fill_53178 := goodIn_r _ [31] (by decide +kernel) (by decide +kernel)
set_option maxRecDepth 20000 in
theorem gX2_init_J7_fill_53178 : GoodIn wsX2_init (va_wsS RX2 50 yJ7_fill_53178 wsJ7_fill_53178) := goodIn_app (goodIn_of _ (by decide +kernel)) ggX2_init_J7_fill_53178
theorem dX2_init_0 : decode cX2_init 0 = .ok (.aload_n 0, 1) := by decide +kernel
theorem dX2_init_1 : decode cX2_init 1 = .ok (.invokespecial 3, 3) := by decide +kernel
theorem dX2_init_4 : decode cX2_init 4 = .ok (.aload_n 0, 1) := by decide +kernel
theorem dX2_init_5 : decode cX2_init 5 = .ok (.iconst 0, 1) := by decide +kernel
theorem dX2_init_6 : decode cX2_init 6 = .ok (.putfield 9, 3) := by decide +kernel
theorem dX2_init_9 : decode cX2_init 9 = .ok (.aload_n 0, 1) := by decide +kernel
theorem dX2_init_10 : decode cX2_init 10 = .ok (.iconst 2, 1) := by decide +kernel
theorem dX2_init_11 : decode cX2_init 11 = .ok (.putfield 15, 3) := by decide +kernel
theorem dX2_init_14 : decode cX2_init 14 = .ok (.aload_n 0, 1) := by decide +kernel
theorem dX2_init_15 : decode cX2_init 15 = .ok (.iconst 4, 1) := by decide +kernel
theorem dX2_init_16 : decode cX2_init 16 = .ok (.putfield 18, 3) := by decide +kernel
theorem dX2_init_19 : decode cX2_init 19 = .ok (.aload_n 0, 1) := by decide +kernel
theorem dX2_init_20 : decode cX2_init 20 = .ok (.bipush 6, 2) := by decide +kernel
theorem dX2_init_22 : decode cX2_init 22 = .ok (.newarray .int, 2) := by decide +kernel
theorem dX2_init_24 : decode cX2_init 24 = .ok (.dup, 1) := by decide +kernel
theorem dX2_init_25 : decode cX2_init 25 = .ok (.iconst 0, 1) := by decide +kernel
theorem dX2_init_26 : decode cX2_init 26 = .ok (.iconst 0, 1) := by decide +kernel
theorem dX2_init_27 : decode cX2_init 27 = .ok (.iastore, 1) := by decide +kernel
theorem dX2_init_28 : decode cX2_init 28 = .ok (.dup, 1) := by decide +kernel
theorem dX2_init_29 : decode cX2_init 29 = .ok (.iconst 1, 1) := by decide +kernel
theorem dX2_init_30 : decode cX2_init 30 = .ok (.iconst 1, 1) := by decide +kernel
theorem dX2_init_31 : decode cX2_init 31 = .ok (.iastore, 1) := by decide +kernel
theorem dX2_init_32 : decode cX2_init 32 = .ok (.dup, 1) := by decide +kernel
theorem dX2_init_33 : decode cX2_init 33 = .ok (.iconst 2, 1) := by decide +kernel
theorem dX2_init_34 : decode cX2_init 34 = .ok (.iconst 2, 1) := by decide +kernel
theorem dX2_init_35 : decode cX2_init 35 = .ok (.iastore, 1) := by decide +kernel
theorem dX2_init_36 : decode cX2_init 36 = .ok (.dup, 1) := by decide +kernel
theorem dX2_init_37 : decode cX2_init 37 = .ok (.iconst 3, 1) := by decide +kernel
theorem dX2_init_38 : decode cX2_init 38 = .ok (.iconst 3, 1) := by decide +kernel
theorem dX2_init_39 : decode cX2_init 39 = .ok (.iastore, 1) := by decide +kernel
theorem dX2_init_40 : decode cX2_init 40 = .ok (.dup, 1) := by decide +kernel
theorem dX2_init_41 : decode cX2_init 41 = .ok (.iconst 4, 1) := by decide +kernel
theorem dX2_init_42 : decode cX2_init 42 = .ok (.iconst 4, 1) := by decide +kernel
theorem dX2_init_43 : decode cX2_init 43 = .ok (.iastore, 1) := by decide +kernel
theorem dX2_init_44 : decode cX2_init 44 = .ok (.dup, 1) := by decide +kernel
theorem dX2_init_45 : decode cX2_init 45 = .ok (.iconst 5, 1) := by decide +kernel
theorem dX2_init_46 : decode cX2_init 46 = .ok (.iconst 5, 1) := by decide +kernel
theorem dX2_init_47 : decode cX2_init 47 = .ok (.iastore, 1) := by decide +kernel
theorem dX2_init_48 : decode cX2_init 48 = .ok (.putfield 21, 3) := by decide +kernel
theorem dX2_init_51 : decode cX2_init 51 = .ok (.aload_n 0, 1) := by decide +kernel
theorem dX2_init_52 : decode cX2_init 52 = .ok (.bipush 12, 2) := by decide +kernel
theorem dX2_init_54 : decode cX2_init 54 = .ok (.newarray .int, 2) := by decide +kernel
theorem dX2_init_56 : decode cX2_init 56 = .ok (.putfield 25, 3) := by decide +kernel
theorem dX2_init_59 : decode cX2_init 59 = .ok (.aload_n 0, 1) := by decide +kernel
theorem dX2_init_60 : decode cX2_init 60 = .ok (.iconst 0, 1) := by decide +kernel
theorem dX2_init_61 : decode cX2_init 61 = .ok (.putfield 28, 3) := by decide +kernel
theorem dX2_init_64 : decode cX2_init 64 = .ok (.aload_n 0, 1) := by decide +kernel
theorem dX2_init_65 : decode cX2_init 65 = .ok (.iconst 0, 1) := by decide +kernel
theorem dX2_init_66 : decode cX2_init 66 = .ok (.putfield 31, 3) := by decide +kernel
theorem dX2_init_69 : decode cX2_init 69 = .ok (.aload_n 0, 1) := by decide +kernel
theorem dX2_init_70 : decode cX2_init 70 = .ok (.iconst 1, 1) := by decide +kernel
theorem dX2_init_71 : decode cX2_init 71 = .ok (.putfield 34, 3) := by decide +kernel
theorem dX2_init_74 : decode cX2_init 74 = .ok (.aload_n 0, 1) := by decide +kernel
theorem dX2_init_75 : decode cX2_init 75 = .ok (.iconst 0, 1) := by decide +kernel
theorem dX2_init_76 : decode cX2_init 76 = .ok (.putfield 37, 3) := by decide +kernel
theorem dX2_init_79 : decode cX2_init 79 = .ok (.aload_n 0, 1) := by decide +kernel
theorem dX2_init_80 : decode cX2_init 80 = .ok (.bipush 8, 2) := by decide +kernel
theorem dX2_init_82 : decode cX2_init 82 = .ok (.anewarray 40, 3) := by decide +kernel
theorem dX2_init_85 : decode cX2_init 85 = .ok (.putfield 42, 3) := by decide +kernel
theorem dX2_init_88 : decode cX2_init 88 = .ok (.aload_n 0, 1) := by decide +kernel
theorem dX2_init_89 : decode cX2_init 89 = .ok (.bipush 10, 2) := by decide +kernel
theorem dX2_init_91 : decode cX2_init 91 = .ok (.newarray .int, 2) := by decide +kernel
theorem dX2_init_93 : decode cX2_init 93 = .ok (.putfield 46, 3) := by decide +kernel
theorem dX2_init_96 : decode cX2_init 96 = .ok (.iconst 0, 1) := by decide +kernel
theorem dX2_init_97 : decode cX2_init 97 = .ok (.istore_n 1, 1) := by decide +kernel
theorem dX2_init_98 : decode cX2_init 98 = .ok (.iload_n 1, 1) := by decide +kernel
theorem dX2_init_99 : decode cX2_init 99 = .ok (.bipush 8, 2) := by decide +kernel
theorem dX2_init_101 : decode cX2_init 101 = .ok (.if_icmp .ge 22, 3) := by decide +kernel
theorem dX2_init_104 : decode cX2_init 104 = .ok (.aload_n 0, 1) := by decide +kernel
theorem dX2_init_105 : decode cX2_init 105 = .ok (.getfield 42, 3) := by decide +kernel
theorem dX2_init_108 : decode cX2_init 108 = .ok (.iload_n 1, 1) := by decide +kernel
theorem dX2_init_109 : decode cX2_init 109 = .ok (.new 40, 3) := by decide +kernel
theorem dX2_init_112 : decode cX2_init 112 = .ok (.dup, 1) := by decide +kernel
theorem dX2_init_113 : decode cX2_init 113 = .ok (.invokespecial 49, 3) := by decide +kernel
theorem dX2_init_116 : decode cX2_init 116 = .ok (.aastore, 1) := by decide +kernel
theorem dX2_init_117 : decode cX2_init 117 = .ok (.iinc 1 1, 3) := by decide +kernel
theorem dX2_init_120 : decode cX2_init 120 = .ok (.goto (-22), 3) := by decide +kernel
theorem dX2_init_123 : decode cX2_init 123 = .ok (.aload_n 0, 1) := by decide +kernel
theorem dX2_init_124 : decode cX2_init 124 = .ok (.getfield 46, 3) := by decide +kernel
theorem dX2_init_127 : decode cX2_init 127 = .ok (.iconst (-1), 1) := by decide +kernel
theorem dX2_init_128 : decode cX2_init 128 = .ok (.invokestatic 50, 3) := by decide +kernel
theorem dX2_init_131 : decode cX2_init 131 = .ok (.return_, 1) := by decide +kernel
set_option maxRecDepth 20000 in
theorem ggX2_become_X0_become : GoodIn wsX2_become wsX0_become := goodIn_r _ [20, 21, 22, 23, 24, 25, 26, 38, 39, 40, 41, 42, 43] (by decide +kernel) (by decide +kernel)
set_option maxRecDepth 20000 in
theorem gX2_become_X0_become : GoodIn wsX2_become (wsV RX2 62 RX0 yX0_become wsX0_become) := goodIn_app (goodIn_of _ (by decide +kernel)) ggX2_become_X0_become
theorem dX2_become_0 : decode cX2_become 0 = .ok (.aload_n 0, 1) := by decide +kernel
theorem dX2_become_1 : decode cX2_become 1 = .ok (.aload_n 1, 1) := by decide +kernel
theorem dX2_become_2 : decode cX2_become 2 = .ok (.getfield 9, 3) := by decide +kernel
theorem dX2_become_5 : decode cX2_become 5 = .ok (.putfield 9, 3) := by decide +kernel
theorem dX2_become_8 : decode cX2_become 8 = .ok (.aload_n 0, 1) := by decide +kernel
theorem dX2_become_9 : decode cX2_become 9 = .ok (.aload_n 1, 1) := by decide +kernel
theorem dX2_become_10 : decode cX2_become 10 = .ok (.getfield 15, 3) := by decide +kernel
theorem dX2_become_13 : decode cX2_become 13 = .ok (.putfield 15, 3) := by decide +kernel
theorem dX2_become_16 : decode cX2_become 16 = .ok (.aload_n 0, 1) := by decide +kernel
theorem dX2_become_17 : decode cX2_become 17 = .ok (.aload_n 1, 1) := by decide +kernel
theorem dX2_become_18 : decode cX2_become 18 = .ok (.getfield 18, 3) := by decide +kernel
theorem dX2_become_21 : decode cX2_become 21 = .ok (.putfield 18, 3) := by decide +kernel
theorem dX2_become_24 : decode cX2_become 24 = .ok (.aload_n 1, 1) := by decide +kernel
theorem dX2_become_25 : decode cX2_become 25 = .ok (.getfield 21, 3) := by decide +kernel
theorem dX2_become_28 : decode cX2_become 28 = .ok (.iconst 0, 1) := by decide +kernel
theorem dX2_become_29 : decode cX2_become 29 = .ok (.aload_n 0, 1) := by decide +kernel
theorem dX2_become_30 : decode cX2_become 30 = .ok (.getfield 21, 3) := by decide +kernel
theorem dX2_become_33 : decode cX2_become 33 = .ok (.iconst 0, 1) := by decide +kernel
theorem dX2_become_34 : decode cX2_become 34 = .ok (.bipush 6, 2) := by decide +kernel
theorem dX2_become_36 : decode cX2_become 36 = .ok (.invokestatic 56, 3) := by decide +kernel
theorem dX2_become_39 : decode cX2_become 39 = .ok (.aload_n 1, 1) := by decide +kernel
theorem dX2_become_40 : decode cX2_become 40 = .ok (.getfield 25, 3) := by decide +kernel
theorem dX2_become_43 : decode cX2_become 43 = .ok (.iconst 0, 1) := by decide +kernel
theorem dX2_become_44 : decode cX2_become 44 = .ok (.aload_n 0, 1) := by decide +kernel
theorem dX2_become_45 : decode cX2_become 45 = .ok (.getfield 25, 3) := by decide +kernel
theorem dX2_become_48 : decode cX2_become 48 = .ok (.iconst 0, 1) := by decide +kernel
theorem dX2_become_49 : decode cX2_become 49 = .ok (.bipush 12, 2) := by decide +kernel
theorem dX2_become_51 : decode cX2_become 51 = .ok (.invokestatic 56, 3) := by decide +kernel
theorem dX2_become_54 : decode cX2_become 54 = .ok (.aload_n 0, 1) := by decide +kernel
theorem dX2_become_55 : decode cX2_become 55 = .ok (.aload_n 1, 1) := by decide +kernel
theorem dX2_become_56 : decode cX2_become 56 = .ok (.getfield 28, 3) := by decide +kernel
theorem dX2_become_59 : decode cX2_become 59 = .ok (.putfield 28, 3) := by decide +kernel
theorem dX2_become_62 : decode cX2_become 62 = .ok (.aload_n 0, 1) := by decide +kernel
theorem dX2_become_63 : decode cX2_become 63 = .ok (.aload_n 1, 1) := by decide +kernel
theorem dX2_become_64 : decode cX2_become 64 = .ok (.getfield 31, 3) := by decide +kernel
theorem dX2_become_67 : decode cX2_become 67 = .ok (.putfield 31, 3) := by decide +kernel
theorem dX2_become_70 : decode cX2_become 70 = .ok (.aload_n 0, 1) := by decide +kernel
theorem dX2_become_71 : decode cX2_become 71 = .ok (.aload_n 1, 1) := by decide +kernel
theorem dX2_become_72 : decode cX2_become 72 = .ok (.getfield 34, 3) := by decide +kernel
theorem dX2_become_75 : decode cX2_become 75 = .ok (.putfield 34, 3) := by decide +kernel
theorem dX2_become_78 : decode cX2_become 78 = .ok (.aload_n 0, 1) := by decide +kernel
theorem dX2_become_79 : decode cX2_become 79 = .ok (.aload_n 1, 1) := by decide +kernel
theorem dX2_become_80 : decode cX2_become 80 = .ok (.getfield 37, 3) := by decide +kernel
theorem dX2_become_83 : decode cX2_become 83 = .ok (.putfield 37, 3) := by decide +kernel
theorem dX2_become_86 : decode cX2_become 86 = .ok (.iconst 0, 1) := by decide +kernel
theorem dX2_become_87 : decode cX2_become 87 = .ok (.istore_n 2, 1) := by decide +kernel
theorem dX2_become_88 : decode cX2_become 88 = .ok (.iload_n 2, 1) := by decide +kernel
theorem dX2_become_89 : decode cX2_become 89 = .ok (.aload_n 0, 1) := by decide +kernel
theorem dX2_become_90 : decode cX2_become 90 = .ok (.getfield 37, 3) := by decide +kernel
theorem dX2_become_93 : decode cX2_become 93 = .ok (.if_icmp .ge 24, 3) := by decide +kernel
theorem dX2_become_96 : decode cX2_become 96 = .ok (.aload_n 0, 1) := by decide +kernel
theorem dX2_become_97 : decode cX2_become 97 = .ok (.getfield 42, 3) := by decide +kernel
theorem dX2_become_100 : decode cX2_become 100 = .ok (.iload_n 2, 1) := by decide +kernel
theorem dX2_become_101 : decode cX2_become 101 = .ok (.aaload, 1) := by decide +kernel
theorem dX2_become_102 : decode cX2_become 102 = .ok (.aload_n 1, 1) := by decide +kernel
theorem dX2_become_103 : decode cX2_become 103 = .ok (.getfield 42, 3) := by decide +kernel
theorem dX2_become_106 : decode cX2_become 106 = .ok (.iload_n 2, 1) := by decide +kernel
theorem dX2_become_107 : decode cX2_become 107 = .ok (.aaload, 1) := by decide +kernel
theorem dX2_become_108 : decode cX2_become 108 = .ok (.invokevirtual 62, 3) := by decide +kernel
theorem dX2_become_111 : decode cX2_become 111 = .ok (.iinc 2 1, 3) := by decide +kernel
theorem dX2_become_114 : decode cX2_become 114 = .ok (.goto (-26), 3) := by decide +kernel
theorem dX2_become_117 : decode cX2_become 117 = .ok (.aload_n 1, 1) := by decide +kernel
theorem dX2_become_118 : decode cX2_become 118 = .ok (.getfield 46, 3) := by decide +kernel
theorem dX2_become_121 : decode cX2_become 121 = .ok (.iconst 0, 1) := by decide +kernel
theorem dX2_become_122 : decode cX2_become 122 = .ok (.aload_n 0, 1) := by decide +kernel
theorem dX2_become_123 : decode cX2_become 123 = .ok (.getfield 46, 3) := by decide +kernel
theorem dX2_become_126 : decode cX2_become 126 = .ok (.iconst 0, 1) := by decide +kernel
theorem dX2_become_127 : decode cX2_become 127 = .ok (.bipush 10, 2) := by decide +kernel
theorem dX2_become_129 : decode cX2_become 129 = .ok (.invokestatic 56, 3) := by decide +kernel
theorem dX2_become_132 : decode cX2_become 132 = .ok (.return_, 1) := by decide +kernel
theorem dX2_ofCrier_0 : decode cX2_ofCrier 0 = .ok (.iload_n 1, 1) := by decide +kernel
theorem dX2_ofCrier_1 : decode cX2_ofCrier 1 = .ok (.ifCond .ne 8, 3) := by decide +kernel
theorem dX2_ofCrier_4 : decode cX2_ofCrier 4 = .ok (.aload_n 0, 1) := by decide +kernel
theorem dX2_ofCrier_5 : decode cX2_ofCrier 5 = .ok (.getfield 9, 3) := by decide +kernel
theorem dX2_ofCrier_8 : decode cX2_ofCrier 8 = .ok (.ireturn, 1) := by decide +kernel
theorem dX2_ofCrier_9 : decode cX2_ofCrier 9 = .ok (.iload_n 1, 1) := by decide +kernel
theorem dX2_ofCrier_10 : decode cX2_ofCrier 10 = .ok (.iconst 1, 1) := by decide +kernel
theorem dX2_ofCrier_11 : decode cX2_ofCrier 11 = .ok (.if_icmp .ne 10, 3) := by decide +kernel
theorem dX2_ofCrier_14 : decode cX2_ofCrier 14 = .ok (.aload_n 0, 1) := by decide +kernel
theorem dX2_ofCrier_15 : decode cX2_ofCrier 15 = .ok (.getfield 15, 3) := by decide +kernel
theorem dX2_ofCrier_18 : decode cX2_ofCrier 18 = .ok (.goto 7, 3) := by decide +kernel
theorem dX2_ofCrier_21 : decode cX2_ofCrier 21 = .ok (.aload_n 0, 1) := by decide +kernel
theorem dX2_ofCrier_22 : decode cX2_ofCrier 22 = .ok (.getfield 18, 3) := by decide +kernel
theorem dX2_ofCrier_25 : decode cX2_ofCrier 25 = .ok (.ireturn, 1) := by decide +kernel
set_option maxRecDepth 20000 in
theorem ggX2_has_X5_isWithin : GoodIn wsX2_has wsX5_isWithin := goodIn_r _ [4] (by decide +kernel) (by decide +kernel)
set_option maxRecDepth 20000 in
theorem gX2_has_X5_isWithin_n66 : GoodIn wsX2_has (wsX5_isWithin) := ggX2_has_X5_isWithin
theorem dX2_has_0 : decode cX2_has 0 = .ok (.iload_n 1, 1) := by decide +kernel
theorem dX2_has_1 : decode cX2_has 1 = .ok (.iconst 0, 1) := by decide +kernel
theorem dX2_has_2 : decode cX2_has 2 = .ok (.aload_n 0, 1) := by decide +kernel
theorem dX2_has_3 : decode cX2_has 3 = .ok (.getfield 37, 3) := by decide +kernel
theorem dX2_has_6 : decode cX2_has 6 = .ok (.iconst 1, 1) := by decide +kernel
theorem dX2_has_7 : decode cX2_has 7 = .ok (.isub, 1) := by decide +kernel
theorem dX2_has_8 : decode cX2_has 8 = .ok (.invokestatic 66, 3) := by decide +kernel
theorem dX2_has_11 : decode cX2_has 11 = .ok (.ireturn, 1) := by decide +kernel
theorem dX2_isFull_0 : decode cX2_isFull 0 = .ok (.aload_n 0, 1) := by decide +kernel
theorem dX2_isFull_1 : decode cX2_isFull 1 = .ok (.getfield 37, 3) := by decide +kernel
theorem dX2_isFull_4 : decode cX2_isFull 4 = .ok (.bipush 8, 2) := by decide +kernel
theorem dX2_isFull_6 : decode cX2_isFull 6 = .ok (.if_icmp .lt 7, 3) := by decide +kernel
theorem dX2_isFull_9 : decode cX2_isFull 9 = .ok (.iconst 1, 1) := by decide +kernel
theorem dX2_isFull_10 : decode cX2_isFull 10 = .ok (.goto 4, 3) := by decide +kernel
theorem dX2_isFull_13 : decode cX2_isFull 13 = .ok (.iconst 0, 1) := by decide +kernel
theorem dX2_isFull_14 : decode cX2_isFull 14 = .ok (.ireturn, 1) := by decide +kernel
set_option maxRecDepth 20000 in
theorem ggX2_moveIn_X2_isFull : GoodIn wsX2_moveIn wsX2_isFull := goodIn_r _ [7, 2, 19, 20, 21, 22, 23, 24, 25, 26, 27, 28, 29] (by decide +kernel) (by decide +kernel)
set_option maxRecDepth 20000 in
theorem gX2_moveIn_X2_isFull : GoodIn wsX2_moveIn (wsV RX2 70 RX2 yX2_isFull wsX2_isFull) := goodIn_app (goodIn_of _ (by decide +kernel)) ggX2_moveIn_X2_isFull
set_option maxRecDepth 20000 in
theorem ggX2_moveIn_X0_moveInAs : GoodIn wsX2_moveIn wsX0_moveInAs := goodIn_r _ [12, 13, 14, 15, 16, 17, 18, 30, 31, 32, 33, 34, 35] (by decide +kernel) (by decide +kernel)
set_option maxRecDepth 20000 in
theorem gX2_moveIn_X0_moveInAs : GoodIn wsX2_moveIn (wsV RX2 74 RX0 yX0_moveInAs wsX0_moveInAs) := goodIn_app (goodIn_of _ (by decide +kernel)) ggX2_moveIn_X0_moveInAs
theorem dX2_moveIn_0 : decode cX2_moveIn 0 = .ok (.aload_n 0, 1) := by decide +kernel
theorem dX2_moveIn_1 : decode cX2_moveIn 1 = .ok (.invokevirtual 70, 3) := by decide +kernel
theorem dX2_moveIn_4 : decode cX2_moveIn 4 = .ok (.ifCond .eq 5, 3) := by decide +kernel
theorem dX2_moveIn_7 : decode cX2_moveIn 7 = .ok (.iconst (-1), 1) := by decide +kernel
theorem dX2_moveIn_8 : decode cX2_moveIn 8 = .ok (.ireturn, 1) := by decide +kernel
theorem dX2_moveIn_9 : decode cX2_moveIn 9 = .ok (.aload_n 0, 1) := by decide +kernel
theorem dX2_moveIn_10 : decode cX2_moveIn 10 = .ok (.getfield 42, 3) := by decide +kernel
theorem dX2_moveIn_13 : decode cX2_moveIn 13 = .ok (.aload_n 0, 1) := by decide +kernel
theorem dX2_moveIn_14 : decode cX2_moveIn 14 = .ok (.getfield 37, 3) := by decide +kernel
theorem dX2_moveIn_17 : decode cX2_moveIn 17 = .ok (.aaload, 1) := by decide +kernel
theorem dX2_moveIn_18 : decode cX2_moveIn 18 = .ok (.iload_n 1, 1) := by decide +kernel
theorem dX2_moveIn_19 : decode cX2_moveIn 19 = .ok (.iload_n 2, 1) := by decide +kernel
theorem dX2_moveIn_20 : decode cX2_moveIn 20 = .ok (.invokevirtual 74, 3) := by decide +kernel
theorem dX2_moveIn_23 : decode cX2_moveIn 23 = .ok (.aload_n 0, 1) := by decide +kernel
theorem dX2_moveIn_24 : decode cX2_moveIn 24 = .ok (.dup, 1) := by decide +kernel
theorem dX2_moveIn_25 : decode cX2_moveIn 25 = .ok (.getfield 37, 3) := by decide +kernel
theorem dX2_moveIn_28 : decode cX2_moveIn 28 = .ok (.iconst 1, 1) := by decide +kernel
theorem dX2_moveIn_29 : decode cX2_moveIn 29 = .ok (.iadd, 1) := by decide +kernel
theorem dX2_moveIn_30 : decode cX2_moveIn 30 = .ok (.putfield 37, 3) := by decide +kernel
theorem dX2_moveIn_33 : decode cX2_moveIn 33 = .ok (.aload_n 0, 1) := by decide +kernel
theorem dX2_moveIn_34 : decode cX2_moveIn 34 = .ok (.getfield 37, 3) := by decide +kernel
theorem dX2_moveIn_37 : decode cX2_moveIn 37 = .ok (.iconst 1, 1) := by decide +kernel
theorem dX2_moveIn_38 : decode cX2_moveIn 38 = .ok (.isub, 1) := by decide +kernel
theorem dX2_moveIn_39 : decode cX2_moveIn 39 = .ok (.ireturn, 1) := by decide +kernel
set_option maxRecDepth 20000 in
theorem ggX2_tell_X0_tell : GoodIn wsX2_tell wsX0_tell := goodIn_r _ [8, 9, 10, 11, 12, 13, 14, 15, 16, 17, 7, 18, 19, 20, 21, 22, 23, 24, 25, 26, 27, 28, 29, 30, 31, 32, 33, 34, 35, 36, 37, 38, 39, 40, 41, 42, 43, 44, 45, 57, 58, 59, 60, 61, 62] (by decide +kernel) (by decide +kernel)
set_option maxRecDepth 20000 in
theorem gX2_tell_X0_tell : GoodIn wsX2_tell (wsV RX2 78 RX0 yX0_tell wsX0_tell) := goodIn_app (goodIn_of _ (by decide +kernel)) ggX2_tell_X0_tell
theorem dX2_tell_0 : decode cX2_tell 0 = .ok (.aload_n 0, 1) := by decide +kernel
theorem dX2_tell_1 : decode cX2_tell 1 = .ok (.getfield 42, 3) := by decide +kernel
theorem dX2_tell_4 : decode cX2_tell 4 = .ok (.iload_n 1, 1) := by decide +kernel
theorem dX2_tell_5 : decode cX2_tell 5 = .ok (.aaload, 1) := by decide +kernel
theorem dX2_tell_6 : decode cX2_tell 6 = .ok (.iload_n 2, 1) := by decide +kernel
theorem dX2_tell_7 : decode cX2_tell 7 = .ok (.aload_n 0, 1) := by decide +kernel
theorem dX2_tell_8 : decode cX2_tell 8 = .ok (.getfield 9, 3) := by decide +kernel
theorem dX2_tell_11 : decode cX2_tell 11 = .ok (.aload_n 0, 1) := by decide +kernel
theorem dX2_tell_12 : decode cX2_tell 12 = .ok (.getfield 18, 3) := by decide +kernel
theorem dX2_tell_15 : decode cX2_tell 15 = .ok (.invokevirtual 78, 3) := by decide +kernel
theorem dX2_tell_18 : decode cX2_tell 18 = .ok (.ireturn, 1) := by decide +kernel
theorem dX2_everybody_0 : decode cX2_everybody 0 = .ok (.iconst 1, 1) := by decide +kernel
theorem dX2_everybody_1 : decode cX2_everybody 1 = .ok (.aload_n 0, 1) := by decide +kernel
theorem dX2_everybody_2 : decode cX2_everybody 2 = .ok (.getfield 37, 3) := by decide +kernel
theorem dX2_everybody_5 : decode cX2_everybody 5 = .ok (.ishl, 1) := by decide +kernel
theorem dX2_everybody_6 : decode cX2_everybody 6 = .ok (.iconst 1, 1) := by decide +kernel
theorem dX2_everybody_7 : decode cX2_everybody 7 = .ok (.isub, 1) := by decide +kernel
theorem dX2_everybody_8 : decode cX2_everybody 8 = .ok (.ireturn, 1) := by decide +kernel
theorem dX2_wantedBy_0 : decode cX2_wantedBy 0 = .ok (.iconst 0, 1) := by decide +kernel
theorem dX2_wantedBy_1 : decode cX2_wantedBy 1 = .ok (.istore_n 2, 1) := by decide +kernel
theorem dX2_wantedBy_2 : decode cX2_wantedBy 2 = .ok (.iconst 0, 1) := by decide +kernel
theorem dX2_wantedBy_3 : decode cX2_wantedBy 3 = .ok (.istore_n 3, 1) := by decide +kernel
theorem dX2_wantedBy_4 : decode cX2_wantedBy 4 = .ok (.iload_n 3, 1) := by decide +kernel
theorem dX2_wantedBy_5 : decode cX2_wantedBy 5 = .ok (.aload_n 0, 1) := by decide +kernel
theorem dX2_wantedBy_6 : decode cX2_wantedBy 6 = .ok (.getfield 37, 3) := by decide +kernel
theorem dX2_wantedBy_9 : decode cX2_wantedBy 9 = .ok (.if_icmp .ge 30, 3) := by decide +kernel
theorem dX2_wantedBy_12 : decode cX2_wantedBy 12 = .ok (.iload_n 1, 1) := by decide +kernel
theorem dX2_wantedBy_13 : decode cX2_wantedBy 13 = .ok (.iload_n 3, 1) := by decide +kernel
theorem dX2_wantedBy_14 : decode cX2_wantedBy 14 = .ok (.ishr, 1) := by decide +kernel
theorem dX2_wantedBy_15 : decode cX2_wantedBy 15 = .ok (.iconst 1, 1) := by decide +kernel
theorem dX2_wantedBy_16 : decode cX2_wantedBy 16 = .ok (.iand, 1) := by decide +kernel
theorem dX2_wantedBy_17 : decode cX2_wantedBy 17 = .ok (.iconst 1, 1) := by decide +kernel
theorem dX2_wantedBy_18 : decode cX2_wantedBy 18 = .ok (.if_icmp .ne 15, 3) := by decide +kernel
theorem dX2_wantedBy_21 : decode cX2_wantedBy 21 = .ok (.iload_n 2, 1) := by decide +kernel
theorem dX2_wantedBy_22 : decode cX2_wantedBy 22 = .ok (.aload_n 0, 1) := by decide +kernel
theorem dX2_wantedBy_23 : decode cX2_wantedBy 23 = .ok (.getfield 42, 3) := by decide +kernel
theorem dX2_wantedBy_26 : decode cX2_wantedBy 26 = .ok (.iload_n 3, 1) := by decide +kernel
theorem dX2_wantedBy_27 : decode cX2_wantedBy 27 = .ok (.aaload, 1) := by decide +kernel
theorem dX2_wantedBy_28 : decode cX2_wantedBy 28 = .ok (.getfield 82, 3) := by decide +kernel
theorem dX2_wantedBy_31 : decode cX2_wantedBy 31 = .ok (.ior, 1) := by decide +kernel
theorem dX2_wantedBy_32 : decode cX2_wantedBy 32 = .ok (.istore_n 2, 1) := by decide +kernel
theorem dX2_wantedBy_33 : decode cX2_wantedBy 33 = .ok (.iinc 3 1, 3) := by decide +kernel
theorem dX2_wantedBy_36 : decode cX2_wantedBy 36 = .ok (.goto (-32), 3) := by decide +kernel
theorem dX2_wantedBy_39 : decode cX2_wantedBy 39 = .ok (.iload_n 2, 1) := by decide +kernel
theorem dX2_wantedBy_40 : decode cX2_wantedBy 40 = .ok (.ireturn, 1) := by decide +kernel
theorem dX2_sendAway_0 : decode cX2_sendAway 0 = .ok (.iconst 0, 1) := by decide +kernel
theorem dX2_sendAway_1 : decode cX2_sendAway 1 = .ok (.istore_n 2, 1) := by decide +kernel
theorem dX2_sendAway_2 : decode cX2_sendAway 2 = .ok (.iload_n 2, 1) := by decide +kernel
theorem dX2_sendAway_3 : decode cX2_sendAway 3 = .ok (.aload_n 0, 1) := by decide +kernel
theorem dX2_sendAway_4 : decode cX2_sendAway 4 = .ok (.getfield 37, 3) := by decide +kernel
theorem dX2_sendAway_7 : decode cX2_sendAway 7 = .ok (.if_icmp .ge 28, 3) := by decide +kernel
theorem dX2_sendAway_10 : decode cX2_sendAway 10 = .ok (.iload_n 1, 1) := by decide +kernel
theorem dX2_sendAway_11 : decode cX2_sendAway 11 = .ok (.iload_n 2, 1) := by decide +kernel
theorem dX2_sendAway_12 : decode cX2_sendAway 12 = .ok (.ishr, 1) := by decide +kernel
theorem dX2_sendAway_13 : decode cX2_sendAway 13 = .ok (.iconst 1, 1) := by decide +kernel
theorem dX2_sendAway_14 : decode cX2_sendAway 14 = .ok (.iand, 1) := by decide +kernel
theorem dX2_sendAway_15 : decode cX2_sendAway 15 = .ok (.iconst 1, 1) := by decide +kernel
theorem dX2_sendAway_16 : decode cX2_sendAway 16 = .ok (.if_icmp .ne 13, 3) := by decide +kernel
theorem dX2_sendAway_19 : decode cX2_sendAway 19 = .ok (.aload_n 0, 1) := by decide +kernel
theorem dX2_sendAway_20 : decode cX2_sendAway 20 = .ok (.getfield 42, 3) := by decide +kernel
theorem dX2_sendAway_23 : decode cX2_sendAway 23 = .ok (.iload_n 2, 1) := by decide +kernel
theorem dX2_sendAway_24 : decode cX2_sendAway 24 = .ok (.aaload, 1) := by decide +kernel
theorem dX2_sendAway_25 : decode cX2_sendAway 25 = .ok (.iconst 1, 1) := by decide +kernel
theorem dX2_sendAway_26 : decode cX2_sendAway 26 = .ok (.putfield 85, 3) := by decide +kernel
theorem dX2_sendAway_29 : decode cX2_sendAway 29 = .ok (.iinc 2 1, 3) := by decide +kernel
theorem dX2_sendAway_32 : decode cX2_sendAway 32 = .ok (.goto (-30), 3) := by decide +kernel
theorem dX2_sendAway_35 : decode cX2_sendAway 35 = .ok (.return_, 1) := by decide +kernel
set_option maxRecDepth 20000 in
theorem ggX2_whoWouldCome_X0_comesFor : GoodIn wsX2_whoWouldCome wsX0_comesFor := goodIn_r _ [9, 10, 11, 12, 13, 14, 8, 15, 16, 17, 18, 19, 20, 21, 22, 23, 24, 25, 26, 27, 28, 29, 30, 31, 32, 33, 34, 35, 36, 37, 38, 39, 51, 52, 53, 54, 55, 56] (by decide +kernel) (by decide +kernel)
set_option maxRecDepth 20000 in
theorem gX2_whoWouldCome_X0_comesFor : GoodIn wsX2_whoWouldCome (wsV RX2 88 RX0 yX0_comesFor wsX0_comesFor) := goodIn_app (goodIn_of _ (by decide +kernel)) ggX2_whoWouldCome_X0_comesFor
theorem dX2_whoWouldCome_0 : decode cX2_whoWouldCome 0 = .ok (.iconst 0, 1) := by decide +kernel
theorem dX2_whoWouldCome_1 : decode cX2_whoWouldCome 1 = .ok (.istore_n 2, 1) := by decide +kernel
theorem dX2_whoWouldCome_2 : decode cX2_whoWouldCome 2 = .ok (.iconst 0, 1) := by decide +kernel
theorem dX2_whoWouldCome_3 : decode cX2_whoWouldCome 3 = .ok (.istore_n 3, 1) := by decide +kernel
theorem dX2_whoWouldCome_4 : decode cX2_whoWouldCome 4 = .ok (.iload_n 3, 1) := by decide +kernel
theorem dX2_whoWouldCome_5 : decode cX2_whoWouldCome 5 = .ok (.aload_n 0, 1) := by decide +kernel
theorem dX2_whoWouldCome_6 : decode cX2_whoWouldCome 6 = .ok (.getfield 37, 3) := by decide +kernel
theorem dX2_whoWouldCome_9 : decode cX2_whoWouldCome 9 = .ok (.if_icmp .ge 36, 3) := by decide +kernel
theorem dX2_whoWouldCome_12 : decode cX2_whoWouldCome 12 = .ok (.aload_n 0, 1) := by decide +kernel
theorem dX2_whoWouldCome_13 : decode cX2_whoWouldCome 13 = .ok (.getfield 42, 3) := by decide +kernel
theorem dX2_whoWouldCome_16 : decode cX2_whoWouldCome 16 = .ok (.iload_n 3, 1) := by decide +kernel
theorem dX2_whoWouldCome_17 : decode cX2_whoWouldCome 17 = .ok (.aaload, 1) := by decide +kernel
theorem dX2_whoWouldCome_18 : decode cX2_whoWouldCome 18 = .ok (.iload_n 1, 1) := by decide +kernel
theorem dX2_whoWouldCome_19 : decode cX2_whoWouldCome 19 = .ok (.aload_n 0, 1) := by decide +kernel
theorem dX2_whoWouldCome_20 : decode cX2_whoWouldCome 20 = .ok (.getfield 9, 3) := by decide +kernel
theorem dX2_whoWouldCome_23 : decode cX2_whoWouldCome 23 = .ok (.aload_n 0, 1) := by decide +kernel
theorem dX2_whoWouldCome_24 : decode cX2_whoWouldCome 24 = .ok (.getfield 18, 3) := by decide +kernel
theorem dX2_whoWouldCome_27 : decode cX2_whoWouldCome 27 = .ok (.invokevirtual 88, 3) := by decide +kernel
theorem dX2_whoWouldCome_30 : decode cX2_whoWouldCome 30 = .ok (.ifCond .eq 9, 3) := by decide +kernel
theorem dX2_whoWouldCome_33 : decode cX2_whoWouldCome 33 = .ok (.iload_n 2, 1) := by decide +kernel
theorem dX2_whoWouldCome_34 : decode cX2_whoWouldCome 34 = .ok (.iconst 1, 1) := by decide +kernel
theorem dX2_whoWouldCome_35 : decode cX2_whoWouldCome 35 = .ok (.iload_n 3, 1) := by decide +kernel
theorem dX2_whoWouldCome_36 : decode cX2_whoWouldCome 36 = .ok (.ishl, 1) := by decide +kernel
theorem dX2_whoWouldCome_37 : decode cX2_whoWouldCome 37 = .ok (.ior, 1) := by decide +kernel
theorem dX2_whoWouldCome_38 : decode cX2_whoWouldCome 38 = .ok (.istore_n 2, 1) := by decide +kernel
theorem dX2_whoWouldCome_39 : decode cX2_whoWouldCome 39 = .ok (.iinc 3 1, 3) := by decide +kernel
theorem dX2_whoWouldCome_42 : decode cX2_whoWouldCome 42 = .ok (.goto (-38), 3) := by decide +kernel
theorem dX2_whoWouldCome_45 : decode cX2_whoWouldCome 45 = .ok (.iload_n 2, 1) := by decide +kernel
theorem dX2_whoWouldCome_46 : decode cX2_whoWouldCome 46 = .ok (.ireturn, 1) := by decide +kernel
theorem dX2_allHope_0 : decode cX2_allHope 0 = .ok (.iconst 0, 1) := by decide +kernel
theorem dX2_allHope_1 : decode cX2_allHope 1 = .ok (.istore_n 1, 1) := by decide +kernel
theorem dX2_allHope_2 : decode cX2_allHope 2 = .ok (.iconst 0, 1) := by decide +kernel
theorem dX2_allHope_3 : decode cX2_allHope 3 = .ok (.istore_n 2, 1) := by decide +kernel
theorem dX2_allHope_4 : decode cX2_allHope 4 = .ok (.iload_n 2, 1) := by decide +kernel
theorem dX2_allHope_5 : decode cX2_allHope 5 = .ok (.aload_n 0, 1) := by decide +kernel
theorem dX2_allHope_6 : decode cX2_allHope 6 = .ok (.getfield 37, 3) := by decide +kernel
theorem dX2_allHope_9 : decode cX2_allHope 9 = .ok (.if_icmp .ge 21, 3) := by decide +kernel
theorem dX2_allHope_12 : decode cX2_allHope 12 = .ok (.iload_n 1, 1) := by decide +kernel
theorem dX2_allHope_13 : decode cX2_allHope 13 = .ok (.aload_n 0, 1) := by decide +kernel
theorem dX2_allHope_14 : decode cX2_allHope 14 = .ok (.getfield 42, 3) := by decide +kernel
theorem dX2_allHope_17 : decode cX2_allHope 17 = .ok (.iload_n 2, 1) := by decide +kernel
theorem dX2_allHope_18 : decode cX2_allHope 18 = .ok (.aaload, 1) := by decide +kernel
theorem dX2_allHope_19 : decode cX2_allHope 19 = .ok (.getfield 91, 3) := by decide +kernel
theorem dX2_allHope_22 : decode cX2_allHope 22 = .ok (.iadd, 1) := by decide +kernel
theorem dX2_allHope_23 : decode cX2_allHope 23 = .ok (.istore_n 1, 1) := by decide +kernel
theorem dX2_allHope_24 : decode cX2_allHope 24 = .ok (.iinc 2 1, 3) := by decide +kernel
theorem dX2_allHope_27 : decode cX2_allHope 27 = .ok (.goto (-23), 3) := by decide +kernel
theorem dX2_allHope_30 : decode cX2_allHope 30 = .ok (.iload_n 1, 1) := by decide +kernel
theorem dX2_allHope_31 : decode cX2_allHope 31 = .ok (.ireturn, 1) := by decide +kernel
theorem dX2_allStood_0 : decode cX2_allStood 0 = .ok (.iconst 0, 1) := by decide +kernel
theorem dX2_allStood_1 : decode cX2_allStood 1 = .ok (.istore_n 1, 1) := by decide +kernel
theorem dX2_allStood_2 : decode cX2_allStood 2 = .ok (.iconst 0, 1) := by decide +kernel
theorem dX2_allStood_3 : decode cX2_allStood 3 = .ok (.istore_n 2, 1) := by decide +kernel
theorem dX2_allStood_4 : decode cX2_allStood 4 = .ok (.iload_n 2, 1) := by decide +kernel
theorem dX2_allStood_5 : decode cX2_allStood 5 = .ok (.aload_n 0, 1) := by decide +kernel
theorem dX2_allStood_6 : decode cX2_allStood 6 = .ok (.getfield 37, 3) := by decide +kernel
theorem dX2_allStood_9 : decode cX2_allStood 9 = .ok (.if_icmp .ge 21, 3) := by decide +kernel
theorem dX2_allStood_12 : decode cX2_allStood 12 = .ok (.iload_n 1, 1) := by decide +kernel
theorem dX2_allStood_13 : decode cX2_allStood 13 = .ok (.aload_n 0, 1) := by decide +kernel
theorem dX2_allStood_14 : decode cX2_allStood 14 = .ok (.getfield 42, 3) := by decide +kernel
theorem dX2_allStood_17 : decode cX2_allStood 17 = .ok (.iload_n 2, 1) := by decide +kernel
theorem dX2_allStood_18 : decode cX2_allStood 18 = .ok (.aaload, 1) := by decide +kernel
theorem dX2_allStood_19 : decode cX2_allStood 19 = .ok (.getfield 94, 3) := by decide +kernel
theorem dX2_allStood_22 : decode cX2_allStood 22 = .ok (.iadd, 1) := by decide +kernel
theorem dX2_allStood_23 : decode cX2_allStood 23 = .ok (.istore_n 1, 1) := by decide +kernel
theorem dX2_allStood_24 : decode cX2_allStood 24 = .ok (.iinc 2 1, 3) := by decide +kernel
theorem dX2_allStood_27 : decode cX2_allStood 27 = .ok (.goto (-23), 3) := by decide +kernel
theorem dX2_allStood_30 : decode cX2_allStood 30 = .ok (.iload_n 1, 1) := by decide +kernel
theorem dX2_allStood_31 : decode cX2_allStood 31 = .ok (.ireturn, 1) := by decide +kernel
theorem dX2_allRegister_0 : decode cX2_allRegister 0 = .ok (.iconst 0, 1) := by decide +kernel
theorem dX2_allRegister_1 : decode cX2_allRegister 1 = .ok (.istore_n 1, 1) := by decide +kernel
theorem dX2_allRegister_2 : decode cX2_allRegister 2 = .ok (.iconst 0, 1) := by decide +kernel
theorem dX2_allRegister_3 : decode cX2_allRegister 3 = .ok (.istore_n 2, 1) := by decide +kernel
theorem dX2_allRegister_4 : decode cX2_allRegister 4 = .ok (.iload_n 2, 1) := by decide +kernel
theorem dX2_allRegister_5 : decode cX2_allRegister 5 = .ok (.bipush 12, 2) := by decide +kernel
theorem dX2_allRegister_7 : decode cX2_allRegister 7 = .ok (.if_icmp .ge 18, 3) := by decide +kernel
theorem dX2_allRegister_10 : decode cX2_allRegister 10 = .ok (.iload_n 1, 1) := by decide +kernel
theorem dX2_allRegister_11 : decode cX2_allRegister 11 = .ok (.aload_n 0, 1) := by decide +kernel
theorem dX2_allRegister_12 : decode cX2_allRegister 12 = .ok (.getfield 25, 3) := by decide +kernel
theorem dX2_allRegister_15 : decode cX2_allRegister 15 = .ok (.iload_n 2, 1) := by decide +kernel
theorem dX2_allRegister_16 : decode cX2_allRegister 16 = .ok (.iaload, 1) := by decide +kernel
theorem dX2_allRegister_17 : decode cX2_allRegister 17 = .ok (.iadd, 1) := by decide +kernel
theorem dX2_allRegister_18 : decode cX2_allRegister 18 = .ok (.istore_n 1, 1) := by decide +kernel
theorem dX2_allRegister_19 : decode cX2_allRegister 19 = .ok (.iinc 2 1, 3) := by decide +kernel
theorem dX2_allRegister_22 : decode cX2_allRegister 22 = .ok (.goto (-18), 3) := by decide +kernel
theorem dX2_allRegister_25 : decode cX2_allRegister 25 = .ok (.iload_n 1, 1) := by decide +kernel
theorem dX2_allRegister_26 : decode cX2_allRegister 26 = .ok (.ireturn, 1) := by decide +kernel
theorem dX2_goodsInRegister_0 : decode cX2_goodsInRegister 0 = .ok (.iconst 0, 1) := by decide +kernel
theorem dX2_goodsInRegister_1 : decode cX2_goodsInRegister 1 = .ok (.istore_n 1, 1) := by decide +kernel
theorem dX2_goodsInRegister_2 : decode cX2_goodsInRegister 2 = .ok (.iconst 0, 1) := by decide +kernel
theorem dX2_goodsInRegister_3 : decode cX2_goodsInRegister 3 = .ok (.istore_n 2, 1) := by decide +kernel
theorem dX2_goodsInRegister_4 : decode cX2_goodsInRegister 4 = .ok (.iload_n 2, 1) := by decide +kernel
theorem dX2_goodsInRegister_5 : decode cX2_goodsInRegister 5 = .ok (.bipush 12, 2) := by decide +kernel
theorem dX2_goodsInRegister_7 : decode cX2_goodsInRegister 7 = .ok (.if_icmp .ge 24, 3) := by decide +kernel
theorem dX2_goodsInRegister_10 : decode cX2_goodsInRegister 10 = .ok (.aload_n 0, 1) := by decide +kernel
theorem dX2_goodsInRegister_11 : decode cX2_goodsInRegister 11 = .ok (.getfield 25, 3) := by decide +kernel
theorem dX2_goodsInRegister_14 : decode cX2_goodsInRegister 14 = .ok (.iload_n 2, 1) := by decide +kernel
theorem dX2_goodsInRegister_15 : decode cX2_goodsInRegister 15 = .ok (.iaload, 1) := by decide +kernel
theorem dX2_goodsInRegister_16 : decode cX2_goodsInRegister 16 = .ok (.ifCond .le 9, 3) := by decide +kernel
theorem dX2_goodsInRegister_19 : decode cX2_goodsInRegister 19 = .ok (.iload_n 1, 1) := by decide +kernel
theorem dX2_goodsInRegister_20 : decode cX2_goodsInRegister 20 = .ok (.iconst 1, 1) := by decide +kernel
theorem dX2_goodsInRegister_21 : decode cX2_goodsInRegister 21 = .ok (.iload_n 2, 1) := by decide +kernel
theorem dX2_goodsInRegister_22 : decode cX2_goodsInRegister 22 = .ok (.ishl, 1) := by decide +kernel
theorem dX2_goodsInRegister_23 : decode cX2_goodsInRegister 23 = .ok (.ior, 1) := by decide +kernel
theorem dX2_goodsInRegister_24 : decode cX2_goodsInRegister 24 = .ok (.istore_n 1, 1) := by decide +kernel
theorem dX2_goodsInRegister_25 : decode cX2_goodsInRegister 25 = .ok (.iinc 2 1, 3) := by decide +kernel
theorem dX2_goodsInRegister_28 : decode cX2_goodsInRegister 28 = .ok (.goto (-24), 3) := by decide +kernel
theorem dX2_goodsInRegister_31 : decode cX2_goodsInRegister 31 = .ok (.iload_n 1, 1) := by decide +kernel
theorem dX2_goodsInRegister_32 : decode cX2_goodsInRegister 32 = .ok (.ireturn, 1) := by decide +kernel
set_option maxRecDepth 20000 in
theorem ggX2_fetches_X2_goodsInRegister : GoodIn wsX2_fetches wsX2_goodsInRegister := goodIn_r _ [10, 1, 18, 19, 20, 21, 22, 23, 24, 25, 26, 27, 28] (by decide +kernel) (by decide +kernel)
set_option maxRecDepth 20000 in
theorem gX2_fetches_X2_goodsInRegister : GoodIn wsX2_fetches (wsV RX2 103 RX2 yX2_goodsInRegister wsX2_goodsInRegister) := goodIn_app (goodIn_of _ (by decide +kernel)) ggX2_fetches_X2_goodsInRegister
set_option maxRecDepth 20000 in
theorem ggX2_fetches_J6_bitCount_0f7a4 : GoodIn wsX2_fetches wsJ6_bitCount_0f7a4 := goodIn_r _ [14, 15, 16, 17] (by decide +kernel) (by decide +kernel)
set_option maxRecDepth 20000 in
theorem gX2_fetches_J6_bitCount_0f7a4 : GoodIn wsX2_fetches (va_wsS RX2 107 yJ6_bitCount_0f7a4 wsJ6_bitCount_0f7a4) := goodIn_app (goodIn_of _ (by decide +kernel)) ggX2_fetches_J6_bitCount_0f7a4
theorem dX2_fetches_0 : decode cX2_fetches 0 = .ok (.iconst 0, 1) := by decide +kernel
theorem dX2_fetches_1 : decode cX2_fetches 1 = .ok (.istore_n 1, 1) := by decide +kernel
theorem dX2_fetches_2 : decode cX2_fetches 2 = .ok (.iconst 0, 1) := by decide +kernel
theorem dX2_fetches_3 : decode cX2_fetches 3 = .ok (.istore_n 2, 1) := by decide +kernel
theorem dX2_fetches_4 : decode cX2_fetches 4 = .ok (.iload_n 2, 1) := by decide +kernel
theorem dX2_fetches_5 : decode cX2_fetches 5 = .ok (.bipush 12, 2) := by decide +kernel
theorem dX2_fetches_7 : decode cX2_fetches 7 = .ok (.if_icmp .ge 20, 3) := by decide +kernel
theorem dX2_fetches_10 : decode cX2_fetches 10 = .ok (.iload_n 1, 1) := by decide +kernel
theorem dX2_fetches_11 : decode cX2_fetches 11 = .ok (.aload_n 0, 1) := by decide +kernel
theorem dX2_fetches_12 : decode cX2_fetches 12 = .ok (.getfield 25, 3) := by decide +kernel
theorem dX2_fetches_15 : decode cX2_fetches 15 = .ok (.iload_n 2, 1) := by decide +kernel
theorem dX2_fetches_16 : decode cX2_fetches 16 = .ok (.iaload, 1) := by decide +kernel
theorem dX2_fetches_17 : decode cX2_fetches 17 = .ok (.invokestatic 97, 3) := by decide +kernel
theorem dX2_fetches_20 : decode cX2_fetches 20 = .ok (.istore_n 1, 1) := by decide +kernel
theorem dX2_fetches_21 : decode cX2_fetches 21 = .ok (.iinc 2 1, 3) := by decide +kernel
theorem dX2_fetches_24 : decode cX2_fetches 24 = .ok (.goto (-20), 3) := by decide +kernel
theorem dX2_fetches_27 : decode cX2_fetches 27 = .ok (.iload_n 1, 1) := by decide +kernel
theorem dX2_fetches_28 : decode cX2_fetches 28 = .ok (.iconst 5, 1) := by decide +kernel
theorem dX2_fetches_29 : decode cX2_fetches 29 = .ok (.aload_n 0, 1) := by decide +kernel
theorem dX2_fetches_30 : decode cX2_fetches 30 = .ok (.invokevirtual 103, 3) := by decide +kernel
theorem dX2_fetches_33 : decode cX2_fetches 33 = .ok (.invokestatic 107, 3) := by decide +kernel
theorem dX2_fetches_36 : decode cX2_fetches 36 = .ok (.imul, 1) := by decide +kernel
theorem dX2_fetches_37 : decode cX2_fetches 37 = .ok (.iadd, 1) := by decide +kernel
theorem dX2_fetches_38 : decode cX2_fetches 38 = .ok (.ireturn, 1) := by decide +kernel
theorem dX2_heldSpots_0 : decode cX2_heldSpots 0 = .ok (.iconst 0, 1) := by decide +kernel
theorem dX2_heldSpots_1 : decode cX2_heldSpots 1 = .ok (.istore_n 1, 1) := by decide +kernel
theorem dX2_heldSpots_2 : decode cX2_heldSpots 2 = .ok (.iconst 0, 1) := by decide +kernel
theorem dX2_heldSpots_3 : decode cX2_heldSpots 3 = .ok (.istore_n 2, 1) := by decide +kernel
theorem dX2_heldSpots_4 : decode cX2_heldSpots 4 = .ok (.iload_n 2, 1) := by decide +kernel
theorem dX2_heldSpots_5 : decode cX2_heldSpots 5 = .ok (.bipush 10, 2) := by decide +kernel
theorem dX2_heldSpots_7 : decode cX2_heldSpots 7 = .ok (.if_icmp .ge 22, 3) := by decide +kernel
theorem dX2_heldSpots_10 : decode cX2_heldSpots 10 = .ok (.aload_n 0, 1) := by decide +kernel
theorem dX2_heldSpots_11 : decode cX2_heldSpots 11 = .ok (.getfield 46, 3) := by decide +kernel
theorem dX2_heldSpots_14 : decode cX2_heldSpots 14 = .ok (.iload_n 2, 1) := by decide +kernel
theorem dX2_heldSpots_15 : decode cX2_heldSpots 15 = .ok (.iaload, 1) := by decide +kernel
theorem dX2_heldSpots_16 : decode cX2_heldSpots 16 = .ok (.iconst (-1), 1) := by decide +kernel
theorem dX2_heldSpots_17 : decode cX2_heldSpots 17 = .ok (.if_icmp .eq 6, 3) := by decide +kernel
theorem dX2_heldSpots_20 : decode cX2_heldSpots 20 = .ok (.iinc 1 1, 3) := by decide +kernel
theorem dX2_heldSpots_23 : decode cX2_heldSpots 23 = .ok (.iinc 2 1, 3) := by decide +kernel
theorem dX2_heldSpots_26 : decode cX2_heldSpots 26 = .ok (.goto (-22), 3) := by decide +kernel
theorem dX2_heldSpots_29 : decode cX2_heldSpots 29 = .ok (.iload_n 1, 1) := by decide +kernel
theorem dX2_heldSpots_30 : decode cX2_heldSpots 30 = .ok (.ireturn, 1) := by decide +kernel
theorem dX2_draw_0 : decode cX2_draw 0 = .ok (.aload_n 0, 1) := by decide +kernel
theorem dX2_draw_1 : decode cX2_draw 1 = .ok (.aload_n 0, 1) := by decide +kernel
theorem dX2_draw_2 : decode cX2_draw 2 = .ok (.getfield 34, 3) := by decide +kernel
theorem dX2_draw_5 : decode cX2_draw 5 = .ok (.ldc 113, 2) := by decide +kernel
theorem dX2_draw_7 : decode cX2_draw 7 = .ok (.imul, 1) := by decide +kernel
theorem dX2_draw_8 : decode cX2_draw 8 = .ok (.sipush 12345, 3) := by decide +kernel
theorem dX2_draw_11 : decode cX2_draw 11 = .ok (.iadd, 1) := by decide +kernel
theorem dX2_draw_12 : decode cX2_draw 12 = .ok (.putfield 34, 3) := by decide +kernel
theorem dX2_draw_15 : decode cX2_draw 15 = .ok (.aload_n 0, 1) := by decide +kernel
theorem dX2_draw_16 : decode cX2_draw 16 = .ok (.getfield 34, 3) := by decide +kernel
theorem dX2_draw_19 : decode cX2_draw 19 = .ok (.bipush 8, 2) := by decide +kernel
theorem dX2_draw_21 : decode cX2_draw 21 = .ok (.iushr, 1) := by decide +kernel
theorem dX2_draw_22 : decode cX2_draw 22 = .ok (.ireturn, 1) := by decide +kernel
set_option maxRecDepth 20000 in
theorem ggX2_passDays_X2_passDay : GoodIn wsX2_passDays wsX2_passDay := goodIn_r _ [5, 6, 7, 8, 9, 10, 11, 12, 13, 14, 15, 16, 17, 4, 18, 19, 20, 21, 22, 23, 24, 25, 26, 27, 28, 29, 30, 31, 32, 33, 34, 35, 36, 37, 38, 39, 40, 41, 42, 43, 44, 45, 46, 47, 48, 49, 50, 51, 52, 53, 54, 55, 56, 57, 58, 59, 60, 61, 62, 63, 64, 65, 66, 67, 68, 69, 70, 71, 72, 73, 74, 75, 76, 77, 78, 79, 80, 81, 82, 83, 84, 85, 86, 87, 88, 89, 90, 91, 92, 93, 94, 95, 96, 97, 98, 99, 100, 101, 102, 103, 104, 105, 106, 107, 108, 109, 110, 111, 112, 113, 114, 115, 116, 117, 118, 119, 120, 121, 122, 123, 124] (by decide +kernel) (by decide +kernel)
set_option maxRecDepth 20000 in
theorem gX2_passDays_X2_passDay : GoodIn wsX2_passDays (wsV RX2 114 RX2 yX2_passDay wsX2_passDay) := goodIn_app (goodIn_of _ (by decide +kernel)) ggX2_passDays_X2_passDay
theorem dX2_passDays_0 : decode cX2_passDays 0 = .ok (.iconst 0, 1) := by decide +kernel
theorem dX2_passDays_1 : decode cX2_passDays 1 = .ok (.istore_n 2, 1) := by decide +kernel
theorem dX2_passDays_2 : decode cX2_passDays 2 = .ok (.iload_n 2, 1) := by decide +kernel
theorem dX2_passDays_3 : decode cX2_passDays 3 = .ok (.iload_n 1, 1) := by decide +kernel
theorem dX2_passDays_4 : decode cX2_passDays 4 = .ok (.if_icmp .ge 13, 3) := by decide +kernel
theorem dX2_passDays_7 : decode cX2_passDays 7 = .ok (.aload_n 0, 1) := by decide +kernel
theorem dX2_passDays_8 : decode cX2_passDays 8 = .ok (.invokevirtual 114, 3) := by decide +kernel
theorem dX2_passDays_11 : decode cX2_passDays 11 = .ok (.iinc 2 1, 3) := by decide +kernel
theorem dX2_passDays_14 : decode cX2_passDays 14 = .ok (.goto (-12), 3) := by decide +kernel
theorem dX2_passDays_17 : decode cX2_passDays 17 = .ok (.return_, 1) := by decide +kernel
set_option maxRecDepth 20000 in
theorem ggX2_passDay_X2_callOut : GoodIn wsX2_passDay wsX2_callOut := goodIn_r _ [14, 15, 16, 1, 17, 18, 6, 7, 8, 9, 19, 20, 21, 22, 23, 24, 25, 26, 27, 28, 29, 30, 31, 32, 33, 34, 35, 36, 37, 38, 39, 40, 41, 42, 43, 44, 45, 46, 47, 48, 49, 50, 51, 52, 53, 54, 55, 56, 57, 58, 59, 60, 61, 62, 63, 64, 65, 66, 67, 68, 69, 70, 71, 72, 73, 74, 75, 76, 77, 78, 79, 80, 81, 82, 83, 84, 104, 105, 106, 107, 108, 109, 110, 111, 112, 113, 114, 115, 116, 117, 118, 119, 120] (by decide +kernel) (by decide +kernel)
set_option maxRecDepth 20000 in
theorem gX2_passDay_X2_callOut : GoodIn wsX2_passDay (wsV RX2 117 RX2 yX2_callOut wsX2_callOut) := goodIn_app (goodIn_of _ (by decide +kernel)) ggX2_passDay_X2_callOut
set_option maxRecDepth 20000 in
theorem ggX2_passDay_X2_sellRegister : GoodIn wsX2_passDay wsX2_sellRegister := goodIn_r _ [88, 5, 89, 6, 7, 8, 9, 18, 90, 91, 92, 13, 93, 94, 60, 61, 95, 96, 97, 98, 99, 67, 68, 69, 70, 71, 72, 100, 101, 102, 103, 104, 105, 106, 107, 108, 109, 110, 111, 112, 113, 114] (by decide +kernel) (by decide +kernel)
set_option maxRecDepth 20000 in
theorem gX2_passDay_X2_sellRegister : GoodIn wsX2_passDay (wsV RX2 121 RX2 yX2_sellRegister wsX2_sellRegister) := goodIn_app (goodIn_of _ (by decide +kernel)) ggX2_passDay_X2_sellRegister
theorem dX2_passDay_0 : decode cX2_passDay 0 = .ok (.aload_n 0, 1) := by decide +kernel
theorem dX2_passDay_1 : decode cX2_passDay 1 = .ok (.aload_n 0, 1) := by decide +kernel
theorem dX2_passDay_2 : decode cX2_passDay 2 = .ok (.getfield 9, 3) := by decide +kernel
theorem dX2_passDay_5 : decode cX2_passDay 5 = .ok (.aload_n 0, 1) := by decide +kernel
theorem dX2_passDay_6 : decode cX2_passDay 6 = .ok (.getfield 15, 3) := by decide +kernel
theorem dX2_passDay_9 : decode cX2_passDay 9 = .ok (.iadd, 1) := by decide +kernel
theorem dX2_passDay_10 : decode cX2_passDay 10 = .ok (.bipush 16, 2) := by decide +kernel
theorem dX2_passDay_12 : decode cX2_passDay 12 = .ok (.irem, 1) := by decide +kernel
theorem dX2_passDay_13 : decode cX2_passDay 13 = .ok (.putfield 9, 3) := by decide +kernel
theorem dX2_passDay_16 : decode cX2_passDay 16 = .ok (.aload_n 0, 1) := by decide +kernel
theorem dX2_passDay_17 : decode cX2_passDay 17 = .ok (.aload_n 0, 1) := by decide +kernel
theorem dX2_passDay_18 : decode cX2_passDay 18 = .ok (.getfield 21, 3) := by decide +kernel
theorem dX2_passDay_21 : decode cX2_passDay 21 = .ok (.aload_n 0, 1) := by decide +kernel
theorem dX2_passDay_22 : decode cX2_passDay 22 = .ok (.getfield 31, 3) := by decide +kernel
theorem dX2_passDay_25 : decode cX2_passDay 25 = .ok (.bipush 6, 2) := by decide +kernel
theorem dX2_passDay_27 : decode cX2_passDay 27 = .ok (.irem, 1) := by decide +kernel
theorem dX2_passDay_28 : decode cX2_passDay 28 = .ok (.iaload, 1) := by decide +kernel
theorem dX2_passDay_29 : decode cX2_passDay 29 = .ok (.invokevirtual 117, 3) := by decide +kernel
theorem dX2_passDay_32 : decode cX2_passDay 32 = .ok (.aload_n 0, 1) := by decide +kernel
theorem dX2_passDay_33 : decode cX2_passDay 33 = .ok (.getfield 31, 3) := by decide +kernel
theorem dX2_passDay_36 : decode cX2_passDay 36 = .ok (.bipush 7, 2) := by decide +kernel
theorem dX2_passDay_38 : decode cX2_passDay 38 = .ok (.irem, 1) := by decide +kernel
theorem dX2_passDay_39 : decode cX2_passDay 39 = .ok (.bipush 6, 2) := by decide +kernel
theorem dX2_passDay_41 : decode cX2_passDay 41 = .ok (.if_icmp .ne 7, 3) := by decide +kernel
theorem dX2_passDay_44 : decode cX2_passDay 44 = .ok (.aload_n 0, 1) := by decide +kernel
theorem dX2_passDay_45 : decode cX2_passDay 45 = .ok (.invokevirtual 121, 3) := by decide +kernel
theorem dX2_passDay_48 : decode cX2_passDay 48 = .ok (.aload_n 0, 1) := by decide +kernel
theorem dX2_passDay_49 : decode cX2_passDay 49 = .ok (.ldc 124, 2) := by decide +kernel
theorem dX2_passDay_51 : decode cX2_passDay 51 = .ok (.aload_n 0, 1) := by decide +kernel
theorem dX2_passDay_52 : decode cX2_passDay 52 = .ok (.getfield 31, 3) := by decide +kernel
theorem dX2_passDay_55 : decode cX2_passDay 55 = .ok (.iconst 1, 1) := by decide +kernel
theorem dX2_passDay_56 : decode cX2_passDay 56 = .ok (.iadd, 1) := by decide +kernel
theorem dX2_passDay_57 : decode cX2_passDay 57 = .ok (.invokestatic 125, 3) := by decide +kernel
theorem dX2_passDay_60 : decode cX2_passDay 60 = .ok (.putfield 31, 3) := by decide +kernel
theorem dX2_passDay_63 : decode cX2_passDay 63 = .ok (.return_, 1) := by decide +kernel
set_option maxRecDepth 20000 in
theorem ggX2_callOut_X0_comesFor : GoodIn wsX2_callOut wsX0_comesFor := goodIn_r _ [15, 16, 17, 18, 19, 20, 14, 21, 22, 23, 24, 25, 26, 27, 28, 29, 30, 31, 32, 33, 34, 35, 36, 37, 38, 39, 8, 40, 41, 42, 43, 44, 87, 88, 89, 90, 91, 92] (by decide +kernel) (by decide +kernel)
set_option maxRecDepth 20000 in
theorem gX2_callOut_X0_comesFor : GoodIn wsX2_callOut (wsV RX2 88 RX0 yX0_comesFor wsX0_comesFor) := goodIn_app (goodIn_of _ (by decide +kernel)) ggX2_callOut_X0_comesFor
set_option maxRecDepth 20000 in
theorem ggX2_callOut_X0_standOnTheStep : GoodIn wsX2_callOut wsX0_standOnTheStep := goodIn_r _ [48, 28, 49, 7, 8, 9, 17, 50, 51, 52, 53, 54, 55, 14, 56, 27, 22, 57, 58, 59, 60, 61, 62, 63, 87, 88, 89, 90, 91, 92] (by decide +kernel) (by decide +kernel)
set_option maxRecDepth 20000 in
theorem gX2_callOut_X0_standOnTheStep : GoodIn wsX2_callOut (wsV RX2 128 RX0 yX0_standOnTheStep wsX0_standOnTheStep) := goodIn_app (goodIn_of _ (by decide +kernel)) ggX2_callOut_X0_standOnTheStep
set_option maxRecDepth 20000 in
theorem ggX2_callOut_X0_stayIn : GoodIn wsX2_callOut wsX0_stayIn := goodIn_r _ [67, 22, 17, 49, 7, 8, 9, 18, 19, 20, 14, 21, 29, 30, 31, 32, 33, 34, 35, 36, 37, 38, 39, 40, 41, 42, 43, 44, 27, 68, 69, 70, 71, 72, 73, 74, 75, 87, 88, 89, 90, 91, 92] (by decide +kernel) (by decide +kernel)
set_option maxRecDepth 20000 in
theorem gX2_callOut_X0_stayIn : GoodIn wsX2_callOut (wsV RX2 131 RX0 yX0_stayIn wsX0_stayIn) := goodIn_app (goodIn_of _ (by decide +kernel)) ggX2_callOut_X0_stayIn
theorem dX2_callOut_0 : decode cX2_callOut 0 = .ok (.iconst 0, 1) := by decide +kernel
theorem dX2_callOut_1 : decode cX2_callOut 1 = .ok (.istore_n 2, 1) := by decide +kernel
theorem dX2_callOut_2 : decode cX2_callOut 2 = .ok (.iload_n 2, 1) := by decide +kernel
theorem dX2_callOut_3 : decode cX2_callOut 3 = .ok (.aload_n 0, 1) := by decide +kernel
theorem dX2_callOut_4 : decode cX2_callOut 4 = .ok (.getfield 37, 3) := by decide +kernel
theorem dX2_callOut_7 : decode cX2_callOut 7 = .ok (.if_icmp .ge 79, 3) := by decide +kernel
theorem dX2_callOut_10 : decode cX2_callOut 10 = .ok (.aload_n 0, 1) := by decide +kernel
theorem dX2_callOut_11 : decode cX2_callOut 11 = .ok (.getfield 42, 3) := by decide +kernel
theorem dX2_callOut_14 : decode cX2_callOut 14 = .ok (.iload_n 2, 1) := by decide +kernel
theorem dX2_callOut_15 : decode cX2_callOut 15 = .ok (.aaload, 1) := by decide +kernel
theorem dX2_callOut_16 : decode cX2_callOut 16 = .ok (.astore_n 3, 1) := by decide +kernel
theorem dX2_callOut_17 : decode cX2_callOut 17 = .ok (.aload_n 3, 1) := by decide +kernel
theorem dX2_callOut_18 : decode cX2_callOut 18 = .ok (.iload_n 1, 1) := by decide +kernel
theorem dX2_callOut_19 : decode cX2_callOut 19 = .ok (.aload_n 0, 1) := by decide +kernel
theorem dX2_callOut_20 : decode cX2_callOut 20 = .ok (.getfield 9, 3) := by decide +kernel
theorem dX2_callOut_23 : decode cX2_callOut 23 = .ok (.aload_n 0, 1) := by decide +kernel
theorem dX2_callOut_24 : decode cX2_callOut 24 = .ok (.getfield 18, 3) := by decide +kernel
theorem dX2_callOut_27 : decode cX2_callOut 27 = .ok (.invokevirtual 88, 3) := by decide +kernel
theorem dX2_callOut_30 : decode cX2_callOut 30 = .ok (.ifCond .eq 30, 3) := by decide +kernel
theorem dX2_callOut_33 : decode cX2_callOut 33 = .ok (.aload_n 3, 1) := by decide +kernel
theorem dX2_callOut_34 : decode cX2_callOut 34 = .ok (.invokevirtual 128, 3) := by decide +kernel
theorem dX2_callOut_37 : decode cX2_callOut 37 = .ok (.aload_n 0, 1) := by decide +kernel
theorem dX2_callOut_38 : decode cX2_callOut 38 = .ok (.getfield 25, 3) := by decide +kernel
theorem dX2_callOut_41 : decode cX2_callOut 41 = .ok (.iload_n 1, 1) := by decide +kernel
theorem dX2_callOut_42 : decode cX2_callOut 42 = .ok (.sipush 999, 3) := by decide +kernel
theorem dX2_callOut_45 : decode cX2_callOut 45 = .ok (.aload_n 0, 1) := by decide +kernel
theorem dX2_callOut_46 : decode cX2_callOut 46 = .ok (.getfield 25, 3) := by decide +kernel
theorem dX2_callOut_49 : decode cX2_callOut 49 = .ok (.iload_n 1, 1) := by decide +kernel
theorem dX2_callOut_50 : decode cX2_callOut 50 = .ok (.iaload, 1) := by decide +kernel
theorem dX2_callOut_51 : decode cX2_callOut 51 = .ok (.iconst 1, 1) := by decide +kernel
theorem dX2_callOut_52 : decode cX2_callOut 52 = .ok (.iadd, 1) := by decide +kernel
theorem dX2_callOut_53 : decode cX2_callOut 53 = .ok (.invokestatic 125, 3) := by decide +kernel
theorem dX2_callOut_56 : decode cX2_callOut 56 = .ok (.iastore, 1) := by decide +kernel
theorem dX2_callOut_57 : decode cX2_callOut 57 = .ok (.goto 23, 3) := by decide +kernel
theorem dX2_callOut_60 : decode cX2_callOut 60 = .ok (.aload_n 3, 1) := by decide +kernel
theorem dX2_callOut_61 : decode cX2_callOut 61 = .ok (.getfield 85, 3) := by decide +kernel
theorem dX2_callOut_64 : decode cX2_callOut 64 = .ok (.ifCond .ne 16, 3) := by decide +kernel
theorem dX2_callOut_67 : decode cX2_callOut 67 = .ok (.aload_n 3, 1) := by decide +kernel
theorem dX2_callOut_68 : decode cX2_callOut 68 = .ok (.iload_n 1, 1) := by decide +kernel
theorem dX2_callOut_69 : decode cX2_callOut 69 = .ok (.aload_n 0, 1) := by decide +kernel
theorem dX2_callOut_70 : decode cX2_callOut 70 = .ok (.getfield 9, 3) := by decide +kernel
theorem dX2_callOut_73 : decode cX2_callOut 73 = .ok (.aload_n 0, 1) := by decide +kernel
theorem dX2_callOut_74 : decode cX2_callOut 74 = .ok (.getfield 18, 3) := by decide +kernel
theorem dX2_callOut_77 : decode cX2_callOut 77 = .ok (.invokevirtual 131, 3) := by decide +kernel
theorem dX2_callOut_80 : decode cX2_callOut 80 = .ok (.iinc 2 1, 3) := by decide +kernel
theorem dX2_callOut_83 : decode cX2_callOut 83 = .ok (.goto (-81), 3) := by decide +kernel
theorem dX2_callOut_86 : decode cX2_callOut 86 = .ok (.return_, 1) := by decide +kernel
set_option maxRecDepth 20000 in
theorem ggX2_sellRegister_X2_fetches : GoodIn wsX2_sellRegister wsX2_fetches := goodIn_r _ [12, 7, 13, 14, 5, 15, 16, 17, 18, 11, 19, 20, 21, 22, 23, 24, 25, 26, 31, 32, 33, 34, 35, 36, 37, 38, 39, 40, 41] (by decide +kernel) (by decide +kernel)
set_option maxRecDepth 20000 in
theorem gX2_sellRegister_X2_fetches : GoodIn wsX2_sellRegister (wsV RX2 135 RX2 yX2_fetches wsX2_fetches) := goodIn_app (goodIn_of _ (by decide +kernel)) ggX2_sellRegister_X2_fetches
set_option maxRecDepth 20000 in
theorem ggX2_sellRegister_J7_fill_53178 : GoodIn wsX2_sellRegister wsJ7_fill_53178 := goodIn_r _ [30] (by decide +kernel) (by decide +kernel)
set_option maxRecDepth 20000 in
theorem gX2_sellRegister_J7_fill_53178 : GoodIn wsX2_sellRegister (va_wsS RX2 50 yJ7_fill_53178 wsJ7_fill_53178) := goodIn_app (goodIn_of _ (by decide +kernel)) ggX2_sellRegister_J7_fill_53178
theorem dX2_sellRegister_0 : decode cX2_sellRegister 0 = .ok (.aload_n 0, 1) := by decide +kernel
theorem dX2_sellRegister_1 : decode cX2_sellRegister 1 = .ok (.ldc 124, 2) := by decide +kernel
theorem dX2_sellRegister_3 : decode cX2_sellRegister 3 = .ok (.aload_n 0, 1) := by decide +kernel
theorem dX2_sellRegister_4 : decode cX2_sellRegister 4 = .ok (.getfield 28, 3) := by decide +kernel
