theorem dX2_sellRegister_7 : decode cX2_sellRegister 7 = .ok (.aload_n 0, 1) := by decide +kernel
theorem dX2_sellRegister_8 : decode cX2_sellRegister 8 = .ok (.invokevirtual 135, 3) := by decide +kernel
theorem dX2_sellRegister_11 : decode cX2_sellRegister 11 = .ok (.iadd, 1) := by decide +kernel
theorem dX2_sellRegister_12 : decode cX2_sellRegister 12 = .ok (.invokestatic 125, 3) := by decide +kernel
theorem dX2_sellRegister_15 : decode cX2_sellRegister 15 = .ok (.putfield 28, 3) := by decide +kernel
theorem dX2_sellRegister_18 : decode cX2_sellRegister 18 = .ok (.aload_n 0, 1) := by decide +kernel
theorem dX2_sellRegister_19 : decode cX2_sellRegister 19 = .ok (.getfield 25, 3) := by decide +kernel
theorem dX2_sellRegister_22 : decode cX2_sellRegister 22 = .ok (.iconst 0, 1) := by decide +kernel
theorem dX2_sellRegister_23 : decode cX2_sellRegister 23 = .ok (.invokestatic 50, 3) := by decide +kernel
theorem dX2_sellRegister_26 : decode cX2_sellRegister 26 = .ok (.return_, 1) := by decide +kernel
theorem dX3_init_0 : decode cX3_init 0 = .ok (.aload_n 0, 1) := by decide +kernel
theorem dX3_init_1 : decode cX3_init 1 = .ok (.invokespecial 3, 3) := by decide +kernel
theorem dX3_init_4 : decode cX3_init 4 = .ok (.aload_n 0, 1) := by decide +kernel
theorem dX3_init_5 : decode cX3_init 5 = .ok (.bipush 120, 2) := by decide +kernel
theorem dX3_init_7 : decode cX3_init 7 = .ok (.newarray .byte, 2) := by decide +kernel
theorem dX3_init_9 : decode cX3_init 9 = .ok (.putfield 9, 3) := by decide +kernel
theorem dX3_init_12 : decode cX3_init 12 = .ok (.aload_n 0, 1) := by decide +kernel
theorem dX3_init_13 : decode cX3_init 13 = .ok (.iconst 0, 1) := by decide +kernel
theorem dX3_init_14 : decode cX3_init 14 = .ok (.putfield 15, 3) := by decide +kernel
theorem dX3_init_17 : decode cX3_init 17 = .ok (.aload_n 0, 1) := by decide +kernel
theorem dX3_init_18 : decode cX3_init 18 = .ok (.iconst 0, 1) := by decide +kernel
theorem dX3_init_19 : decode cX3_init 19 = .ok (.putfield 19, 3) := by decide +kernel
theorem dX3_init_22 : decode cX3_init 22 = .ok (.aload_n 0, 1) := by decide +kernel
theorem dX3_init_23 : decode cX3_init 23 = .ok (.iconst 0, 1) := by decide +kernel
theorem dX3_init_24 : decode cX3_init 24 = .ok (.putfield 22, 3) := by decide +kernel
theorem dX3_init_27 : decode cX3_init 27 = .ok (.aload_n 0, 1) := by decide +kernel
theorem dX3_init_28 : decode cX3_init 28 = .ok (.iconst 0, 1) := by decide +kernel
theorem dX3_init_29 : decode cX3_init 29 = .ok (.putfield 25, 3) := by decide +kernel
theorem dX3_init_32 : decode cX3_init 32 = .ok (.aload_n 0, 1) := by decide +kernel
theorem dX3_init_33 : decode cX3_init 33 = .ok (.iconst 0, 1) := by decide +kernel
theorem dX3_init_34 : decode cX3_init 34 = .ok (.putfield 28, 3) := by decide +kernel
theorem dX3_init_37 : decode cX3_init 37 = .ok (.return_, 1) := by decide +kernel
theorem dX3_append_0 : decode cX3_append 0 = .ok (.aload_n 0, 1) := by decide +kernel
theorem dX3_append_1 : decode cX3_append 1 = .ok (.getfield 15, 3) := by decide +kernel
theorem dX3_append_4 : decode cX3_append 4 = .ok (.bipush 120, 2) := by decide +kernel
theorem dX3_append_6 : decode cX3_append 6 = .ok (.if_icmp .ge 23, 3) := by decide +kernel
theorem dX3_append_9 : decode cX3_append 9 = .ok (.aload_n 0, 1) := by decide +kernel
theorem dX3_append_10 : decode cX3_append 10 = .ok (.getfield 9, 3) := by decide +kernel
theorem dX3_append_13 : decode cX3_append 13 = .ok (.aload_n 0, 1) := by decide +kernel
theorem dX3_append_14 : decode cX3_append 14 = .ok (.getfield 15, 3) := by decide +kernel
theorem dX3_append_17 : decode cX3_append 17 = .ok (.iload_n 1, 1) := by decide +kernel
theorem dX3_append_18 : decode cX3_append 18 = .ok (.bastore, 1) := by decide +kernel
theorem dX3_append_19 : decode cX3_append 19 = .ok (.aload_n 0, 1) := by decide +kernel
theorem dX3_append_20 : decode cX3_append 20 = .ok (.dup, 1) := by decide +kernel
theorem dX3_append_21 : decode cX3_append 21 = .ok (.getfield 15, 3) := by decide +kernel
theorem dX3_append_24 : decode cX3_append 24 = .ok (.iconst 1, 1) := by decide +kernel
theorem dX3_append_25 : decode cX3_append 25 = .ok (.iadd, 1) := by decide +kernel
theorem dX3_append_26 : decode cX3_append 26 = .ok (.putfield 15, 3) := by decide +kernel
theorem dX3_append_29 : decode cX3_append 29 = .ok (.return_, 1) := by decide +kernel
theorem dX3_clear_0 : decode cX3_clear 0 = .ok (.aload_n 0, 1) := by decide +kernel
theorem dX3_clear_1 : decode cX3_clear 1 = .ok (.iconst 0, 1) := by decide +kernel
theorem dX3_clear_2 : decode cX3_clear 2 = .ok (.putfield 15, 3) := by decide +kernel
theorem dX3_clear_5 : decode cX3_clear 5 = .ok (.return_, 1) := by decide +kernel
set_option maxRecDepth 20000 in
theorem ggX3_readFirst_X3_readNext : GoodIn wsX3_readFirst wsX3_readNext := goodIn_r _ [6, 1, 7, 8, 9, 10, 11, 12, 13, 14, 15, 16, 17, 5, 18, 19, 20, 21, 22, 23, 24] (by decide +kernel) (by decide +kernel)
set_option maxRecDepth 20000 in
theorem gX3_readFirst_X3_readNext : GoodIn wsX3_readFirst (wsV RX3 31 RX3 yX3_readNext wsX3_readNext) := goodIn_app (goodIn_of _ (by decide +kernel)) ggX3_readFirst_X3_readNext
theorem dX3_readFirst_0 : decode cX3_readFirst 0 = .ok (.aload_n 0, 1) := by decide +kernel
theorem dX3_readFirst_1 : decode cX3_readFirst 1 = .ok (.iconst 0, 1) := by decide +kernel
theorem dX3_readFirst_2 : decode cX3_readFirst 2 = .ok (.putfield 28, 3) := by decide +kernel
theorem dX3_readFirst_5 : decode cX3_readFirst 5 = .ok (.aload_n 0, 1) := by decide +kernel
theorem dX3_readFirst_6 : decode cX3_readFirst 6 = .ok (.invokevirtual 31, 3) := by decide +kernel
theorem dX3_readFirst_9 : decode cX3_readFirst 9 = .ok (.return_, 1) := by decide +kernel
set_option maxRecDepth 20000 in
theorem ggX3_readNext_X3_tokenBegunBy : GoodIn wsX3_readNext wsX3_tokenBegunBy := goodIn_r _ [14] (by decide +kernel) (by decide +kernel)
set_option maxRecDepth 20000 in
theorem gX3_readNext_X3_tokenBegunBy : GoodIn wsX3_readNext (va_wsS RX3 34 yX3_tokenBegunBy wsX3_tokenBegunBy) := goodIn_app (goodIn_of _ (by decide +kernel)) ggX3_readNext_X3_tokenBegunBy
theorem dX3_readNext_0 : decode cX3_readNext 0 = .ok (.aload_n 0, 1) := by decide +kernel
theorem dX3_readNext_1 : decode cX3_readNext 1 = .ok (.getfield 28, 3) := by decide +kernel
theorem dX3_readNext_4 : decode cX3_readNext 4 = .ok (.aload_n 0, 1) := by decide +kernel
theorem dX3_readNext_5 : decode cX3_readNext 5 = .ok (.getfield 15, 3) := by decide +kernel
theorem dX3_readNext_8 : decode cX3_readNext 8 = .ok (.if_icmp .ge 30, 3) := by decide +kernel
theorem dX3_readNext_11 : decode cX3_readNext 11 = .ok (.aload_n 0, 1) := by decide +kernel
theorem dX3_readNext_12 : decode cX3_readNext 12 = .ok (.getfield 9, 3) := by decide +kernel
theorem dX3_readNext_15 : decode cX3_readNext 15 = .ok (.aload_n 0, 1) := by decide +kernel
theorem dX3_readNext_16 : decode cX3_readNext 16 = .ok (.getfield 28, 3) := by decide +kernel
theorem dX3_readNext_19 : decode cX3_readNext 19 = .ok (.baload, 1) := by decide +kernel
theorem dX3_readNext_20 : decode cX3_readNext 20 = .ok (.bipush 32, 2) := by decide +kernel
theorem dX3_readNext_22 : decode cX3_readNext 22 = .ok (.if_icmp .ne 16, 3) := by decide +kernel
theorem dX3_readNext_25 : decode cX3_readNext 25 = .ok (.aload_n 0, 1) := by decide +kernel
theorem dX3_readNext_26 : decode cX3_readNext 26 = .ok (.dup, 1) := by decide +kernel
theorem dX3_readNext_27 : decode cX3_readNext 27 = .ok (.getfield 28, 3) := by decide +kernel
theorem dX3_readNext_30 : decode cX3_readNext 30 = .ok (.iconst 1, 1) := by decide +kernel
theorem dX3_readNext_31 : decode cX3_readNext 31 = .ok (.iadd, 1) := by decide +kernel
theorem dX3_readNext_32 : decode cX3_readNext 32 = .ok (.putfield 28, 3) := by decide +kernel
theorem dX3_readNext_35 : decode cX3_readNext 35 = .ok (.goto (-35), 3) := by decide +kernel
theorem dX3_readNext_38 : decode cX3_readNext 38 = .ok (.aload_n 0, 1) := by decide +kernel
theorem dX3_readNext_39 : decode cX3_readNext 39 = .ok (.aload_n 0, 1) := by decide +kernel
theorem dX3_readNext_40 : decode cX3_readNext 40 = .ok (.getfield 28, 3) := by decide +kernel
theorem dX3_readNext_43 : decode cX3_readNext 43 = .ok (.putfield 22, 3) := by decide +kernel
theorem dX3_readNext_46 : decode cX3_readNext 46 = .ok (.aload_n 0, 1) := by decide +kernel
theorem dX3_readNext_47 : decode cX3_readNext 47 = .ok (.iconst 0, 1) := by decide +kernel
theorem dX3_readNext_48 : decode cX3_readNext 48 = .ok (.putfield 25, 3) := by decide +kernel
theorem dX3_readNext_51 : decode cX3_readNext 51 = .ok (.aload_n 0, 1) := by decide +kernel
theorem dX3_readNext_52 : decode cX3_readNext 52 = .ok (.aload_n 0, 1) := by decide +kernel
theorem dX3_readNext_53 : decode cX3_readNext 53 = .ok (.getfield 28, 3) := by decide +kernel
theorem dX3_readNext_56 : decode cX3_readNext 56 = .ok (.aload_n 0, 1) := by decide +kernel
theorem dX3_readNext_57 : decode cX3_readNext 57 = .ok (.getfield 15, 3) := by decide +kernel
theorem dX3_readNext_60 : decode cX3_readNext 60 = .ok (.if_icmp .ge 18, 3) := by decide +kernel
theorem dX3_readNext_63 : decode cX3_readNext 63 = .ok (.aload_n 0, 1) := by decide +kernel
theorem dX3_readNext_64 : decode cX3_readNext 64 = .ok (.getfield 9, 3) := by decide +kernel
theorem dX3_readNext_67 : decode cX3_readNext 67 = .ok (.aload_n 0, 1) := by decide +kernel
theorem dX3_readNext_68 : decode cX3_readNext 68 = .ok (.getfield 28, 3) := by decide +kernel
theorem dX3_readNext_71 : decode cX3_readNext 71 = .ok (.baload, 1) := by decide +kernel
theorem dX3_readNext_72 : decode cX3_readNext 72 = .ok (.invokestatic 34, 3) := by decide +kernel
theorem dX3_readNext_75 : decode cX3_readNext 75 = .ok (.goto 4, 3) := by decide +kernel
theorem dX3_readNext_78 : decode cX3_readNext 78 = .ok (.iconst 0, 1) := by decide +kernel
theorem dX3_readNext_79 : decode cX3_readNext 79 = .ok (.putfield 19, 3) := by decide +kernel
theorem dX3_readNext_82 : decode cX3_readNext 82 = .ok (.aload_n 0, 1) := by decide +kernel
theorem dX3_readNext_83 : decode cX3_readNext 83 = .ok (.getfield 19, 3) := by decide +kernel
theorem dX3_readNext_86 : decode cX3_readNext 86 = .ok (.iconst 3, 1) := by decide +kernel
theorem dX3_readNext_87 : decode cX3_readNext 87 = .ok (.if_icmp .eq 11, 3) := by decide +kernel
theorem dX3_readNext_90 : decode cX3_readNext 90 = .ok (.aload_n 0, 1) := by decide +kernel
theorem dX3_readNext_91 : decode cX3_readNext 91 = .ok (.getfield 19, 3) := by decide +kernel
theorem dX3_readNext_94 : decode cX3_readNext 94 = .ok (.iconst 4, 1) := by decide +kernel
theorem dX3_readNext_95 : decode cX3_readNext 95 = .ok (.if_icmp .ne 14, 3) := by decide +kernel
theorem dX3_readNext_98 : decode cX3_readNext 98 = .ok (.aload_n 0, 1) := by decide +kernel
theorem dX3_readNext_99 : decode cX3_readNext 99 = .ok (.dup, 1) := by decide +kernel
theorem dX3_readNext_100 : decode cX3_readNext 100 = .ok (.getfield 28, 3) := by decide +kernel
theorem dX3_readNext_103 : decode cX3_readNext 103 = .ok (.iconst 1, 1) := by decide +kernel
theorem dX3_readNext_104 : decode cX3_readNext 104 = .ok (.iadd, 1) := by decide +kernel
theorem dX3_readNext_105 : decode cX3_readNext 105 = .ok (.putfield 28, 3) := by decide +kernel
theorem dX3_readNext_108 : decode cX3_readNext 108 = .ok (.return_, 1) := by decide +kernel
theorem dX3_readNext_109 : decode cX3_readNext 109 = .ok (.aload_n 0, 1) := by decide +kernel
theorem dX3_readNext_110 : decode cX3_readNext 110 = .ok (.getfield 28, 3) := by decide +kernel
theorem dX3_readNext_113 : decode cX3_readNext 113 = .ok (.aload_n 0, 1) := by decide +kernel
theorem dX3_readNext_114 : decode cX3_readNext 114 = .ok (.getfield 15, 3) := by decide +kernel
theorem dX3_readNext_117 : decode cX3_readNext 117 = .ok (.if_icmp .ge 73, 3) := by decide +kernel
theorem dX3_readNext_120 : decode cX3_readNext 120 = .ok (.aload_n 0, 1) := by decide +kernel
theorem dX3_readNext_121 : decode cX3_readNext 121 = .ok (.getfield 9, 3) := by decide +kernel
theorem dX3_readNext_124 : decode cX3_readNext 124 = .ok (.aload_n 0, 1) := by decide +kernel
theorem dX3_readNext_125 : decode cX3_readNext 125 = .ok (.getfield 28, 3) := by decide +kernel
theorem dX3_readNext_128 : decode cX3_readNext 128 = .ok (.baload, 1) := by decide +kernel
theorem dX3_readNext_129 : decode cX3_readNext 129 = .ok (.invokestatic 34, 3) := by decide +kernel
theorem dX3_readNext_132 : decode cX3_readNext 132 = .ok (.aload_n 0, 1) := by decide +kernel
theorem dX3_readNext_133 : decode cX3_readNext 133 = .ok (.getfield 19, 3) := by decide +kernel
theorem dX3_readNext_136 : decode cX3_readNext 136 = .ok (.if_icmp .ne 54, 3) := by decide +kernel
theorem dX3_readNext_139 : decode cX3_readNext 139 = .ok (.aload_n 0, 1) := by decide +kernel
theorem dX3_readNext_140 : decode cX3_readNext 140 = .ok (.getfield 19, 3) := by decide +kernel
theorem dX3_readNext_143 : decode cX3_readNext 143 = .ok (.iconst 2, 1) := by decide +kernel
theorem dX3_readNext_144 : decode cX3_readNext 144 = .ok (.if_icmp .ne 33, 3) := by decide +kernel
theorem dX3_readNext_147 : decode cX3_readNext 147 = .ok (.aload_n 0, 1) := by decide +kernel
theorem dX3_readNext_148 : decode cX3_readNext 148 = .ok (.sipush 10000, 3) := by decide +kernel
theorem dX3_readNext_151 : decode cX3_readNext 151 = .ok (.aload_n 0, 1) := by decide +kernel
theorem dX3_readNext_152 : decode cX3_readNext 152 = .ok (.getfield 25, 3) := by decide +kernel
theorem dX3_readNext_155 : decode cX3_readNext 155 = .ok (.bipush 10, 2) := by decide +kernel
theorem dX3_readNext_157 : decode cX3_readNext 157 = .ok (.imul, 1) := by decide +kernel
theorem dX3_readNext_158 : decode cX3_readNext 158 = .ok (.aload_n 0, 1) := by decide +kernel
theorem dX3_readNext_159 : decode cX3_readNext 159 = .ok (.getfield 9, 3) := by decide +kernel
theorem dX3_readNext_162 : decode cX3_readNext 162 = .ok (.aload_n 0, 1) := by decide +kernel
theorem dX3_readNext_163 : decode cX3_readNext 163 = .ok (.getfield 28, 3) := by decide +kernel
theorem dX3_readNext_166 : decode cX3_readNext 166 = .ok (.baload, 1) := by decide +kernel
theorem dX3_readNext_167 : decode cX3_readNext 167 = .ok (.bipush 48, 2) := by decide +kernel
theorem dX3_readNext_169 : decode cX3_readNext 169 = .ok (.isub, 1) := by decide +kernel
theorem dX3_readNext_170 : decode cX3_readNext 170 = .ok (.iadd, 1) := by decide +kernel
theorem dX3_readNext_171 : decode cX3_readNext 171 = .ok (.invokestatic 38, 3) := by decide +kernel
theorem dX3_readNext_174 : decode cX3_readNext 174 = .ok (.putfield 25, 3) := by decide +kernel
theorem dX3_readNext_177 : decode cX3_readNext 177 = .ok (.aload_n 0, 1) := by decide +kernel
theorem dX3_readNext_178 : decode cX3_readNext 178 = .ok (.dup, 1) := by decide +kernel
theorem dX3_readNext_179 : decode cX3_readNext 179 = .ok (.getfield 28, 3) := by decide +kernel
theorem dX3_readNext_182 : decode cX3_readNext 182 = .ok (.iconst 1, 1) := by decide +kernel
theorem dX3_readNext_183 : decode cX3_readNext 183 = .ok (.iadd, 1) := by decide +kernel
theorem dX3_readNext_184 : decode cX3_readNext 184 = .ok (.putfield 28, 3) := by decide +kernel
theorem dX3_readNext_187 : decode cX3_readNext 187 = .ok (.goto (-78), 3) := by decide +kernel
theorem dX3_readNext_190 : decode cX3_readNext 190 = .ok (.return_, 1) := by decide +kernel
set_option maxRecDepth 20000 in
theorem ggX3_isWord_J0_length_8abf5 : GoodIn wsX3_isWord wsJ0_length_8abf5 := goodIn_r _ [9, 10, 11, 12, 13, 8, 14, 15, 16] (by decide +kernel) (by decide +kernel)
set_option maxRecDepth 20000 in
theorem gX3_isWord_J0_length_8abf5 : GoodIn wsX3_isWord (wsV RX3 44 RJ0 yJ0_length_8abf5 wsJ0_length_8abf5) := goodIn_app (goodIn_of _ (by decide +kernel)) ggX3_isWord_J0_length_8abf5
set_option maxRecDepth 20000 in
theorem ggX3_isWord_J0_charAt_5068e : GoodIn wsX3_isWord wsJ0_charAt_5068e := goodIn_r _ [20, 10, 21, 22, 23, 8, 24, 15, 16, 25, 26, 27, 28, 29, 30, 31, 32, 33, 34, 35, 36, 37, 38, 39, 40, 41, 42, 43, 44, 45, 46, 47, 48, 49, 50, 51, 52, 53] (by decide +kernel) (by decide +kernel)
set_option maxRecDepth 20000 in
theorem gX3_isWord_J0_charAt_5068e : GoodIn wsX3_isWord (wsV RX3 49 RJ0 yJ0_charAt_5068e wsJ0_charAt_5068e) := goodIn_app (goodIn_of _ (by decide +kernel)) ggX3_isWord_J0_charAt_5068e
theorem dX3_isWord_0 : decode cX3_isWord 0 = .ok (.aload_n 0, 1) := by decide +kernel
theorem dX3_isWord_1 : decode cX3_isWord 1 = .ok (.getfield 19, 3) := by decide +kernel
theorem dX3_isWord_4 : decode cX3_isWord 4 = .ok (.iconst 1, 1) := by decide +kernel
theorem dX3_isWord_5 : decode cX3_isWord 5 = .ok (.if_icmp .ne 19, 3) := by decide +kernel
theorem dX3_isWord_8 : decode cX3_isWord 8 = .ok (.aload_n 0, 1) := by decide +kernel
theorem dX3_isWord_9 : decode cX3_isWord 9 = .ok (.getfield 28, 3) := by decide +kernel
theorem dX3_isWord_12 : decode cX3_isWord 12 = .ok (.aload_n 0, 1) := by decide +kernel
theorem dX3_isWord_13 : decode cX3_isWord 13 = .ok (.getfield 22, 3) := by decide +kernel
theorem dX3_isWord_16 : decode cX3_isWord 16 = .ok (.isub, 1) := by decide +kernel
theorem dX3_isWord_17 : decode cX3_isWord 17 = .ok (.aload_n 1, 1) := by decide +kernel
theorem dX3_isWord_18 : decode cX3_isWord 18 = .ok (.invokevirtual 44, 3) := by decide +kernel
theorem dX3_isWord_21 : decode cX3_isWord 21 = .ok (.if_icmp .eq 5, 3) := by decide +kernel
theorem dX3_isWord_24 : decode cX3_isWord 24 = .ok (.iconst 0, 1) := by decide +kernel
theorem dX3_isWord_25 : decode cX3_isWord 25 = .ok (.ireturn, 1) := by decide +kernel
theorem dX3_isWord_26 : decode cX3_isWord 26 = .ok (.iconst 0, 1) := by decide +kernel
theorem dX3_isWord_27 : decode cX3_isWord 27 = .ok (.istore_n 2, 1) := by decide +kernel
theorem dX3_isWord_28 : decode cX3_isWord 28 = .ok (.iload_n 2, 1) := by decide +kernel
theorem dX3_isWord_29 : decode cX3_isWord 29 = .ok (.aload_n 1, 1) := by decide +kernel
theorem dX3_isWord_30 : decode cX3_isWord 30 = .ok (.invokevirtual 44, 3) := by decide +kernel
theorem dX3_isWord_33 : decode cX3_isWord 33 = .ok (.if_icmp .ge 30, 3) := by decide +kernel
theorem dX3_isWord_36 : decode cX3_isWord 36 = .ok (.aload_n 0, 1) := by decide +kernel
theorem dX3_isWord_37 : decode cX3_isWord 37 = .ok (.getfield 9, 3) := by decide +kernel
theorem dX3_isWord_40 : decode cX3_isWord 40 = .ok (.aload_n 0, 1) := by decide +kernel
theorem dX3_isWord_41 : decode cX3_isWord 41 = .ok (.getfield 22, 3) := by decide +kernel
theorem dX3_isWord_44 : decode cX3_isWord 44 = .ok (.iload_n 2, 1) := by decide +kernel
theorem dX3_isWord_45 : decode cX3_isWord 45 = .ok (.iadd, 1) := by decide +kernel
theorem dX3_isWord_46 : decode cX3_isWord 46 = .ok (.baload, 1) := by decide +kernel
theorem dX3_isWord_47 : decode cX3_isWord 47 = .ok (.aload_n 1, 1) := by decide +kernel
theorem dX3_isWord_48 : decode cX3_isWord 48 = .ok (.iload_n 2, 1) := by decide +kernel
theorem dX3_isWord_49 : decode cX3_isWord 49 = .ok (.invokevirtual 49, 3) := by decide +kernel
theorem dX3_isWord_52 : decode cX3_isWord 52 = .ok (.if_icmp .eq 5, 3) := by decide +kernel
theorem dX3_isWord_55 : decode cX3_isWord 55 = .ok (.iconst 0, 1) := by decide +kernel
theorem dX3_isWord_56 : decode cX3_isWord 56 = .ok (.ireturn, 1) := by decide +kernel
theorem dX3_isWord_57 : decode cX3_isWord 57 = .ok (.iinc 2 1, 3) := by decide +kernel
theorem dX3_isWord_60 : decode cX3_isWord 60 = .ok (.goto (-32), 3) := by decide +kernel
theorem dX3_isWord_63 : decode cX3_isWord 63 = .ok (.iconst 1, 1) := by decide +kernel
theorem dX3_isWord_64 : decode cX3_isWord 64 = .ok (.ireturn, 1) := by decide +kernel
theorem dX3_tokenBegunBy_0 : decode cX3_tokenBegunBy 0 = .ok (.iload_n 0, 1) := by decide +kernel
theorem dX3_tokenBegunBy_1 : decode cX3_tokenBegunBy 1 = .ok (.bipush 97, 2) := by decide +kernel
theorem dX3_tokenBegunBy_3 : decode cX3_tokenBegunBy 3 = .ok (.if_icmp .lt 11, 3) := by decide +kernel
theorem dX3_tokenBegunBy_6 : decode cX3_tokenBegunBy 6 = .ok (.iload_n 0, 1) := by decide +kernel
theorem dX3_tokenBegunBy_7 : decode cX3_tokenBegunBy 7 = .ok (.bipush 122, 2) := by decide +kernel
theorem dX3_tokenBegunBy_9 : decode cX3_tokenBegunBy 9 = .ok (.if_icmp .gt 5, 3) := by decide +kernel
theorem dX3_tokenBegunBy_12 : decode cX3_tokenBegunBy 12 = .ok (.iconst 1, 1) := by decide +kernel
theorem dX3_tokenBegunBy_13 : decode cX3_tokenBegunBy 13 = .ok (.ireturn, 1) := by decide +kernel
theorem dX3_tokenBegunBy_14 : decode cX3_tokenBegunBy 14 = .ok (.iload_n 0, 1) := by decide +kernel
theorem dX3_tokenBegunBy_15 : decode cX3_tokenBegunBy 15 = .ok (.bipush 48, 2) := by decide +kernel
theorem dX3_tokenBegunBy_17 : decode cX3_tokenBegunBy 17 = .ok (.if_icmp .lt 11, 3) := by decide +kernel
theorem dX3_tokenBegunBy_20 : decode cX3_tokenBegunBy 20 = .ok (.iload_n 0, 1) := by decide +kernel
theorem dX3_tokenBegunBy_21 : decode cX3_tokenBegunBy 21 = .ok (.bipush 57, 2) := by decide +kernel
theorem dX3_tokenBegunBy_23 : decode cX3_tokenBegunBy 23 = .ok (.if_icmp .gt 5, 3) := by decide +kernel
theorem dX3_tokenBegunBy_26 : decode cX3_tokenBegunBy 26 = .ok (.iconst 2, 1) := by decide +kernel
theorem dX3_tokenBegunBy_27 : decode cX3_tokenBegunBy 27 = .ok (.ireturn, 1) := by decide +kernel
theorem dX3_tokenBegunBy_28 : decode cX3_tokenBegunBy 28 = .ok (.iload_n 0, 1) := by decide +kernel
theorem dX3_tokenBegunBy_29 : decode cX3_tokenBegunBy 29 = .ok (.bipush 59, 2) := by decide +kernel
theorem dX3_tokenBegunBy_31 : decode cX3_tokenBegunBy 31 = .ok (.if_icmp .ne 7, 3) := by decide +kernel
theorem dX3_tokenBegunBy_34 : decode cX3_tokenBegunBy 34 = .ok (.iconst 3, 1) := by decide +kernel
theorem dX3_tokenBegunBy_35 : decode cX3_tokenBegunBy 35 = .ok (.goto 4, 3) := by decide +kernel
theorem dX3_tokenBegunBy_38 : decode cX3_tokenBegunBy 38 = .ok (.iconst 4, 1) := by decide +kernel
theorem dX3_tokenBegunBy_39 : decode cX3_tokenBegunBy 39 = .ok (.ireturn, 1) := by decide +kernel
theorem dX4_init_0 : decode cX4_init 0 = .ok (.aload_n 0, 1) := by decide +kernel
theorem dX4_init_1 : decode cX4_init 1 = .ok (.invokespecial 3, 3) := by decide +kernel
theorem dX4_init_4 : decode cX4_init 4 = .ok (.aload_n 0, 1) := by decide +kernel
theorem dX4_init_5 : decode cX4_init 5 = .ok (.iconst 0, 1) := by decide +kernel
theorem dX4_init_6 : decode cX4_init 6 = .ok (.putfield 9, 3) := by decide +kernel
theorem dX4_init_9 : decode cX4_init 9 = .ok (.aload_n 0, 1) := by decide +kernel
theorem dX4_init_10 : decode cX4_init 10 = .ok (.iconst 0, 1) := by decide +kernel
theorem dX4_init_11 : decode cX4_init 11 = .ok (.putfield 15, 3) := by decide +kernel
theorem dX4_init_14 : decode cX4_init 14 = .ok (.aload_n 0, 1) := by decide +kernel
theorem dX4_init_15 : decode cX4_init 15 = .ok (.aload_n 1, 1) := by decide +kernel
theorem dX4_init_16 : decode cX4_init 16 = .ok (.putfield 18, 3) := by decide +kernel
theorem dX4_init_19 : decode cX4_init 19 = .ok (.aload_n 0, 1) := by decide +kernel
theorem dX4_init_20 : decode cX4_init 20 = .ok (.aload_n 2, 1) := by decide +kernel
theorem dX4_init_21 : decode cX4_init 21 = .ok (.putfield 22, 3) := by decide +kernel
theorem dX4_init_24 : decode cX4_init 24 = .ok (.return_, 1) := by decide +kernel
set_option maxRecDepth 20000 in
theorem ggX4_readItems_X3_readFirst : GoodIn wsX4_readItems wsX3_readFirst := goodIn_r _ [8, 9, 10, 11, 12, 7, 13, 14, 15, 16, 17, 18, 19, 20, 21, 22, 23, 24, 25, 146, 147, 148, 149, 150, 151] (by decide +kernel) (by decide +kernel)
set_option maxRecDepth 20000 in
theorem gX4_readItems_X3_readFirst : GoodIn wsX4_readItems (wsV RX4 26 RX3 yX3_readFirst wsX3_readFirst) := goodIn_app (goodIn_of _ (by decide +kernel)) ggX4_readItems_X3_readFirst
set_option maxRecDepth 20000 in
theorem ggX4_readItems_X4_readItem : GoodIn wsX4_readItems wsX4_readItem := goodIn_r _ [30, 1, 31, 32, 33, 7, 34, 18, 9, 16, 15, 35, 36, 37, 38, 39, 40, 41, 42, 43, 44, 45, 46, 47, 48, 49, 50, 51, 52, 53, 54, 55, 56, 57, 58, 59, 60, 61, 62, 63, 64, 65, 66, 67, 68, 69, 70, 71, 72, 73, 74, 75, 76, 77, 78, 79, 80, 81, 82, 83, 84, 85, 86, 29, 87, 88, 89, 90, 91, 92, 93, 11, 12, 13, 14, 17, 19, 20, 21, 22, 23, 24, 25, 94, 95, 96, 97, 3, 98, 99, 100, 101, 102, 103, 104, 105, 106, 107, 108, 109, 110, 111, 112, 113, 114, 115, 116, 117, 118, 119, 120, 121, 122, 123, 124, 125, 126, 127, 128, 129, 130, 131, 132, 133, 134, 135, 136, 137, 138, 139, 140, 141, 142, 143, 144, 145, 146, 147, 148, 149, 150, 151, 152, 153, 154, 155, 156, 157, 158, 159, 160, 161, 162, 163, 164, 165, 166, 167, 168] (by decide +kernel) (by decide +kernel)
set_option maxRecDepth 20000 in
theorem gX4_readItems_X4_readItem : GoodIn wsX4_readItems (wsV RX4 31 RX4 yX4_readItem wsX4_readItem) := goodIn_app (goodIn_of _ (by decide +kernel)) ggX4_readItems_X4_readItem
set_option maxRecDepth 20000 in
theorem ggX4_readItems_X3_readNext : GoodIn wsX4_readItems wsX3_readNext := goodIn_r _ [13, 9, 14, 15, 16, 17, 18, 19, 20, 21, 22, 23, 24, 7, 25, 146, 147, 148, 149, 150, 151] (by decide +kernel) (by decide +kernel)
set_option maxRecDepth 20000 in
theorem gX4_readItems_X3_readNext : GoodIn wsX4_readItems (wsV RX4 38 RX3 yX3_readNext wsX3_readNext) := goodIn_app (goodIn_of _ (by decide +kernel)) ggX4_readItems_X3_readNext
theorem dX4_readItems_0 : decode cX4_readItems 0 = .ok (.aload_n 0, 1) := by decide +kernel
theorem dX4_readItems_1 : decode cX4_readItems 1 = .ok (.getfield 18, 3) := by decide +kernel
theorem dX4_readItems_4 : decode cX4_readItems 4 = .ok (.invokevirtual 26, 3) := by decide +kernel
theorem dX4_readItems_7 : decode cX4_readItems 7 = .ok (.aload_n 0, 1) := by decide +kernel
theorem dX4_readItems_8 : decode cX4_readItems 8 = .ok (.getfield 9, 3) := by decide +kernel
theorem dX4_readItems_11 : decode cX4_readItems 11 = .ok (.bipush 120, 2) := by decide +kernel
theorem dX4_readItems_13 : decode cX4_readItems 13 = .ok (.if_icmp .ge 59, 3) := by decide +kernel
theorem dX4_readItems_16 : decode cX4_readItems 16 = .ok (.aload_n 0, 1) := by decide +kernel
theorem dX4_readItems_17 : decode cX4_readItems 17 = .ok (.invokevirtual 31, 3) := by decide +kernel
theorem dX4_readItems_20 : decode cX4_readItems 20 = .ok (.ifCond .ne 5, 3) := by decide +kernel
theorem dX4_readItems_23 : decode cX4_readItems 23 = .ok (.iconst 0, 1) := by decide +kernel
theorem dX4_readItems_24 : decode cX4_readItems 24 = .ok (.ireturn, 1) := by decide +kernel
theorem dX4_readItems_25 : decode cX4_readItems 25 = .ok (.aload_n 0, 1) := by decide +kernel
theorem dX4_readItems_26 : decode cX4_readItems 26 = .ok (.dup, 1) := by decide +kernel
theorem dX4_readItems_27 : decode cX4_readItems 27 = .ok (.getfield 9, 3) := by decide +kernel
theorem dX4_readItems_30 : decode cX4_readItems 30 = .ok (.iconst 1, 1) := by decide +kernel
theorem dX4_readItems_31 : decode cX4_readItems 31 = .ok (.iadd, 1) := by decide +kernel
theorem dX4_readItems_32 : decode cX4_readItems 32 = .ok (.putfield 9, 3) := by decide +kernel
theorem dX4_readItems_35 : decode cX4_readItems 35 = .ok (.aload_n 0, 1) := by decide +kernel
theorem dX4_readItems_36 : decode cX4_readItems 36 = .ok (.getfield 18, 3) := by decide +kernel
theorem dX4_readItems_39 : decode cX4_readItems 39 = .ok (.getfield 35, 3) := by decide +kernel
theorem dX4_readItems_42 : decode cX4_readItems 42 = .ok (.iconst 3, 1) := by decide +kernel
theorem dX4_readItems_43 : decode cX4_readItems 43 = .ok (.if_icmp .eq 19, 3) := by decide +kernel
theorem dX4_readItems_46 : decode cX4_readItems 46 = .ok (.aload_n 0, 1) := by decide +kernel
theorem dX4_readItems_47 : decode cX4_readItems 47 = .ok (.getfield 18, 3) := by decide +kernel
theorem dX4_readItems_50 : decode cX4_readItems 50 = .ok (.getfield 35, 3) := by decide +kernel
theorem dX4_readItems_53 : decode cX4_readItems 53 = .ok (.ifCond .ne 7, 3) := by decide +kernel
theorem dX4_readItems_56 : decode cX4_readItems 56 = .ok (.iconst 1, 1) := by decide +kernel
theorem dX4_readItems_57 : decode cX4_readItems 57 = .ok (.goto 4, 3) := by decide +kernel
theorem dX4_readItems_60 : decode cX4_readItems 60 = .ok (.iconst 0, 1) := by decide +kernel
theorem dX4_readItems_61 : decode cX4_readItems 61 = .ok (.ireturn, 1) := by decide +kernel
theorem dX4_readItems_62 : decode cX4_readItems 62 = .ok (.aload_n 0, 1) := by decide +kernel
theorem dX4_readItems_63 : decode cX4_readItems 63 = .ok (.getfield 18, 3) := by decide +kernel
theorem dX4_readItems_66 : decode cX4_readItems 66 = .ok (.invokevirtual 38, 3) := by decide +kernel
theorem dX4_readItems_69 : decode cX4_readItems 69 = .ok (.goto (-62), 3) := by decide +kernel
theorem dX4_readItems_72 : decode cX4_readItems 72 = .ok (.iconst 0, 1) := by decide +kernel
theorem dX4_readItems_73 : decode cX4_readItems 73 = .ok (.ireturn, 1) := by decide +kernel
set_option maxRecDepth 20000 in
theorem ggX4_readItem_X3_isWord : GoodIn wsX4_readItem wsX3_isWord := goodIn_r _ [6, 7, 8, 9, 10, 11, 12, 13, 14, 15, 16, 17, 18, 19, 20, 21, 22, 23, 24, 25, 26, 27, 28, 29, 30, 31, 32, 33, 34, 35, 36, 37, 38, 39, 40, 41, 42, 43, 44, 45, 46, 47, 48, 49, 50, 51, 52, 53, 54, 55, 56, 57, 58, 59, 136, 137, 138, 139, 140, 141] (by decide +kernel) (by decide +kernel)
set_option maxRecDepth 20000 in
theorem gX4_readItem_X3_isWord : GoodIn wsX4_readItem (wsV RX4 43 RX3 yX3_isWord wsX3_isWord) := goodIn_app (goodIn_of _ (by decide +kernel)) ggX4_readItem_X3_isWord
set_option maxRecDepth 20000 in
theorem ggX4_readItem_X4_readCrier : GoodIn wsX4_readItem wsX4_readCrier := goodIn_r _ [64, 1, 65, 66, 67, 68, 69, 70, 71, 72, 5, 73, 8, 74, 10, 9, 75, 7, 76, 77, 78, 79, 80, 81, 82, 83, 84, 85, 63, 86, 87, 88, 89, 90, 91, 92, 2, 3, 4, 6, 11, 12, 13, 14, 15, 16, 17, 18, 19, 20, 21, 22, 23, 24, 25, 26, 27, 28, 29, 30, 31, 32, 33, 34, 35, 36, 37, 38, 39, 40, 41, 42, 43, 44, 45, 46, 47, 48, 49, 50, 51, 52, 53, 54, 55, 56, 57, 58, 59, 132, 133, 134, 135, 142, 143, 144, 145, 146, 147, 148, 149, 150, 151, 152, 136, 137, 138, 139, 140, 141] (by decide +kernel) (by decide +kernel)
set_option maxRecDepth 20000 in
theorem gX4_readItem_X4_readCrier : GoodIn wsX4_readItem (wsV RX4 47 RX4 yX4_readCrier wsX4_readCrier) := goodIn_app (goodIn_of _ (by decide +kernel)) ggX4_readItem_X4_readCrier
set_option maxRecDepth 20000 in
theorem ggX4_readItem_X4_readCry : GoodIn wsX4_readItem wsX4_readCry := goodIn_r _ [96, 1, 66, 65, 97, 70, 71, 72, 5, 73, 8, 74, 10, 9, 75, 7, 76, 77, 78, 79, 80, 81, 82, 83, 84, 85, 63, 86, 87, 88, 132, 133, 134, 135, 142, 143, 144, 145, 146, 147, 148, 149, 150, 151, 152, 136, 137, 138, 139, 140, 141] (by decide +kernel) (by decide +kernel)
set_option maxRecDepth 20000 in
theorem gX4_readItem_X4_readCry : GoodIn wsX4_readItem (wsV RX4 52 RX4 yX4_readCry wsX4_readCry) := goodIn_app (goodIn_of _ (by decide +kernel)) ggX4_readItem_X4_readCry
set_option maxRecDepth 20000 in
theorem ggX4_readItem_X4_wordOf : GoodIn wsX4_readItem wsX4_wordOf := goodIn_r _ [100] (by decide +kernel) (by decide +kernel)
set_option maxRecDepth 20000 in
theorem gX4_readItem_X4_wordOf : GoodIn wsX4_readItem (va_wsS RX4 55 yX4_wordOf wsX4_wordOf) := goodIn_app (goodIn_of _ (by decide +kernel)) ggX4_readItem_X4_wordOf
set_option maxRecDepth 20000 in
theorem ggX4_readItem_X4_readResident : GoodIn wsX4_readItem wsX4_readResident := goodIn_r _ [104, 65, 105, 1, 106, 66, 107, 108, 109, 110, 111, 112, 113, 114, 115, 116, 117, 118, 119, 120, 121, 122, 123, 124, 125, 126, 127, 128, 129, 130, 131, 70, 71, 72, 5, 73, 8, 74, 10, 9, 75, 7, 76, 77, 78, 79, 80, 81, 82, 89, 90, 91, 63, 92, 2, 3, 4, 6, 11, 12, 13, 14, 15, 16, 17, 18, 19, 20, 21, 22, 23, 24, 25, 26, 27, 28, 29, 30, 31, 32, 33, 34, 35, 36, 37, 38, 39, 40, 41, 42, 43, 44, 45, 46, 47, 48, 49, 50, 51, 52, 53, 54, 55, 56, 57, 58, 59, 83, 84, 85, 86, 87, 88, 132, 133, 134, 135, 142, 143, 144, 145, 146, 147, 148, 149, 150, 151, 152, 153, 154, 155, 156, 157, 158, 136, 137, 138, 139, 140, 141] (by decide +kernel) (by decide +kernel)
set_option maxRecDepth 20000 in
theorem gX4_readItem_X4_readResident : GoodIn wsX4_readItem (wsV RX4 59 RX4 yX4_readResident wsX4_readResident) := goodIn_app (goodIn_of _ (by decide +kernel)) ggX4_readItem_X4_readResident
theorem dX4_readItem_0 : decode cX4_readItem 0 = .ok (.aload_n 0, 1) := by decide +kernel
theorem dX4_readItem_1 : decode cX4_readItem 1 = .ok (.getfield 18, 3) := by decide +kernel
theorem dX4_readItem_4 : decode cX4_readItem 4 = .ok (.ldc 41, 2) := by decide +kernel
theorem dX4_readItem_6 : decode cX4_readItem 6 = .ok (.invokevirtual 43, 3) := by decide +kernel
theorem dX4_readItem_9 : decode cX4_readItem 9 = .ok (.ifCond .eq 8, 3) := by decide +kernel
theorem dX4_readItem_12 : decode cX4_readItem 12 = .ok (.aload_n 0, 1) := by decide +kernel
theorem dX4_readItem_13 : decode cX4_readItem 13 = .ok (.invokevirtual 47, 3) := by decide +kernel
theorem dX4_readItem_16 : decode cX4_readItem 16 = .ok (.ireturn, 1) := by decide +kernel
theorem dX4_readItem_17 : decode cX4_readItem 17 = .ok (.aload_n 0, 1) := by decide +kernel
theorem dX4_readItem_18 : decode cX4_readItem 18 = .ok (.getfield 18, 3) := by decide +kernel
theorem dX4_readItem_21 : decode cX4_readItem 21 = .ok (.ldc 50, 2) := by decide +kernel
theorem dX4_readItem_23 : decode cX4_readItem 23 = .ok (.invokevirtual 43, 3) := by decide +kernel
theorem dX4_readItem_26 : decode cX4_readItem 26 = .ok (.ifCond .eq 8, 3) := by decide +kernel
theorem dX4_readItem_29 : decode cX4_readItem 29 = .ok (.aload_n 0, 1) := by decide +kernel
theorem dX4_readItem_30 : decode cX4_readItem 30 = .ok (.invokevirtual 52, 3) := by decide +kernel
theorem dX4_readItem_33 : decode cX4_readItem 33 = .ok (.ireturn, 1) := by decide +kernel
theorem dX4_readItem_34 : decode cX4_readItem 34 = .ok (.iconst 0, 1) := by decide +kernel
theorem dX4_readItem_35 : decode cX4_readItem 35 = .ok (.istore_n 1, 1) := by decide +kernel
theorem dX4_readItem_36 : decode cX4_readItem 36 = .ok (.iload_n 1, 1) := by decide +kernel
theorem dX4_readItem_37 : decode cX4_readItem 37 = .ok (.bipush 7, 2) := by decide +kernel
theorem dX4_readItem_39 : decode cX4_readItem 39 = .ok (.if_icmp .ge 29, 3) := by decide +kernel
theorem dX4_readItem_42 : decode cX4_readItem 42 = .ok (.aload_n 0, 1) := by decide +kernel
theorem dX4_readItem_43 : decode cX4_readItem 43 = .ok (.getfield 18, 3) := by decide +kernel
theorem dX4_readItem_46 : decode cX4_readItem 46 = .ok (.iload_n 1, 1) := by decide +kernel
theorem dX4_readItem_47 : decode cX4_readItem 47 = .ok (.invokestatic 55, 3) := by decide +kernel
theorem dX4_readItem_50 : decode cX4_readItem 50 = .ok (.invokevirtual 43, 3) := by decide +kernel
theorem dX4_readItem_53 : decode cX4_readItem 53 = .ok (.ifCond .eq 9, 3) := by decide +kernel
theorem dX4_readItem_56 : decode cX4_readItem 56 = .ok (.aload_n 0, 1) := by decide +kernel
theorem dX4_readItem_57 : decode cX4_readItem 57 = .ok (.iload_n 1, 1) := by decide +kernel
theorem dX4_readItem_58 : decode cX4_readItem 58 = .ok (.invokevirtual 59, 3) := by decide +kernel
theorem dX4_readItem_61 : decode cX4_readItem 61 = .ok (.ireturn, 1) := by decide +kernel
theorem dX4_readItem_62 : decode cX4_readItem 62 = .ok (.iinc 1 1, 3) := by decide +kernel
theorem dX4_readItem_65 : decode cX4_readItem 65 = .ok (.goto (-29), 3) := by decide +kernel
theorem dX4_readItem_68 : decode cX4_readItem 68 = .ok (.iconst 0, 1) := by decide +kernel
theorem dX4_readItem_69 : decode cX4_readItem 69 = .ok (.ireturn, 1) := by decide +kernel
theorem dX4_wordOf_0 : decode cX4_wordOf 0 = .ok (.iload_n 0, 1) := by decide +kernel
theorem dX4_wordOf_1 : decode cX4_wordOf 1 = .ok (.tableswitch 57 1 6 #[39, 42, 45, 48, 51, 54], 39) := by decide +kernel
theorem dX4_wordOf_40 : decode cX4_wordOf 40 = .ok (.ldc 63, 2) := by decide +kernel
theorem dX4_wordOf_42 : decode cX4_wordOf 42 = .ok (.areturn, 1) := by decide +kernel
theorem dX4_wordOf_43 : decode cX4_wordOf 43 = .ok (.ldc 65, 2) := by decide +kernel
theorem dX4_wordOf_45 : decode cX4_wordOf 45 = .ok (.areturn, 1) := by decide +kernel
theorem dX4_wordOf_46 : decode cX4_wordOf 46 = .ok (.ldc 67, 2) := by decide +kernel
theorem dX4_wordOf_48 : decode cX4_wordOf 48 = .ok (.areturn, 1) := by decide +kernel
theorem dX4_wordOf_49 : decode cX4_wordOf 49 = .ok (.ldc 69, 2) := by decide +kernel
theorem dX4_wordOf_51 : decode cX4_wordOf 51 = .ok (.areturn, 1) := by decide +kernel
theorem dX4_wordOf_52 : decode cX4_wordOf 52 = .ok (.ldc 71, 2) := by decide +kernel
theorem dX4_wordOf_54 : decode cX4_wordOf 54 = .ok (.areturn, 1) := by decide +kernel
theorem dX4_wordOf_55 : decode cX4_wordOf 55 = .ok (.ldc 73, 2) := by decide +kernel
theorem dX4_wordOf_57 : decode cX4_wordOf 57 = .ok (.areturn, 1) := by decide +kernel
theorem dX4_wordOf_58 : decode cX4_wordOf 58 = .ok (.ldc 75, 2) := by decide +kernel
theorem dX4_wordOf_60 : decode cX4_wordOf 60 = .ok (.areturn, 1) := by decide +kernel
set_option maxRecDepth 20000 in
theorem ggX4_readResident_X2_moveIn : GoodIn wsX4_readResident wsX2_moveIn := goodIn_r _ [13, 14, 15, 16, 17, 18, 12, 19, 20, 21, 22, 23, 24, 25, 26, 27, 28, 29, 30, 117, 118, 119, 120, 121, 122, 123, 124, 125, 126, 127, 128, 129, 130, 131, 132, 133] (by decide +kernel) (by decide +kernel)
set_option maxRecDepth 20000 in
theorem gX4_readResident_X2_moveIn : GoodIn wsX4_readResident (wsV RX4 77 RX2 yX2_moveIn wsX2_moveIn) := goodIn_app (goodIn_of _ (by decide +kernel)) ggX4_readResident_X2_moveIn
set_option maxRecDepth 20000 in
theorem ggX4_readResident_X3_readNext : GoodIn wsX4_readResident wsX3_readNext := goodIn_r _ [35, 36, 37, 38, 39, 40, 41, 42, 43, 44, 45, 46, 47, 34, 48, 134, 135, 136, 137, 138, 139] (by decide +kernel) (by decide +kernel)
set_option maxRecDepth 20000 in
theorem gX4_readResident_X3_readNext : GoodIn wsX4_readResident (wsV RX4 38 RX3 yX3_readNext wsX3_readNext) := goodIn_app (goodIn_of _ (by decide +kernel)) ggX4_readResident_X3_readNext
set_option maxRecDepth 20000 in
theorem ggX4_readResident_X4_readPerhaps : GoodIn wsX4_readResident wsX4_readPerhaps := goodIn_r _ [53, 3, 5, 54, 55, 56, 34, 57, 41, 36, 39, 38, 58, 59, 60, 61, 62, 63, 64, 65, 66, 67, 68, 69, 70, 71, 72, 73, 74, 75, 76, 77, 78, 79, 80, 81, 82, 83, 84, 85, 86, 87, 88, 89, 90, 91, 92, 93, 94, 95, 96, 97, 98, 99, 100, 101, 102, 103, 104, 105, 106, 31, 32, 33, 35, 37, 40, 42, 43, 44, 45, 46, 47, 48, 107, 108, 109, 52, 110, 111, 112, 113, 114, 115, 116, 134, 135, 136, 137, 138, 139] (by decide +kernel) (by decide +kernel)
set_option maxRecDepth 20000 in
theorem gX4_readResident_X4_readPerhaps : GoodIn wsX4_readResident (wsV RX4 94 RX4 yX4_readPerhaps wsX4_readPerhaps) := goodIn_app (goodIn_of _ (by decide +kernel)) ggX4_readResident_X4_readPerhaps
set_option maxRecDepth 20000 in
theorem ggX4_readResident_X3_isWord : GoodIn wsX4_readResident wsX3_isWord := goodIn_r _ [57, 41, 36, 39, 38, 58, 59, 60, 61, 62, 63, 64, 65, 66, 67, 68, 69, 70, 71, 72, 73, 74, 75, 76, 77, 78, 79, 80, 81, 82, 83, 84, 85, 86, 87, 88, 89, 90, 91, 92, 93, 94, 95, 96, 97, 98, 99, 100, 101, 102, 103, 104, 105, 106, 134, 135, 136, 137, 138, 139] (by decide +kernel) (by decide +kernel)
set_option maxRecDepth 20000 in
theorem gX4_readResident_X3_isWord : GoodIn wsX4_readResident (wsV RX4 43 RX3 yX3_isWord wsX3_isWord) := goodIn_app (goodIn_of _ (by decide +kernel)) ggX4_readResident_X3_isWord
theorem dX4_readResident_0 : decode cX4_readResident 0 = .ok (.aload_n 0, 1) := by decide +kernel
theorem dX4_readResident_1 : decode cX4_readResident 1 = .ok (.getfield 22, 3) := by decide +kernel
theorem dX4_readResident_4 : decode cX4_readResident 4 = .ok (.iload_n 1, 1) := by decide +kernel
theorem dX4_readResident_5 : decode cX4_readResident 5 = .ok (.iconst 0, 1) := by decide +kernel
theorem dX4_readResident_6 : decode cX4_readResident 6 = .ok (.invokevirtual 77, 3) := by decide +kernel
theorem dX4_readResident_9 : decode cX4_readResident 9 = .ok (.istore_n 2, 1) := by decide +kernel
theorem dX4_readResident_10 : decode cX4_readResident 10 = .ok (.iload_n 2, 1) := by decide +kernel
theorem dX4_readResident_11 : decode cX4_readResident 11 = .ok (.iconst (-1), 1) := by decide +kernel
theorem dX4_readResident_12 : decode cX4_readResident 12 = .ok (.if_icmp .ne 5, 3) := by decide +kernel
theorem dX4_readResident_15 : decode cX4_readResident 15 = .ok (.iconst 0, 1) := by decide +kernel
theorem dX4_readResident_16 : decode cX4_readResident 16 = .ok (.ireturn, 1) := by decide +kernel
theorem dX4_readResident_17 : decode cX4_readResident 17 = .ok (.aload_n 0, 1) := by decide +kernel
theorem dX4_readResident_18 : decode cX4_readResident 18 = .ok (.getfield 22, 3) := by decide +kernel
theorem dX4_readResident_21 : decode cX4_readResident 21 = .ok (.getfield 83, 3) := by decide +kernel
theorem dX4_readResident_24 : decode cX4_readResident 24 = .ok (.iload_n 2, 1) := by decide +kernel
theorem dX4_readResident_25 : decode cX4_readResident 25 = .ok (.aaload, 1) := by decide +kernel
theorem dX4_readResident_26 : decode cX4_readResident 26 = .ok (.astore_n 3, 1) := by decide +kernel
theorem dX4_readResident_27 : decode cX4_readResident 27 = .ok (.aload_n 0, 1) := by decide +kernel
theorem dX4_readResident_28 : decode cX4_readResident 28 = .ok (.getfield 18, 3) := by decide +kernel
theorem dX4_readResident_31 : decode cX4_readResident 31 = .ok (.invokevirtual 38, 3) := by decide +kernel
theorem dX4_readResident_34 : decode cX4_readResident 34 = .ok (.aload_n 0, 1) := by decide +kernel
theorem dX4_readResident_35 : decode cX4_readResident 35 = .ok (.ldc 87, 2) := by decide +kernel
theorem dX4_readResident_37 : decode cX4_readResident 37 = .ok (.bipush 15, 2) := by decide +kernel
theorem dX4_readResident_39 : decode cX4_readResident 39 = .ok (.aload_n 3, 1) := by decide +kernel
theorem dX4_readResident_40 : decode cX4_readResident 40 = .ok (.getfield 89, 3) := by decide +kernel
theorem dX4_readResident_43 : decode cX4_readResident 43 = .ok (.invokevirtual 94, 3) := by decide +kernel
theorem dX4_readResident_46 : decode cX4_readResident 46 = .ok (.ifCond .ne 5, 3) := by decide +kernel
theorem dX4_readResident_49 : decode cX4_readResident 49 = .ok (.iconst 0, 1) := by decide +kernel
theorem dX4_readResident_50 : decode cX4_readResident 50 = .ok (.ireturn, 1) := by decide +kernel
theorem dX4_readResident_51 : decode cX4_readResident 51 = .ok (.aload_n 3, 1) := by decide +kernel
theorem dX4_readResident_52 : decode cX4_readResident 52 = .ok (.aload_n 0, 1) := by decide +kernel
theorem dX4_readResident_53 : decode cX4_readResident 53 = .ok (.getfield 15, 3) := by decide +kernel
theorem dX4_readResident_56 : decode cX4_readResident 56 = .ok (.putfield 89, 3) := by decide +kernel
theorem dX4_readResident_59 : decode cX4_readResident 59 = .ok (.aload_n 0, 1) := by decide +kernel
theorem dX4_readResident_60 : decode cX4_readResident 60 = .ok (.ldc 98, 2) := by decide +kernel
theorem dX4_readResident_62 : decode cX4_readResident 62 = .ok (.sipush 4095, 3) := by decide +kernel
theorem dX4_readResident_65 : decode cX4_readResident 65 = .ok (.aload_n 3, 1) := by decide +kernel
theorem dX4_readResident_66 : decode cX4_readResident 66 = .ok (.getfield 100, 3) := by decide +kernel
theorem dX4_readResident_69 : decode cX4_readResident 69 = .ok (.invokevirtual 94, 3) := by decide +kernel
theorem dX4_readResident_72 : decode cX4_readResident 72 = .ok (.ifCond .ne 5, 3) := by decide +kernel
theorem dX4_readResident_75 : decode cX4_readResident 75 = .ok (.iconst 0, 1) := by decide +kernel
theorem dX4_readResident_76 : decode cX4_readResident 76 = .ok (.ireturn, 1) := by decide +kernel
theorem dX4_readResident_77 : decode cX4_readResident 77 = .ok (.aload_n 3, 1) := by decide +kernel
theorem dX4_readResident_78 : decode cX4_readResident 78 = .ok (.aload_n 0, 1) := by decide +kernel
theorem dX4_readResident_79 : decode cX4_readResident 79 = .ok (.getfield 15, 3) := by decide +kernel
theorem dX4_readResident_82 : decode cX4_readResident 82 = .ok (.putfield 100, 3) := by decide +kernel
theorem dX4_readResident_85 : decode cX4_readResident 85 = .ok (.aload_n 0, 1) := by decide +kernel
theorem dX4_readResident_86 : decode cX4_readResident 86 = .ok (.ldc 102, 2) := by decide +kernel
theorem dX4_readResident_88 : decode cX4_readResident 88 = .ok (.bipush 99, 2) := by decide +kernel
theorem dX4_readResident_90 : decode cX4_readResident 90 = .ok (.aload_n 3, 1) := by decide +kernel
theorem dX4_readResident_91 : decode cX4_readResident 91 = .ok (.getfield 104, 3) := by decide +kernel
theorem dX4_readResident_94 : decode cX4_readResident 94 = .ok (.invokevirtual 94, 3) := by decide +kernel
theorem dX4_readResident_97 : decode cX4_readResident 97 = .ok (.ifCond .ne 5, 3) := by decide +kernel
theorem dX4_readResident_100 : decode cX4_readResident 100 = .ok (.iconst 0, 1) := by decide +kernel
theorem dX4_readResident_101 : decode cX4_readResident 101 = .ok (.ireturn, 1) := by decide +kernel
theorem dX4_readResident_102 : decode cX4_readResident 102 = .ok (.aload_n 3, 1) := by decide +kernel
theorem dX4_readResident_103 : decode cX4_readResident 103 = .ok (.aload_n 0, 1) := by decide +kernel
theorem dX4_readResident_104 : decode cX4_readResident 104 = .ok (.getfield 15, 3) := by decide +kernel
theorem dX4_readResident_107 : decode cX4_readResident 107 = .ok (.putfield 104, 3) := by decide +kernel
theorem dX4_readResident_110 : decode cX4_readResident 110 = .ok (.aload_n 0, 1) := by decide +kernel
theorem dX4_readResident_111 : decode cX4_readResident 111 = .ok (.getfield 18, 3) := by decide +kernel
theorem dX4_readResident_114 : decode cX4_readResident 114 = .ok (.ldc 106, 2) := by decide +kernel
theorem dX4_readResident_116 : decode cX4_readResident 116 = .ok (.invokevirtual 43, 3) := by decide +kernel
theorem dX4_readResident_119 : decode cX4_readResident 119 = .ok (.ifCond .eq 15, 3) := by decide +kernel
theorem dX4_readResident_122 : decode cX4_readResident 122 = .ok (.aload_n 3, 1) := by decide +kernel
theorem dX4_readResident_123 : decode cX4_readResident 123 = .ok (.iconst 1, 1) := by decide +kernel
theorem dX4_readResident_124 : decode cX4_readResident 124 = .ok (.putfield 108, 3) := by decide +kernel
theorem dX4_readResident_127 : decode cX4_readResident 127 = .ok (.aload_n 0, 1) := by decide +kernel
theorem dX4_readResident_128 : decode cX4_readResident 128 = .ok (.getfield 18, 3) := by decide +kernel
theorem dX4_readResident_131 : decode cX4_readResident 131 = .ok (.invokevirtual 38, 3) := by decide +kernel
theorem dX4_readResident_134 : decode cX4_readResident 134 = .ok (.iconst 1, 1) := by decide +kernel
theorem dX4_readResident_135 : decode cX4_readResident 135 = .ok (.ireturn, 1) := by decide +kernel
set_option maxRecDepth 20000 in
theorem ggX4_readCrier_X3_readNext : GoodIn wsX4_readCrier wsX3_readNext := goodIn_r _ [11, 12, 13, 14, 15, 16, 17, 18, 19, 20, 21, 22, 23, 10, 24, 104, 105, 106, 107, 108, 109] (by decide +kernel) (by decide +kernel)
set_option maxRecDepth 20000 in
theorem gX4_readCrier_X3_readNext : GoodIn wsX4_readCrier (wsV RX4 38 RX3 yX3_readNext wsX3_readNext) := goodIn_app (goodIn_of _ (by decide +kernel)) ggX4_readCrier_X3_readNext
set_option maxRecDepth 20000 in
theorem ggX4_readCrier_X4_readUpTo : GoodIn wsX4_readCrier wsX4_readUpTo := goodIn_r _ [29, 1, 30, 31, 3, 7, 8, 9, 10, 11, 12, 13, 14, 15, 16, 17, 18, 19, 20, 21, 22, 23, 24, 89, 90, 91, 92, 104, 105, 106, 107, 108, 109] (by decide +kernel) (by decide +kernel)
set_option maxRecDepth 20000 in
theorem gX4_readCrier_X4_readUpTo : GoodIn wsX4_readCrier (wsV RX4 110 RX4 yX4_readUpTo wsX4_readUpTo) := goodIn_app (goodIn_of _ (by decide +kernel)) ggX4_readCrier_X4_readUpTo
set_option maxRecDepth 20000 in
theorem ggX4_readCrier_X4_readPerhaps : GoodIn wsX4_readCrier wsX4_readPerhaps := goodIn_r _ [35, 1, 3, 36, 37, 38, 10, 39, 17, 12, 15, 14, 40, 41, 42, 43, 44, 45, 46, 47, 48, 49, 50, 51, 52, 53, 54, 55, 56, 57, 58, 59, 60, 61, 62, 63, 64, 65, 66, 67, 68, 69, 70, 71, 72, 73, 74, 75, 76, 77, 78, 79, 80, 81, 82, 83, 84, 85, 86, 87, 88, 7, 8, 9, 11, 13, 16, 18, 19, 20, 21, 22, 23, 24, 25, 26, 27, 28, 29, 30, 31, 89, 90, 91, 92, 104, 105, 106, 107, 108, 109] (by decide +kernel) (by decide +kernel)
set_option maxRecDepth 20000 in
theorem gX4_readCrier_X4_readPerhaps : GoodIn wsX4_readCrier (wsV RX4 94 RX4 yX4_readPerhaps wsX4_readPerhaps) := goodIn_app (goodIn_of _ (by decide +kernel)) ggX4_readCrier_X4_readPerhaps
theorem dX4_readCrier_0 : decode cX4_readCrier 0 = .ok (.aload_n 0, 1) := by decide +kernel
theorem dX4_readCrier_1 : decode cX4_readCrier 1 = .ok (.getfield 18, 3) := by decide +kernel
theorem dX4_readCrier_4 : decode cX4_readCrier 4 = .ok (.invokevirtual 38, 3) := by decide +kernel
theorem dX4_readCrier_7 : decode cX4_readCrier 7 = .ok (.aload_n 0, 1) := by decide +kernel
theorem dX4_readCrier_8 : decode cX4_readCrier 8 = .ok (.bipush 15, 2) := by decide +kernel
theorem dX4_readCrier_10 : decode cX4_readCrier 10 = .ok (.invokevirtual 110, 3) := by decide +kernel
theorem dX4_readCrier_13 : decode cX4_readCrier 13 = .ok (.ifCond .ne 5, 3) := by decide +kernel
theorem dX4_readCrier_16 : decode cX4_readCrier 16 = .ok (.iconst 0, 1) := by decide +kernel
theorem dX4_readCrier_17 : decode cX4_readCrier 17 = .ok (.ireturn, 1) := by decide +kernel
theorem dX4_readCrier_18 : decode cX4_readCrier 18 = .ok (.aload_n 0, 1) := by decide +kernel
theorem dX4_readCrier_19 : decode cX4_readCrier 19 = .ok (.getfield 22, 3) := by decide +kernel
theorem dX4_readCrier_22 : decode cX4_readCrier 22 = .ok (.aload_n 0, 1) := by decide +kernel
theorem dX4_readCrier_23 : decode cX4_readCrier 23 = .ok (.getfield 15, 3) := by decide +kernel
theorem dX4_readCrier_26 : decode cX4_readCrier 26 = .ok (.putfield 113, 3) := by decide +kernel
theorem dX4_readCrier_29 : decode cX4_readCrier 29 = .ok (.aload_n 0, 1) := by decide +kernel
theorem dX4_readCrier_30 : decode cX4_readCrier 30 = .ok (.ldc 114, 2) := by decide +kernel
theorem dX4_readCrier_32 : decode cX4_readCrier 32 = .ok (.iconst 5, 1) := by decide +kernel
theorem dX4_readCrier_33 : decode cX4_readCrier 33 = .ok (.aload_n 0, 1) := by decide +kernel
theorem dX4_readCrier_34 : decode cX4_readCrier 34 = .ok (.getfield 22, 3) := by decide +kernel
theorem dX4_readCrier_37 : decode cX4_readCrier 37 = .ok (.getfield 116, 3) := by decide +kernel
theorem dX4_readCrier_40 : decode cX4_readCrier 40 = .ok (.invokevirtual 94, 3) := by decide +kernel
theorem dX4_readCrier_43 : decode cX4_readCrier 43 = .ok (.ifCond .ne 5, 3) := by decide +kernel
theorem dX4_readCrier_46 : decode cX4_readCrier 46 = .ok (.iconst 0, 1) := by decide +kernel
theorem dX4_readCrier_47 : decode cX4_readCrier 47 = .ok (.ireturn, 1) := by decide +kernel
theorem dX4_readCrier_48 : decode cX4_readCrier 48 = .ok (.aload_n 0, 1) := by decide +kernel
theorem dX4_readCrier_49 : decode cX4_readCrier 49 = .ok (.getfield 22, 3) := by decide +kernel
theorem dX4_readCrier_52 : decode cX4_readCrier 52 = .ok (.aload_n 0, 1) := by decide +kernel
theorem dX4_readCrier_53 : decode cX4_readCrier 53 = .ok (.getfield 15, 3) := by decide +kernel
theorem dX4_readCrier_56 : decode cX4_readCrier 56 = .ok (.putfield 116, 3) := by decide +kernel
theorem dX4_readCrier_59 : decode cX4_readCrier 59 = .ok (.aload_n 0, 1) := by decide +kernel
theorem dX4_readCrier_60 : decode cX4_readCrier 60 = .ok (.ldc 118, 2) := by decide +kernel
theorem dX4_readCrier_62 : decode cX4_readCrier 62 = .ok (.bipush 9, 2) := by decide +kernel
theorem dX4_readCrier_64 : decode cX4_readCrier 64 = .ok (.aload_n 0, 1) := by decide +kernel
theorem dX4_readCrier_65 : decode cX4_readCrier 65 = .ok (.getfield 22, 3) := by decide +kernel
theorem dX4_readCrier_68 : decode cX4_readCrier 68 = .ok (.getfield 120, 3) := by decide +kernel
theorem dX4_readCrier_71 : decode cX4_readCrier 71 = .ok (.invokevirtual 94, 3) := by decide +kernel
theorem dX4_readCrier_74 : decode cX4_readCrier 74 = .ok (.ifCond .ne 5, 3) := by decide +kernel
theorem dX4_readCrier_77 : decode cX4_readCrier 77 = .ok (.iconst 0, 1) := by decide +kernel
theorem dX4_readCrier_78 : decode cX4_readCrier 78 = .ok (.ireturn, 1) := by decide +kernel
theorem dX4_readCrier_79 : decode cX4_readCrier 79 = .ok (.aload_n 0, 1) := by decide +kernel
theorem dX4_readCrier_80 : decode cX4_readCrier 80 = .ok (.getfield 22, 3) := by decide +kernel
theorem dX4_readCrier_83 : decode cX4_readCrier 83 = .ok (.aload_n 0, 1) := by decide +kernel
theorem dX4_readCrier_84 : decode cX4_readCrier 84 = .ok (.getfield 15, 3) := by decide +kernel
theorem dX4_readCrier_87 : decode cX4_readCrier 87 = .ok (.putfield 120, 3) := by decide +kernel
theorem dX4_readCrier_90 : decode cX4_readCrier 90 = .ok (.iconst 1, 1) := by decide +kernel
theorem dX4_readCrier_91 : decode cX4_readCrier 91 = .ok (.ireturn, 1) := by decide +kernel
set_option maxRecDepth 20000 in
theorem ggX4_readCry_X3_readNext : GoodIn wsX4_readCry wsX3_readNext := goodIn_r _ [9, 10, 11, 12, 13, 14, 15, 16, 17, 18, 19, 20, 21, 8, 22, 45, 46, 47, 48, 49, 50] (by decide +kernel) (by decide +kernel)
set_option maxRecDepth 20000 in
theorem gX4_readCry_X3_readNext : GoodIn wsX4_readCry (wsV RX4 38 RX3 yX3_readNext wsX3_readNext) := goodIn_app (goodIn_of _ (by decide +kernel)) ggX4_readCry_X3_readNext
set_option maxRecDepth 20000 in
theorem ggX4_readCry_X4_readUpTo : GoodIn wsX4_readCry wsX4_readUpTo := goodIn_r _ [27, 1, 28, 29, 2, 5, 6, 7, 8, 9, 10, 11, 12, 13, 14, 15, 16, 17, 18, 19, 20, 21, 22, 30, 31, 32, 33, 45, 46, 47, 48, 49, 50] (by decide +kernel) (by decide +kernel)
set_option maxRecDepth 20000 in
theorem gX4_readCry_X4_readUpTo : GoodIn wsX4_readCry (wsV RX4 110 RX4 yX4_readUpTo wsX4_readUpTo) := goodIn_app (goodIn_of _ (by decide +kernel)) ggX4_readCry_X4_readUpTo
theorem dX4_readCry_0 : decode cX4_readCry 0 = .ok (.aload_n 0, 1) := by decide +kernel
theorem dX4_readCry_1 : decode cX4_readCry 1 = .ok (.getfield 18, 3) := by decide +kernel
theorem dX4_readCry_4 : decode cX4_readCry 4 = .ok (.invokevirtual 38, 3) := by decide +kernel
theorem dX4_readCry_7 : decode cX4_readCry 7 = .ok (.aload_n 0, 1) := by decide +kernel
theorem dX4_readCry_8 : decode cX4_readCry 8 = .ok (.iconst 5, 1) := by decide +kernel
theorem dX4_readCry_9 : decode cX4_readCry 9 = .ok (.invokevirtual 110, 3) := by decide +kernel
theorem dX4_readCry_12 : decode cX4_readCry 12 = .ok (.ifCond .ne 5, 3) := by decide +kernel
theorem dX4_readCry_15 : decode cX4_readCry 15 = .ok (.iconst 0, 1) := by decide +kernel
theorem dX4_readCry_16 : decode cX4_readCry 16 = .ok (.ireturn, 1) := by decide +kernel
theorem dX4_readCry_17 : decode cX4_readCry 17 = .ok (.aload_n 0, 1) := by decide +kernel
theorem dX4_readCry_18 : decode cX4_readCry 18 = .ok (.getfield 15, 3) := by decide +kernel
theorem dX4_readCry_21 : decode cX4_readCry 21 = .ok (.istore_n 1, 1) := by decide +kernel
theorem dX4_readCry_22 : decode cX4_readCry 22 = .ok (.aload_n 0, 1) := by decide +kernel
theorem dX4_readCry_23 : decode cX4_readCry 23 = .ok (.bipush 11, 2) := by decide +kernel
theorem dX4_readCry_25 : decode cX4_readCry 25 = .ok (.invokevirtual 110, 3) := by decide +kernel
theorem dX4_readCry_28 : decode cX4_readCry 28 = .ok (.ifCond .ne 5, 3) := by decide +kernel
theorem dX4_readCry_31 : decode cX4_readCry 31 = .ok (.iconst 0, 1) := by decide +kernel
theorem dX4_readCry_32 : decode cX4_readCry 32 = .ok (.ireturn, 1) := by decide +kernel
theorem dX4_readCry_33 : decode cX4_readCry 33 = .ok (.aload_n 0, 1) := by decide +kernel
theorem dX4_readCry_34 : decode cX4_readCry 34 = .ok (.getfield 22, 3) := by decide +kernel
theorem dX4_readCry_37 : decode cX4_readCry 37 = .ok (.getfield 122, 3) := by decide +kernel
theorem dX4_readCry_40 : decode cX4_readCry 40 = .ok (.iload_n 1, 1) := by decide +kernel
theorem dX4_readCry_41 : decode cX4_readCry 41 = .ok (.aload_n 0, 1) := by decide +kernel
theorem dX4_readCry_42 : decode cX4_readCry 42 = .ok (.getfield 15, 3) := by decide +kernel
theorem dX4_readCry_45 : decode cX4_readCry 45 = .ok (.iastore, 1) := by decide +kernel
theorem dX4_readCry_46 : decode cX4_readCry 46 = .ok (.iconst 1, 1) := by decide +kernel
theorem dX4_readCry_47 : decode cX4_readCry 47 = .ok (.ireturn, 1) := by decide +kernel
set_option maxRecDepth 20000 in
theorem ggX4_readPerhaps_X3_isWord : GoodIn wsX4_readPerhaps wsX3_isWord := goodIn_r _ [7, 8, 9, 10, 11, 12, 13, 14, 15, 16, 17, 18, 19, 20, 21, 22, 23, 24, 25, 26, 27, 28, 29, 30, 31, 32, 33, 34, 35, 36, 37, 38, 39, 40, 41, 42, 43, 44, 45, 46, 47, 48, 49, 50, 51, 52, 53, 54, 55, 56, 57, 58, 59, 60, 85, 86, 87, 88, 89, 90] (by decide +kernel) (by decide +kernel)
set_option maxRecDepth 20000 in
theorem gX4_readPerhaps_X3_isWord : GoodIn wsX4_readPerhaps (wsV RX4 43 RX3 yX3_isWord wsX3_isWord) := goodIn_app (goodIn_of _ (by decide +kernel)) ggX4_readPerhaps_X3_isWord
set_option maxRecDepth 20000 in
theorem ggX4_readPerhaps_X3_readNext : GoodIn wsX4_readPerhaps wsX3_readNext := goodIn_r _ [64, 9, 65, 11, 10, 66, 8, 67, 68, 69, 70, 71, 72, 6, 73, 85, 86, 87, 88, 89, 90] (by decide +kernel) (by decide +kernel)
set_option maxRecDepth 20000 in
theorem gX4_readPerhaps_X3_readNext : GoodIn wsX4_readPerhaps (wsV RX4 38 RX3 yX3_readNext wsX3_readNext) := goodIn_app (goodIn_of _ (by decide +kernel)) ggX4_readPerhaps_X3_readNext
set_option maxRecDepth 20000 in
theorem ggX4_readPerhaps_X4_readUpTo : GoodIn wsX4_readPerhaps wsX4_readUpTo := goodIn_r _ [78, 1, 79, 80, 2, 61, 62, 63, 6, 64, 9, 65, 11, 10, 66, 8, 67, 68, 69, 70, 71, 72, 73, 81, 82, 83, 84, 85, 86, 87, 88, 89, 90] (by decide +kernel) (by decide +kernel)
set_option maxRecDepth 20000 in
theorem gX4_readPerhaps_X4_readUpTo : GoodIn wsX4_readPerhaps (wsV RX4 110 RX4 yX4_readUpTo wsX4_readUpTo) := goodIn_app (goodIn_of _ (by decide +kernel)) ggX4_readPerhaps_X4_readUpTo
theorem dX4_readPerhaps_0 : decode cX4_readPerhaps 0 = .ok (.aload_n 0, 1) := by decide +kernel
theorem dX4_readPerhaps_1 : decode cX4_readPerhaps 1 = .ok (.getfield 18, 3) := by decide +kernel
theorem dX4_readPerhaps_4 : decode cX4_readPerhaps 4 = .ok (.aload_n 1, 1) := by decide +kernel
theorem dX4_readPerhaps_5 : decode cX4_readPerhaps 5 = .ok (.invokevirtual 43, 3) := by decide +kernel
theorem dX4_readPerhaps_8 : decode cX4_readPerhaps 8 = .ok (.ifCond .ne 10, 3) := by decide +kernel
theorem dX4_readPerhaps_11 : decode cX4_readPerhaps 11 = .ok (.aload_n 0, 1) := by decide +kernel
theorem dX4_readPerhaps_12 : decode cX4_readPerhaps 12 = .ok (.iload_n 3, 1) := by decide +kernel
theorem dX4_readPerhaps_13 : decode cX4_readPerhaps 13 = .ok (.putfield 15, 3) := by decide +kernel
theorem dX4_readPerhaps_16 : decode cX4_readPerhaps 16 = .ok (.iconst 1, 1) := by decide +kernel
theorem dX4_readPerhaps_17 : decode cX4_readPerhaps 17 = .ok (.ireturn, 1) := by decide +kernel
theorem dX4_readPerhaps_18 : decode cX4_readPerhaps 18 = .ok (.aload_n 0, 1) := by decide +kernel
theorem dX4_readPerhaps_19 : decode cX4_readPerhaps 19 = .ok (.getfield 18, 3) := by decide +kernel
theorem dX4_readPerhaps_22 : decode cX4_readPerhaps 22 = .ok (.invokevirtual 38, 3) := by decide +kernel
theorem dX4_readPerhaps_25 : decode cX4_readPerhaps 25 = .ok (.aload_n 0, 1) := by decide +kernel
theorem dX4_readPerhaps_26 : decode cX4_readPerhaps 26 = .ok (.iload_n 2, 1) := by decide +kernel
theorem dX4_readPerhaps_27 : decode cX4_readPerhaps 27 = .ok (.invokevirtual 110, 3) := by decide +kernel
theorem dX4_readPerhaps_30 : decode cX4_readPerhaps 30 = .ok (.ireturn, 1) := by decide +kernel
set_option maxRecDepth 20000 in
theorem ggX4_readUpTo_X3_readNext : GoodIn wsX4_readUpTo wsX3_readNext := goodIn_r _ [9, 10, 11, 12, 13, 14, 15, 16, 17, 18, 19, 20, 21, 8, 22, 27, 28, 29, 30, 31, 32] (by decide +kernel) (by decide +kernel)
set_option maxRecDepth 20000 in
theorem gX4_readUpTo_X3_readNext : GoodIn wsX4_readUpTo (wsV RX4 38 RX3 yX3_readNext wsX3_readNext) := goodIn_app (goodIn_of _ (by decide +kernel)) ggX4_readUpTo_X3_readNext
theorem dX4_readUpTo_0 : decode cX4_readUpTo 0 = .ok (.aload_n 0, 1) := by decide +kernel
theorem dX4_readUpTo_1 : decode cX4_readUpTo 1 = .ok (.getfield 18, 3) := by decide +kernel
theorem dX4_readUpTo_4 : decode cX4_readUpTo 4 = .ok (.getfield 35, 3) := by decide +kernel
theorem dX4_readUpTo_7 : decode cX4_readUpTo 7 = .ok (.iconst 2, 1) := by decide +kernel
theorem dX4_readUpTo_8 : decode cX4_readUpTo 8 = .ok (.if_icmp .ne 14, 3) := by decide +kernel
theorem dX4_readUpTo_11 : decode cX4_readUpTo 11 = .ok (.aload_n 0, 1) := by decide +kernel
theorem dX4_readUpTo_12 : decode cX4_readUpTo 12 = .ok (.getfield 18, 3) := by decide +kernel
theorem dX4_readUpTo_15 : decode cX4_readUpTo 15 = .ok (.getfield 126, 3) := by decide +kernel
theorem dX4_readUpTo_18 : decode cX4_readUpTo 18 = .ok (.iload_n 1, 1) := by decide +kernel
theorem dX4_readUpTo_19 : decode cX4_readUpTo 19 = .ok (.if_icmp .le 5, 3) := by decide +kernel
theorem dX4_readUpTo_22 : decode cX4_readUpTo 22 = .ok (.iconst 0, 1) := by decide +kernel
theorem dX4_readUpTo_23 : decode cX4_readUpTo 23 = .ok (.ireturn, 1) := by decide +kernel
theorem dX4_readUpTo_24 : decode cX4_readUpTo 24 = .ok (.aload_n 0, 1) := by decide +kernel
theorem dX4_readUpTo_25 : decode cX4_readUpTo 25 = .ok (.aload_n 0, 1) := by decide +kernel
theorem dX4_readUpTo_26 : decode cX4_readUpTo 26 = .ok (.getfield 18, 3) := by decide +kernel
theorem dX4_readUpTo_29 : decode cX4_readUpTo 29 = .ok (.getfield 126, 3) := by decide +kernel
theorem dX4_readUpTo_32 : decode cX4_readUpTo 32 = .ok (.putfield 15, 3) := by decide +kernel
theorem dX4_readUpTo_35 : decode cX4_readUpTo 35 = .ok (.aload_n 0, 1) := by decide +kernel
theorem dX4_readUpTo_36 : decode cX4_readUpTo 36 = .ok (.getfield 18, 3) := by decide +kernel
theorem dX4_readUpTo_39 : decode cX4_readUpTo 39 = .ok (.invokevirtual 38, 3) := by decide +kernel
theorem dX4_readUpTo_42 : decode cX4_readUpTo 42 = .ok (.iconst 1, 1) := by decide +kernel
theorem dX4_readUpTo_43 : decode cX4_readUpTo 43 = .ok (.ireturn, 1) := by decide +kernel
set_option maxRecDepth 20000 in
theorem ggX5_init_X2_init : GoodIn wsX5_init wsX2_init := goodIn_r _ [24, 25, 2, 3, 26, 27, 28, 11, 29, 30, 31, 32, 33, 34, 35, 36, 37, 38, 39, 40, 41, 42, 43, 44, 45, 46, 47, 48, 49, 50, 51, 52, 69, 70, 71, 72, 73, 74, 75, 76, 77, 78, 79, 97, 98, 99, 100, 101, 102] (by decide +kernel) (by decide +kernel)
set_option maxRecDepth 20000 in
theorem gX5_init_X2_init : GoodIn wsX5_init (wsX2_init) := ggX5_init_X2_init
set_option maxRecDepth 20000 in
theorem ggX5_init_X3_init : GoodIn wsX5_init wsX3_init := goodIn_r _ [54, 55, 2, 3, 56, 57, 58, 59, 60, 61, 62, 88, 89, 90, 91, 92, 93] (by decide +kernel) (by decide +kernel)
set_option maxRecDepth 20000 in
theorem gX5_init_X3_init_n32 : GoodIn wsX5_init (wsX3_init) := ggX5_init_X3_init
set_option maxRecDepth 20000 in
theorem ggX5_init_X1_init : GoodIn wsX5_init wsX1_init := goodIn_r _ [64, 65, 2, 3, 66, 67, 11, 68, 94, 95, 96] (by decide +kernel) (by decide +kernel)
set_option maxRecDepth 20000 in
theorem gX5_init_X1_init_n39 : GoodIn wsX5_init (wsX1_init) := ggX5_init_X1_init
theorem dX5_init_0 : decode cX5_init 0 = .ok (.aload_n 0, 1) := by decide +kernel
theorem dX5_init_1 : decode cX5_init 1 = .ok (.invokespecial 3, 3) := by decide +kernel
theorem dX5_init_4 : decode cX5_init 4 = .ok (.aload_n 0, 1) := by decide +kernel
theorem dX5_init_5 : decode cX5_init 5 = .ok (.new 9, 3) := by decide +kernel
theorem dX5_init_8 : decode cX5_init 8 = .ok (.dup, 1) := by decide +kernel
theorem dX5_init_9 : decode cX5_init 9 = .ok (.invokespecial 11, 3) := by decide +kernel
theorem dX5_init_12 : decode cX5_init 12 = .ok (.putfield 12, 3) := by decide +kernel
theorem dX5_init_15 : decode cX5_init 15 = .ok (.aload_n 0, 1) := by decide +kernel
theorem dX5_init_16 : decode cX5_init 16 = .ok (.new 9, 3) := by decide +kernel
theorem dX5_init_19 : decode cX5_init 19 = .ok (.dup, 1) := by decide +kernel
theorem dX5_init_20 : decode cX5_init 20 = .ok (.invokespecial 11, 3) := by decide +kernel
theorem dX5_init_23 : decode cX5_init 23 = .ok (.putfield 16, 3) := by decide +kernel
theorem dX5_init_26 : decode cX5_init 26 = .ok (.aload_n 0, 1) := by decide +kernel
theorem dX5_init_27 : decode cX5_init 27 = .ok (.new 9, 3) := by decide +kernel
theorem dX5_init_30 : decode cX5_init 30 = .ok (.dup, 1) := by decide +kernel
theorem dX5_init_31 : decode cX5_init 31 = .ok (.invokespecial 11, 3) := by decide +kernel
theorem dX5_init_34 : decode cX5_init 34 = .ok (.putfield 19, 3) := by decide +kernel
theorem dX5_init_37 : decode cX5_init 37 = .ok (.aload_n 0, 1) := by decide +kernel
theorem dX5_init_38 : decode cX5_init 38 = .ok (.iconst 0, 1) := by decide +kernel
theorem dX5_init_39 : decode cX5_init 39 = .ok (.putfield 22, 3) := by decide +kernel
theorem dX5_init_42 : decode cX5_init 42 = .ok (.aload_n 0, 1) := by decide +kernel
theorem dX5_init_43 : decode cX5_init 43 = .ok (.bipush 16, 2) := by decide +kernel
theorem dX5_init_45 : decode cX5_init 45 = .ok (.newarray .int, 2) := by decide +kernel
theorem dX5_init_47 : decode cX5_init 47 = .ok (.putfield 26, 3) := by decide +kernel
theorem dX5_init_50 : decode cX5_init 50 = .ok (.aload_n 0, 1) := by decide +kernel
theorem dX5_init_51 : decode cX5_init 51 = .ok (.new 30, 3) := by decide +kernel
theorem dX5_init_54 : decode cX5_init 54 = .ok (.dup, 1) := by decide +kernel
theorem dX5_init_55 : decode cX5_init 55 = .ok (.invokespecial 32, 3) := by decide +kernel
theorem dX5_init_58 : decode cX5_init 58 = .ok (.putfield 33, 3) := by decide +kernel
theorem dX5_init_61 : decode cX5_init 61 = .ok (.aload_n 0, 1) := by decide +kernel
theorem dX5_init_62 : decode cX5_init 62 = .ok (.iconst 4, 1) := by decide +kernel
theorem dX5_init_63 : decode cX5_init 63 = .ok (.anewarray 37, 3) := by decide +kernel
theorem dX5_init_66 : decode cX5_init 66 = .ok (.dup, 1) := by decide +kernel
theorem dX5_init_67 : decode cX5_init 67 = .ok (.iconst 0, 1) := by decide +kernel
theorem dX5_init_68 : decode cX5_init 68 = .ok (.new 37, 3) := by decide +kernel
theorem dX5_init_71 : decode cX5_init 71 = .ok (.dup, 1) := by decide +kernel
theorem dX5_init_72 : decode cX5_init 72 = .ok (.invokespecial 39, 3) := by decide +kernel
theorem dX5_init_75 : decode cX5_init 75 = .ok (.aastore, 1) := by decide +kernel
theorem dX5_init_76 : decode cX5_init 76 = .ok (.dup, 1) := by decide +kernel
theorem dX5_init_77 : decode cX5_init 77 = .ok (.iconst 1, 1) := by decide +kernel
theorem dX5_init_78 : decode cX5_init 78 = .ok (.new 37, 3) := by decide +kernel
theorem dX5_init_81 : decode cX5_init 81 = .ok (.dup, 1) := by decide +kernel
theorem dX5_init_82 : decode cX5_init 82 = .ok (.invokespecial 39, 3) := by decide +kernel
theorem dX5_init_85 : decode cX5_init 85 = .ok (.aastore, 1) := by decide +kernel
theorem dX5_init_86 : decode cX5_init 86 = .ok (.dup, 1) := by decide +kernel
theorem dX5_init_87 : decode cX5_init 87 = .ok (.iconst 2, 1) := by decide +kernel
theorem dX5_init_88 : decode cX5_init 88 = .ok (.new 37, 3) := by decide +kernel
theorem dX5_init_91 : decode cX5_init 91 = .ok (.dup, 1) := by decide +kernel
theorem dX5_init_92 : decode cX5_init 92 = .ok (.invokespecial 39, 3) := by decide +kernel
theorem dX5_init_95 : decode cX5_init 95 = .ok (.aastore, 1) := by decide +kernel
theorem dX5_init_96 : decode cX5_init 96 = .ok (.dup, 1) := by decide +kernel
theorem dX5_init_97 : decode cX5_init 97 = .ok (.iconst 3, 1) := by decide +kernel
theorem dX5_init_98 : decode cX5_init 98 = .ok (.new 37, 3) := by decide +kernel
theorem dX5_init_101 : decode cX5_init 101 = .ok (.dup, 1) := by decide +kernel
theorem dX5_init_102 : decode cX5_init 102 = .ok (.invokespecial 39, 3) := by decide +kernel
theorem dX5_init_105 : decode cX5_init 105 = .ok (.aastore, 1) := by decide +kernel
theorem dX5_init_106 : decode cX5_init 106 = .ok (.putfield 40, 3) := by decide +kernel
theorem dX5_init_109 : decode cX5_init 109 = .ok (.aload_n 0, 1) := by decide +kernel
theorem dX5_init_110 : decode cX5_init 110 = .ok (.bipush 7, 2) := by decide +kernel
theorem dX5_init_112 : decode cX5_init 112 = .ok (.newarray .int, 2) := by decide +kernel
theorem dX5_init_114 : decode cX5_init 114 = .ok (.putfield 44, 3) := by decide +kernel
theorem dX5_init_117 : decode cX5_init 117 = .ok (.return_, 1) := by decide +kernel
set_option maxRecDepth 20000 in
theorem ggX5_set_X5_isWithin : GoodIn wsX5_set wsX5_isWithin := goodIn_r _ [10] (by decide +kernel) (by decide +kernel)
set_option maxRecDepth 20000 in
theorem gX5_set_X5_isWithin : GoodIn wsX5_set (va_wsS RX5 47 yX5_isWithin wsX5_isWithin) := goodIn_app (goodIn_of _ (by decide +kernel)) ggX5_set_X5_isWithin
set_option maxRecDepth 20000 in
theorem ggX5_set_X5_finding : GoodIn wsX5_set wsX5_finding := goodIn_r _ [14, 2, 15, 7, 8, 9, 10, 24, 25, 26, 27, 28, 29, 30, 31] (by decide +kernel) (by decide +kernel)
set_option maxRecDepth 20000 in
theorem gX5_set_X5_finding : GoodIn wsX5_set (wsV RX5 55 RX5 yX5_finding wsX5_finding) := goodIn_app (goodIn_of _ (by decide +kernel)) ggX5_set_X5_finding
set_option maxRecDepth 20000 in
theorem ggX5_set_X2_ofCrier : GoodIn wsX5_set wsX2_ofCrier := goodIn_r _ [20, 21, 22, 23, 32, 33, 34, 35, 36, 37, 38, 39, 40, 41, 42] (by decide +kernel) (by decide +kernel)
set_option maxRecDepth 20000 in
theorem gX5_set_X2_ofCrier : GoodIn wsX5_set (wsV RX5 59 RX2 yX2_ofCrier wsX2_ofCrier) := goodIn_app (goodIn_of _ (by decide +kernel)) ggX5_set_X2_ofCrier
theorem dX5_set_0 : decode cX5_set 0 = .ok (.iload_n 1, 1) := by decide +kernel
theorem dX5_set_1 : decode cX5_set 1 = .ok (.iconst 0, 1) := by decide +kernel
theorem dX5_set_2 : decode cX5_set 2 = .ok (.iconst 2, 1) := by decide +kernel
theorem dX5_set_3 : decode cX5_set 3 = .ok (.invokestatic 47, 3) := by decide +kernel
theorem dX5_set_6 : decode cX5_set 6 = .ok (.ifCond .eq 16, 3) := by decide +kernel
theorem dX5_set_9 : decode cX5_set 9 = .ok (.iload_n 2, 1) := by decide +kernel
theorem dX5_set_10 : decode cX5_set 10 = .ok (.iconst 0, 1) := by decide +kernel
theorem dX5_set_11 : decode cX5_set 11 = .ok (.getstatic 51, 3) := by decide +kernel
theorem dX5_set_14 : decode cX5_set 14 = .ok (.iload_n 1, 1) := by decide +kernel
theorem dX5_set_15 : decode cX5_set 15 = .ok (.iaload, 1) := by decide +kernel
theorem dX5_set_16 : decode cX5_set 16 = .ok (.invokestatic 47, 3) := by decide +kernel
theorem dX5_set_19 : decode cX5_set 19 = .ok (.ifCond .ne 10, 3) := by decide +kernel
theorem dX5_set_22 : decode cX5_set 22 = .ok (.aload_n 0, 1) := by decide +kernel
theorem dX5_set_23 : decode cX5_set 23 = .ok (.ldc 54, 2) := by decide +kernel
theorem dX5_set_25 : decode cX5_set 25 = .ok (.invokevirtual 55, 3) := by decide +kernel
theorem dX5_set_28 : decode cX5_set 28 = .ok (.ireturn, 1) := by decide +kernel
theorem dX5_set_29 : decode cX5_set 29 = .ok (.aload_n 0, 1) := by decide +kernel
theorem dX5_set_30 : decode cX5_set 30 = .ok (.getfield 12, 3) := by decide +kernel
theorem dX5_set_33 : decode cX5_set 33 = .ok (.iload_n 1, 1) := by decide +kernel
theorem dX5_set_34 : decode cX5_set 34 = .ok (.invokevirtual 59, 3) := by decide +kernel
theorem dX5_set_37 : decode cX5_set 37 = .ok (.istore_n 3, 1) := by decide +kernel
theorem dX5_set_38 : decode cX5_set 38 = .ok (.iload_n 1, 1) := by decide +kernel
theorem dX5_set_39 : decode cX5_set 39 = .ok (.ifCond .ne 14, 3) := by decide +kernel
theorem dX5_set_42 : decode cX5_set 42 = .ok (.aload_n 0, 1) := by decide +kernel
theorem dX5_set_43 : decode cX5_set 43 = .ok (.getfield 12, 3) := by decide +kernel
theorem dX5_set_46 : decode cX5_set 46 = .ok (.iload_n 2, 1) := by decide +kernel
theorem dX5_set_47 : decode cX5_set 47 = .ok (.putfield 62, 3) := by decide +kernel
theorem dX5_set_50 : decode cX5_set 50 = .ok (.goto 27, 3) := by decide +kernel
theorem dX5_set_53 : decode cX5_set 53 = .ok (.iload_n 1, 1) := by decide +kernel
theorem dX5_set_54 : decode cX5_set 54 = .ok (.iconst 1, 1) := by decide +kernel
theorem dX5_set_55 : decode cX5_set 55 = .ok (.if_icmp .ne 14, 3) := by decide +kernel
theorem dX5_set_58 : decode cX5_set 58 = .ok (.aload_n 0, 1) := by decide +kernel
theorem dX5_set_59 : decode cX5_set 59 = .ok (.getfield 12, 3) := by decide +kernel
theorem dX5_set_62 : decode cX5_set 62 = .ok (.iload_n 2, 1) := by decide +kernel
theorem dX5_set_63 : decode cX5_set 63 = .ok (.putfield 66, 3) := by decide +kernel
theorem dX5_set_66 : decode cX5_set 66 = .ok (.goto 11, 3) := by decide +kernel
theorem dX5_set_69 : decode cX5_set 69 = .ok (.aload_n 0, 1) := by decide +kernel
theorem dX5_set_70 : decode cX5_set 70 = .ok (.getfield 12, 3) := by decide +kernel
theorem dX5_set_73 : decode cX5_set 73 = .ok (.iload_n 2, 1) := by decide +kernel
theorem dX5_set_74 : decode cX5_set 74 = .ok (.putfield 69, 3) := by decide +kernel
theorem dX5_set_77 : decode cX5_set 77 = .ok (.iload_n 3, 1) := by decide +kernel
theorem dX5_set_78 : decode cX5_set 78 = .ok (.ireturn, 1) := by decide +kernel
set_option maxRecDepth 20000 in
theorem ggX5_crier_X5_isWithin : GoodIn wsX5_crier wsX5_isWithin := goodIn_r _ [6] (by decide +kernel) (by decide +kernel)
set_option maxRecDepth 20000 in
theorem gX5_crier_X5_isWithin : GoodIn wsX5_crier (va_wsS RX5 47 yX5_isWithin wsX5_isWithin) := goodIn_app (goodIn_of _ (by decide +kernel)) ggX5_crier_X5_isWithin
set_option maxRecDepth 20000 in
theorem ggX5_crier_X5_finding : GoodIn wsX5_crier wsX5_finding := goodIn_r _ [10, 1, 11, 3, 4, 5, 6, 20, 21, 22, 23, 24, 25, 26, 27] (by decide +kernel) (by decide +kernel)
set_option maxRecDepth 20000 in
theorem gX5_crier_X5_finding : GoodIn wsX5_crier (wsV RX5 55 RX5 yX5_finding wsX5_finding) := goodIn_app (goodIn_of _ (by decide +kernel)) ggX5_crier_X5_finding
set_option maxRecDepth 20000 in
theorem ggX5_crier_X2_ofCrier : GoodIn wsX5_crier wsX2_ofCrier := goodIn_r _ [16, 17, 18, 19, 28, 29, 30, 31, 32, 33, 34, 35, 36, 37, 38] (by decide +kernel) (by decide +kernel)
set_option maxRecDepth 20000 in
theorem gX5_crier_X2_ofCrier : GoodIn wsX5_crier (wsV RX5 59 RX2 yX2_ofCrier wsX2_ofCrier) := goodIn_app (goodIn_of _ (by decide +kernel)) ggX5_crier_X2_ofCrier
theorem dX5_crier_0 : decode cX5_crier 0 = .ok (.iload_n 1, 1) := by decide +kernel
theorem dX5_crier_1 : decode cX5_crier 1 = .ok (.iconst 0, 1) := by decide +kernel
theorem dX5_crier_2 : decode cX5_crier 2 = .ok (.iconst 2, 1) := by decide +kernel
theorem dX5_crier_3 : decode cX5_crier 3 = .ok (.invokestatic 47, 3) := by decide +kernel
theorem dX5_crier_6 : decode cX5_crier 6 = .ok (.ifCond .ne 10, 3) := by decide +kernel
theorem dX5_crier_9 : decode cX5_crier 9 = .ok (.aload_n 0, 1) := by decide +kernel
theorem dX5_crier_10 : decode cX5_crier 10 = .ok (.ldc 54, 2) := by decide +kernel
theorem dX5_crier_12 : decode cX5_crier 12 = .ok (.invokevirtual 55, 3) := by decide +kernel
theorem dX5_crier_15 : decode cX5_crier 15 = .ok (.ireturn, 1) := by decide +kernel
theorem dX5_crier_16 : decode cX5_crier 16 = .ok (.aload_n 0, 1) := by decide +kernel
theorem dX5_crier_17 : decode cX5_crier 17 = .ok (.getfield 12, 3) := by decide +kernel
theorem dX5_crier_20 : decode cX5_crier 20 = .ok (.iload_n 1, 1) := by decide +kernel
theorem dX5_crier_21 : decode cX5_crier 21 = .ok (.invokevirtual 59, 3) := by decide +kernel
theorem dX5_crier_24 : decode cX5_crier 24 = .ok (.ireturn, 1) := by decide +kernel
set_option maxRecDepth 20000 in
theorem ggX5_cry_X5_isPlace : GoodIn wsX5_cry wsX5_isPlace := goodIn_r _ [7, 8, 9, 6, 10] (by decide +kernel) (by decide +kernel)
set_option maxRecDepth 20000 in
theorem gX5_cry_X5_isPlace : GoodIn wsX5_cry (va_wsS RX5 72 yX5_isPlace wsX5_isPlace) := goodIn_app (goodIn_of _ (by decide +kernel)) ggX5_cry_X5_isPlace
set_option maxRecDepth 20000 in
theorem ggX5_cry_X5_isGood : GoodIn wsX5_cry wsX5_isGood := goodIn_r _ [13, 8, 9, 6, 10] (by decide +kernel) (by decide +kernel)
set_option maxRecDepth 20000 in
theorem gX5_cry_X5_isGood : GoodIn wsX5_cry (va_wsS RX5 76 yX5_isGood wsX5_isGood) := goodIn_app (goodIn_of _ (by decide +kernel)) ggX5_cry_X5_isGood
set_option maxRecDepth 20000 in
theorem ggX5_cry_X5_finding : GoodIn wsX5_cry wsX5_finding := goodIn_r _ [17, 1, 18, 8, 9, 6, 10, 19, 20, 21, 22, 23, 24, 25, 26] (by decide +kernel) (by decide +kernel)
set_option maxRecDepth 20000 in
theorem gX5_cry_X5_finding : GoodIn wsX5_cry (wsV RX5 55 RX5 yX5_finding wsX5_finding) := goodIn_app (goodIn_of _ (by decide +kernel)) ggX5_cry_X5_finding
theorem dX5_cry_0 : decode cX5_cry 0 = .ok (.iload_n 1, 1) := by decide +kernel
theorem dX5_cry_1 : decode cX5_cry 1 = .ok (.invokestatic 72, 3) := by decide +kernel
theorem dX5_cry_4 : decode cX5_cry 4 = .ok (.ifCond .eq 10, 3) := by decide +kernel
theorem dX5_cry_7 : decode cX5_cry 7 = .ok (.iload_n 2, 1) := by decide +kernel
theorem dX5_cry_8 : decode cX5_cry 8 = .ok (.invokestatic 76, 3) := by decide +kernel
theorem dX5_cry_11 : decode cX5_cry 11 = .ok (.ifCond .ne 10, 3) := by decide +kernel
theorem dX5_cry_14 : decode cX5_cry 14 = .ok (.aload_n 0, 1) := by decide +kernel
theorem dX5_cry_15 : decode cX5_cry 15 = .ok (.ldc 54, 2) := by decide +kernel
theorem dX5_cry_17 : decode cX5_cry 17 = .ok (.invokevirtual 55, 3) := by decide +kernel
theorem dX5_cry_20 : decode cX5_cry 20 = .ok (.ireturn, 1) := by decide +kernel
theorem dX5_cry_21 : decode cX5_cry 21 = .ok (.aload_n 0, 1) := by decide +kernel
theorem dX5_cry_22 : decode cX5_cry 22 = .ok (.getfield 12, 3) := by decide +kernel
theorem dX5_cry_25 : decode cX5_cry 25 = .ok (.getfield 79, 3) := by decide +kernel
theorem dX5_cry_28 : decode cX5_cry 28 = .ok (.iload_n 1, 1) := by decide +kernel
theorem dX5_cry_29 : decode cX5_cry 29 = .ok (.iaload, 1) := by decide +kernel
theorem dX5_cry_30 : decode cX5_cry 30 = .ok (.istore_n 3, 1) := by decide +kernel
theorem dX5_cry_31 : decode cX5_cry 31 = .ok (.aload_n 0, 1) := by decide +kernel
theorem dX5_cry_32 : decode cX5_cry 32 = .ok (.getfield 12, 3) := by decide +kernel
theorem dX5_cry_35 : decode cX5_cry 35 = .ok (.getfield 79, 3) := by decide +kernel
theorem dX5_cry_38 : decode cX5_cry 38 = .ok (.iload_n 1, 1) := by decide +kernel
theorem dX5_cry_39 : decode cX5_cry 39 = .ok (.iload_n 2, 1) := by decide +kernel
theorem dX5_cry_40 : decode cX5_cry 40 = .ok (.iastore, 1) := by decide +kernel
theorem dX5_cry_41 : decode cX5_cry 41 = .ok (.iload_n 3, 1) := by decide +kernel
theorem dX5_cry_42 : decode cX5_cry 42 = .ok (.ireturn, 1) := by decide +kernel
set_option maxRecDepth 20000 in
theorem ggX5_listed_X5_isPlace : GoodIn wsX5_listed wsX5_isPlace := goodIn_r _ [7, 8, 9, 6, 10] (by decide +kernel) (by decide +kernel)
set_option maxRecDepth 20000 in
theorem gX5_listed_X5_isPlace : GoodIn wsX5_listed (va_wsS RX5 72 yX5_isPlace wsX5_isPlace) := goodIn_app (goodIn_of _ (by decide +kernel)) ggX5_listed_X5_isPlace
set_option maxRecDepth 20000 in
theorem ggX5_listed_X5_finding : GoodIn wsX5_listed wsX5_finding := goodIn_r _ [14, 1, 15, 8, 9, 6, 10, 16, 17, 18, 19, 20, 21, 22, 23] (by decide +kernel) (by decide +kernel)
set_option maxRecDepth 20000 in
theorem gX5_listed_X5_finding : GoodIn wsX5_listed (wsV RX5 55 RX5 yX5_finding wsX5_finding) := goodIn_app (goodIn_of _ (by decide +kernel)) ggX5_listed_X5_finding
theorem dX5_listed_0 : decode cX5_listed 0 = .ok (.iload_n 1, 1) := by decide +kernel
theorem dX5_listed_1 : decode cX5_listed 1 = .ok (.invokestatic 72, 3) := by decide +kernel
theorem dX5_listed_4 : decode cX5_listed 4 = .ok (.ifCond .ne 10, 3) := by decide +kernel
theorem dX5_listed_7 : decode cX5_listed 7 = .ok (.aload_n 0, 1) := by decide +kernel
theorem dX5_listed_8 : decode cX5_listed 8 = .ok (.ldc 54, 2) := by decide +kernel
theorem dX5_listed_10 : decode cX5_listed 10 = .ok (.invokevirtual 55, 3) := by decide +kernel
theorem dX5_listed_13 : decode cX5_listed 13 = .ok (.ireturn, 1) := by decide +kernel
theorem dX5_listed_14 : decode cX5_listed 14 = .ok (.aload_n 0, 1) := by decide +kernel
theorem dX5_listed_15 : decode cX5_listed 15 = .ok (.getfield 12, 3) := by decide +kernel
theorem dX5_listed_18 : decode cX5_listed 18 = .ok (.getfield 79, 3) := by decide +kernel
theorem dX5_listed_21 : decode cX5_listed 21 = .ok (.iload_n 1, 1) := by decide +kernel
theorem dX5_listed_22 : decode cX5_listed 22 = .ok (.iaload, 1) := by decide +kernel
theorem dX5_listed_23 : decode cX5_listed 23 = .ok (.ireturn, 1) := by decide +kernel
set_option maxRecDepth 20000 in
theorem ggX5_resident_X5_isKind : GoodIn wsX5_resident wsX5_isKind := goodIn_r _ [7, 8, 9, 6, 10] (by decide +kernel) (by decide +kernel)
set_option maxRecDepth 20000 in
theorem gX5_resident_X5_isKind : GoodIn wsX5_resident (va_wsS RX5 82 yX5_isKind wsX5_isKind) := goodIn_app (goodIn_of _ (by decide +kernel)) ggX5_resident_X5_isKind
set_option maxRecDepth 20000 in
theorem ggX5_resident_X5_isWithin : GoodIn wsX5_resident wsX5_isWithin := goodIn_r _ [10] (by decide +kernel) (by decide +kernel)
set_option maxRecDepth 20000 in
theorem gX5_resident_X5_isWithin : GoodIn wsX5_resident (va_wsS RX5 47 yX5_isWithin wsX5_isWithin) := goodIn_app (goodIn_of _ (by decide +kernel)) ggX5_resident_X5_isWithin
set_option maxRecDepth 20000 in
theorem ggX5_resident_X5_finding : GoodIn wsX5_resident wsX5_finding := goodIn_r _ [14, 1, 15, 8, 9, 6, 10, 39, 40, 41, 42, 43, 44, 45, 46] (by decide +kernel) (by decide +kernel)
set_option maxRecDepth 20000 in
theorem gX5_resident_X5_finding : GoodIn wsX5_resident (wsV RX5 55 RX5 yX5_finding wsX5_finding) := goodIn_app (goodIn_of _ (by decide +kernel)) ggX5_resident_X5_finding
set_option maxRecDepth 20000 in
theorem ggX5_resident_X2_isFull : GoodIn wsX5_resident wsX2_isFull := goodIn_r _ [20, 21, 47, 48, 49, 50, 51, 52, 53, 54, 55, 56, 57] (by decide +kernel) (by decide +kernel)
set_option maxRecDepth 20000 in
theorem gX5_resident_X2_isFull : GoodIn wsX5_resident (wsV RX5 85 RX2 yX2_isFull wsX2_isFull) := goodIn_app (goodIn_of _ (by decide +kernel)) ggX5_resident_X2_isFull
set_option maxRecDepth 20000 in
theorem ggX5_resident_X2_moveIn : GoodIn wsX5_resident wsX2_moveIn := goodIn_r _ [25, 26, 21, 27, 17, 18, 19, 20, 28, 29, 30, 31, 32, 33, 34, 35, 36, 37, 38, 47, 48, 49, 50, 51, 52, 53, 54, 55, 56, 57, 58, 59, 60, 61, 62, 63] (by decide +kernel) (by decide +kernel)
set_option maxRecDepth 20000 in
theorem gX5_resident_X2_moveIn : GoodIn wsX5_resident (wsV RX5 90 RX2 yX2_moveIn wsX2_moveIn) := goodIn_app (goodIn_of _ (by decide +kernel)) ggX5_resident_X2_moveIn
theorem dX5_resident_0 : decode cX5_resident 0 = .ok (.iload_n 1, 1) := by decide +kernel
theorem dX5_resident_1 : decode cX5_resident 1 = .ok (.invokestatic 82, 3) := by decide +kernel
theorem dX5_resident_4 : decode cX5_resident 4 = .ok (.ifCond .eq 13, 3) := by decide +kernel
theorem dX5_resident_7 : decode cX5_resident 7 = .ok (.iload_n 2, 1) := by decide +kernel
theorem dX5_resident_8 : decode cX5_resident 8 = .ok (.iconst 0, 1) := by decide +kernel
theorem dX5_resident_9 : decode cX5_resident 9 = .ok (.bipush 15, 2) := by decide +kernel
theorem dX5_resident_11 : decode cX5_resident 11 = .ok (.invokestatic 47, 3) := by decide +kernel
theorem dX5_resident_14 : decode cX5_resident 14 = .ok (.ifCond .ne 10, 3) := by decide +kernel
theorem dX5_resident_17 : decode cX5_resident 17 = .ok (.aload_n 0, 1) := by decide +kernel
theorem dX5_resident_18 : decode cX5_resident 18 = .ok (.ldc 54, 2) := by decide +kernel
theorem dX5_resident_20 : decode cX5_resident 20 = .ok (.invokevirtual 55, 3) := by decide +kernel
theorem dX5_resident_23 : decode cX5_resident 23 = .ok (.ireturn, 1) := by decide +kernel
theorem dX5_resident_24 : decode cX5_resident 24 = .ok (.aload_n 0, 1) := by decide +kernel
theorem dX5_resident_25 : decode cX5_resident 25 = .ok (.getfield 12, 3) := by decide +kernel
theorem dX5_resident_28 : decode cX5_resident 28 = .ok (.invokevirtual 85, 3) := by decide +kernel
theorem dX5_resident_31 : decode cX5_resident 31 = .ok (.ifCond .eq 10, 3) := by decide +kernel
theorem dX5_resident_34 : decode cX5_resident 34 = .ok (.aload_n 0, 1) := by decide +kernel
theorem dX5_resident_35 : decode cX5_resident 35 = .ok (.ldc 89, 2) := by decide +kernel
theorem dX5_resident_37 : decode cX5_resident 37 = .ok (.invokevirtual 55, 3) := by decide +kernel
theorem dX5_resident_40 : decode cX5_resident 40 = .ok (.ireturn, 1) := by decide +kernel
theorem dX5_resident_41 : decode cX5_resident 41 = .ok (.aload_n 0, 1) := by decide +kernel
theorem dX5_resident_42 : decode cX5_resident 42 = .ok (.getfield 12, 3) := by decide +kernel
theorem dX5_resident_45 : decode cX5_resident 45 = .ok (.iload_n 1, 1) := by decide +kernel
theorem dX5_resident_46 : decode cX5_resident 46 = .ok (.iload_n 2, 1) := by decide +kernel
theorem dX5_resident_47 : decode cX5_resident 47 = .ok (.invokevirtual 90, 3) := by decide +kernel
theorem dX5_resident_50 : decode cX5_resident 50 = .ok (.ireturn, 1) := by decide +kernel
set_option maxRecDepth 20000 in
theorem ggX5_of_X2_has : GoodIn wsX5_of wsX2_has := goodIn_r _ [7, 8, 9, 10, 11, 75, 76, 77, 78, 79, 80, 81, 82, 83, 84, 85] (by decide +kernel) (by decide +kernel)
set_option maxRecDepth 20000 in
theorem gX5_of_X2_has : GoodIn wsX5_of (wsV RX5 94 RX2 yX2_has wsX2_has) := goodIn_app (goodIn_of _ (by decide +kernel)) ggX5_of_X2_has
set_option maxRecDepth 20000 in
theorem ggX5_of_X5_isWithin : GoodIn wsX5_of wsX5_isWithin := goodIn_r _ [11] (by decide +kernel) (by decide +kernel)
set_option maxRecDepth 20000 in
theorem gX5_of_X5_isWithin : GoodIn wsX5_of (va_wsS RX5 47 yX5_isWithin wsX5_isWithin) := goodIn_app (goodIn_of _ (by decide +kernel)) ggX5_of_X5_isWithin
set_option maxRecDepth 20000 in
theorem ggX5_of_X5_finding : GoodIn wsX5_of wsX5_finding := goodIn_r _ [16, 2, 17, 12, 9, 10, 11, 67, 68, 69, 70, 71, 72, 73, 74] (by decide +kernel) (by decide +kernel)
set_option maxRecDepth 20000 in
theorem gX5_of_X5_finding : GoodIn wsX5_of (wsV RX5 55 RX5 yX5_finding wsX5_finding) := goodIn_app (goodIn_of _ (by decide +kernel)) ggX5_of_X5_finding
set_option maxRecDepth 20000 in
theorem ggX5_of_X2_tell : GoodIn wsX5_of wsX2_tell := goodIn_r _ [21, 22, 23, 24, 25, 26, 27, 28, 29, 30, 31, 32, 33, 34, 35, 36, 37, 38, 39, 40, 41, 42, 43, 44, 45, 46, 47, 48, 49, 50, 51, 52, 53, 54, 55, 56, 57, 58, 59, 60, 61, 62, 63, 64, 65, 66, 75, 76, 77, 78, 79, 80, 81, 82, 83, 84, 85, 86, 87, 88, 89, 90, 91] (by decide +kernel) (by decide +kernel)
set_option maxRecDepth 20000 in
theorem gX5_of_X2_tell : GoodIn wsX5_of (wsV RX5 97 RX2 yX2_tell wsX2_tell) := goodIn_app (goodIn_of _ (by decide +kernel)) ggX5_of_X2_tell
theorem dX5_of_0 : decode cX5_of 0 = .ok (.aload_n 0, 1) := by decide +kernel
theorem dX5_of_1 : decode cX5_of 1 = .ok (.getfield 12, 3) := by decide +kernel
theorem dX5_of_4 : decode cX5_of 4 = .ok (.iload_n 1, 1) := by decide +kernel
theorem dX5_of_5 : decode cX5_of 5 = .ok (.invokevirtual 94, 3) := by decide +kernel
theorem dX5_of_8 : decode cX5_of 8 = .ok (.ifCond .eq 13, 3) := by decide +kernel
theorem dX5_of_11 : decode cX5_of 11 = .ok (.iload_n 2, 1) := by decide +kernel
theorem dX5_of_12 : decode cX5_of 12 = .ok (.iconst 0, 1) := by decide +kernel
theorem dX5_of_13 : decode cX5_of 13 = .ok (.bipush 10, 2) := by decide +kernel
theorem dX5_of_15 : decode cX5_of 15 = .ok (.invokestatic 47, 3) := by decide +kernel
theorem dX5_of_18 : decode cX5_of 18 = .ok (.ifCond .ne 10, 3) := by decide +kernel
theorem dX5_of_21 : decode cX5_of 21 = .ok (.aload_n 0, 1) := by decide +kernel
theorem dX5_of_22 : decode cX5_of 22 = .ok (.ldc 54, 2) := by decide +kernel
theorem dX5_of_24 : decode cX5_of 24 = .ok (.invokevirtual 55, 3) := by decide +kernel
theorem dX5_of_27 : decode cX5_of 27 = .ok (.ireturn, 1) := by decide +kernel
theorem dX5_of_28 : decode cX5_of 28 = .ok (.aload_n 0, 1) := by decide +kernel
theorem dX5_of_29 : decode cX5_of 29 = .ok (.getfield 12, 3) := by decide +kernel
theorem dX5_of_32 : decode cX5_of 32 = .ok (.iload_n 1, 1) := by decide +kernel
theorem dX5_of_33 : decode cX5_of 33 = .ok (.iload_n 2, 1) := by decide +kernel
theorem dX5_of_34 : decode cX5_of 34 = .ok (.invokevirtual 97, 3) := by decide +kernel
theorem dX5_of_37 : decode cX5_of 37 = .ok (.ireturn, 1) := by decide +kernel
set_option maxRecDepth 20000 in
theorem ggX5_change_X2_has : GoodIn wsX5_change wsX2_has := goodIn_r _ [9, 10, 11, 12, 13, 81, 82, 83, 84, 85, 86, 87, 88, 89, 90, 91] (by decide +kernel) (by decide +kernel)
set_option maxRecDepth 20000 in
theorem gX5_change_X2_has : GoodIn wsX5_change (wsV RX5 94 RX2 yX2_has wsX2_has) := goodIn_app (goodIn_of _ (by decide +kernel)) ggX5_change_X2_has
set_option maxRecDepth 20000 in
theorem ggX5_change_X5_isWithin : GoodIn wsX5_change wsX5_isWithin := goodIn_r _ [13] (by decide +kernel) (by decide +kernel)
set_option maxRecDepth 20000 in
theorem gX5_change_X5_isWithin : GoodIn wsX5_change (va_wsS RX5 47 yX5_isWithin wsX5_isWithin) := goodIn_app (goodIn_of _ (by decide +kernel)) ggX5_change_X5_isWithin
set_option maxRecDepth 20000 in
theorem ggX5_change_X5_finding : GoodIn wsX5_change wsX5_finding := goodIn_r _ [18, 3, 19, 14, 11, 12, 13, 73, 74, 75, 76, 77, 78, 79, 80] (by decide +kernel) (by decide +kernel)
set_option maxRecDepth 20000 in
theorem gX5_change_X5_finding : GoodIn wsX5_change (wsV RX5 55 RX5 yX5_finding wsX5_finding) := goodIn_app (goodIn_of _ (by decide +kernel)) ggX5_change_X5_finding
set_option maxRecDepth 20000 in
theorem ggX5_change_X2_tell : GoodIn wsX5_change wsX2_tell := goodIn_r _ [23, 24, 25, 26, 27, 28, 29, 30, 31, 32, 33, 34, 35, 36, 37, 38, 39, 40, 41, 42, 43, 44, 45, 46, 47, 48, 49, 50, 51, 52, 53, 54, 55, 56, 57, 58, 59, 60, 61, 62, 63, 64, 65, 66, 67, 68, 81, 82, 83, 84, 85, 86, 87, 88, 89, 90, 91, 92, 93, 94, 95, 96, 97] (by decide +kernel) (by decide +kernel)
set_option maxRecDepth 20000 in
theorem gX5_change_X2_tell : GoodIn wsX5_change (wsV RX5 97 RX2 yX2_tell wsX2_tell) := goodIn_app (goodIn_of _ (by decide +kernel)) ggX5_change_X2_tell
set_option maxRecDepth 20000 in
theorem ggX5_change_X0_put : GoodIn wsX5_change wsX0_put := goodIn_r _ [72, 32, 33, 34, 35, 36, 37, 92, 93, 94, 95, 96, 97] (by decide +kernel) (by decide +kernel)
set_option maxRecDepth 20000 in
theorem gX5_change_X0_put : GoodIn wsX5_change (wsV RX5 107 RX0 yX0_put wsX0_put) := goodIn_app (goodIn_of _ (by decide +kernel)) ggX5_change_X0_put
theorem dX5_change_0 : decode cX5_change 0 = .ok (.aload_n 0, 1) := by decide +kernel
theorem dX5_change_1 : decode cX5_change 1 = .ok (.getfield 12, 3) := by decide +kernel
theorem dX5_change_4 : decode cX5_change 4 = .ok (.iload_n 1, 1) := by decide +kernel
theorem dX5_change_5 : decode cX5_change 5 = .ok (.invokevirtual 94, 3) := by decide +kernel
theorem dX5_change_8 : decode cX5_change 8 = .ok (.ifCond .eq 25, 3) := by decide +kernel
theorem dX5_change_11 : decode cX5_change 11 = .ok (.iload_n 2, 1) := by decide +kernel
theorem dX5_change_12 : decode cX5_change 12 = .ok (.iconst 0, 1) := by decide +kernel
theorem dX5_change_13 : decode cX5_change 13 = .ok (.iconst 5, 1) := by decide +kernel
theorem dX5_change_14 : decode cX5_change 14 = .ok (.invokestatic 47, 3) := by decide +kernel
theorem dX5_change_17 : decode cX5_change 17 = .ok (.ifCond .eq 16, 3) := by decide +kernel
theorem dX5_change_20 : decode cX5_change 20 = .ok (.iload_n 3, 1) := by decide +kernel
theorem dX5_change_21 : decode cX5_change 21 = .ok (.iconst 0, 1) := by decide +kernel
theorem dX5_change_22 : decode cX5_change 22 = .ok (.getstatic 100, 3) := by decide +kernel
theorem dX5_change_25 : decode cX5_change 25 = .ok (.iload_n 2, 1) := by decide +kernel
theorem dX5_change_26 : decode cX5_change 26 = .ok (.iaload, 1) := by decide +kernel
theorem dX5_change_27 : decode cX5_change 27 = .ok (.invokestatic 47, 3) := by decide +kernel
theorem dX5_change_30 : decode cX5_change 30 = .ok (.ifCond .ne 10, 3) := by decide +kernel
theorem dX5_change_33 : decode cX5_change 33 = .ok (.aload_n 0, 1) := by decide +kernel
theorem dX5_change_34 : decode cX5_change 34 = .ok (.ldc 54, 2) := by decide +kernel
theorem dX5_change_36 : decode cX5_change 36 = .ok (.invokevirtual 55, 3) := by decide +kernel
theorem dX5_change_39 : decode cX5_change 39 = .ok (.ireturn, 1) := by decide +kernel
theorem dX5_change_40 : decode cX5_change 40 = .ok (.aload_n 0, 1) := by decide +kernel
theorem dX5_change_41 : decode cX5_change 41 = .ok (.getfield 12, 3) := by decide +kernel
theorem dX5_change_44 : decode cX5_change 44 = .ok (.iload_n 1, 1) := by decide +kernel
theorem dX5_change_45 : decode cX5_change 45 = .ok (.iload_n 2, 1) := by decide +kernel
theorem dX5_change_46 : decode cX5_change 46 = .ok (.invokevirtual 97, 3) := by decide +kernel
theorem dX5_change_49 : decode cX5_change 49 = .ok (.istore 4, 2) := by decide +kernel
theorem dX5_change_51 : decode cX5_change 51 = .ok (.aload_n 0, 1) := by decide +kernel
theorem dX5_change_52 : decode cX5_change 52 = .ok (.getfield 12, 3) := by decide +kernel
theorem dX5_change_55 : decode cX5_change 55 = .ok (.getfield 103, 3) := by decide +kernel
theorem dX5_change_58 : decode cX5_change 58 = .ok (.iload_n 1, 1) := by decide +kernel
theorem dX5_change_59 : decode cX5_change 59 = .ok (.aaload, 1) := by decide +kernel
theorem dX5_change_60 : decode cX5_change 60 = .ok (.iload_n 2, 1) := by decide +kernel
theorem dX5_change_61 : decode cX5_change 61 = .ok (.iload_n 3, 1) := by decide +kernel
theorem dX5_change_62 : decode cX5_change 62 = .ok (.invokevirtual 107, 3) := by decide +kernel
theorem dX5_change_65 : decode cX5_change 65 = .ok (.iload 4, 2) := by decide +kernel
theorem dX5_change_67 : decode cX5_change 67 = .ok (.ireturn, 1) := by decide +kernel
set_option maxRecDepth 20000 in
theorem ggX5_tempted_X2_has : GoodIn wsX5_tempted wsX2_has := goodIn_r _ [8, 9, 10, 11, 12, 38, 39, 40, 41, 42, 43, 44, 45, 46, 47, 48] (by decide +kernel) (by decide +kernel)
set_option maxRecDepth 20000 in
theorem gX5_tempted_X2_has : GoodIn wsX5_tempted (wsV RX5 94 RX2 yX2_has wsX2_has) := goodIn_app (goodIn_of _ (by decide +kernel)) ggX5_tempted_X2_has
set_option maxRecDepth 20000 in
theorem ggX5_tempted_X5_isGood : GoodIn wsX5_tempted wsX5_isGood := goodIn_r _ [15, 16, 10, 11, 12] (by decide +kernel) (by decide +kernel)
set_option maxRecDepth 20000 in
theorem gX5_tempted_X5_isGood : GoodIn wsX5_tempted (va_wsS RX5 76 yX5_isGood wsX5_isGood) := goodIn_app (goodIn_of _ (by decide +kernel)) ggX5_tempted_X5_isGood
set_option maxRecDepth 20000 in
theorem ggX5_tempted_X5_finding : GoodIn wsX5_tempted wsX5_finding := goodIn_r _ [20, 2, 21, 16, 10, 11, 12, 30, 31, 32, 33, 34, 35, 36, 37] (by decide +kernel) (by decide +kernel)
set_option maxRecDepth 20000 in
theorem gX5_tempted_X5_finding : GoodIn wsX5_tempted (wsV RX5 55 RX5 yX5_finding wsX5_finding) := goodIn_app (goodIn_of _ (by decide +kernel)) ggX5_tempted_X5_finding
set_option maxRecDepth 20000 in
theorem ggX5_tempted_X0_isTemptedBy : GoodIn wsX5_tempted wsX0_isTemptedBy := goodIn_r _ [26, 27, 28, 29, 49, 50, 51, 52, 53, 54] (by decide +kernel) (by decide +kernel)
set_option maxRecDepth 20000 in
theorem gX5_tempted_X0_isTemptedBy : GoodIn wsX5_tempted (wsV RX5 113 RX0 yX0_isTemptedBy wsX0_isTemptedBy) := goodIn_app (goodIn_of _ (by decide +kernel)) ggX5_tempted_X0_isTemptedBy
theorem dX5_tempted_0 : decode cX5_tempted 0 = .ok (.aload_n 0, 1) := by decide +kernel
theorem dX5_tempted_1 : decode cX5_tempted 1 = .ok (.getfield 12, 3) := by decide +kernel
theorem dX5_tempted_4 : decode cX5_tempted 4 = .ok (.iload_n 1, 1) := by decide +kernel
theorem dX5_tempted_5 : decode cX5_tempted 5 = .ok (.invokevirtual 94, 3) := by decide +kernel
theorem dX5_tempted_8 : decode cX5_tempted 8 = .ok (.ifCond .eq 10, 3) := by decide +kernel
theorem dX5_tempted_11 : decode cX5_tempted 11 = .ok (.iload_n 2, 1) := by decide +kernel
theorem dX5_tempted_12 : decode cX5_tempted 12 = .ok (.invokestatic 76, 3) := by decide +kernel
theorem dX5_tempted_15 : decode cX5_tempted 15 = .ok (.ifCond .ne 10, 3) := by decide +kernel
theorem dX5_tempted_18 : decode cX5_tempted 18 = .ok (.aload_n 0, 1) := by decide +kernel
theorem dX5_tempted_19 : decode cX5_tempted 19 = .ok (.ldc 54, 2) := by decide +kernel
theorem dX5_tempted_21 : decode cX5_tempted 21 = .ok (.invokevirtual 55, 3) := by decide +kernel
theorem dX5_tempted_24 : decode cX5_tempted 24 = .ok (.ireturn, 1) := by decide +kernel
theorem dX5_tempted_25 : decode cX5_tempted 25 = .ok (.aload_n 0, 1) := by decide +kernel
theorem dX5_tempted_26 : decode cX5_tempted 26 = .ok (.getfield 12, 3) := by decide +kernel
theorem dX5_tempted_29 : decode cX5_tempted 29 = .ok (.getfield 103, 3) := by decide +kernel
theorem dX5_tempted_32 : decode cX5_tempted 32 = .ok (.iload_n 1, 1) := by decide +kernel
theorem dX5_tempted_33 : decode cX5_tempted 33 = .ok (.aaload, 1) := by decide +kernel
theorem dX5_tempted_34 : decode cX5_tempted 34 = .ok (.iload_n 2, 1) := by decide +kernel
theorem dX5_tempted_35 : decode cX5_tempted 35 = .ok (.invokevirtual 113, 3) := by decide +kernel
theorem dX5_tempted_38 : decode cX5_tempted 38 = .ok (.ifCond .eq 7, 3) := by decide +kernel
theorem dX5_tempted_41 : decode cX5_tempted 41 = .ok (.iconst 1, 1) := by decide +kernel
theorem dX5_tempted_42 : decode cX5_tempted 42 = .ok (.goto 4, 3) := by decide +kernel
theorem dX5_tempted_45 : decode cX5_tempted 45 = .ok (.iconst 0, 1) := by decide +kernel
theorem dX5_tempted_46 : decode cX5_tempted 46 = .ok (.ireturn, 1) := by decide +kernel
set_option maxRecDepth 20000 in
theorem ggX5_register_X5_isGood : GoodIn wsX5_register wsX5_isGood := goodIn_r _ [7, 8, 9, 6, 10] (by decide +kernel) (by decide +kernel)
set_option maxRecDepth 20000 in
theorem gX5_register_X5_isGood : GoodIn wsX5_register (va_wsS RX5 76 yX5_isGood wsX5_isGood) := goodIn_app (goodIn_of _ (by decide +kernel)) ggX5_register_X5_isGood
set_option maxRecDepth 20000 in
theorem ggX5_register_X5_finding : GoodIn wsX5_register wsX5_finding := goodIn_r _ [14, 1, 15, 8, 9, 6, 10, 16, 17, 18, 19, 20, 21, 22, 23] (by decide +kernel) (by decide +kernel)
set_option maxRecDepth 20000 in
theorem gX5_register_X5_finding : GoodIn wsX5_register (wsV RX5 55 RX5 yX5_finding wsX5_finding) := goodIn_app (goodIn_of _ (by decide +kernel)) ggX5_register_X5_finding
theorem dX5_register_0 : decode cX5_register 0 = .ok (.iload_n 1, 1) := by decide +kernel
theorem dX5_register_1 : decode cX5_register 1 = .ok (.invokestatic 76, 3) := by decide +kernel
theorem dX5_register_4 : decode cX5_register 4 = .ok (.ifCond .ne 10, 3) := by decide +kernel
theorem dX5_register_7 : decode cX5_register 7 = .ok (.aload_n 0, 1) := by decide +kernel
theorem dX5_register_8 : decode cX5_register 8 = .ok (.ldc 54, 2) := by decide +kernel
theorem dX5_register_10 : decode cX5_register 10 = .ok (.invokevirtual 55, 3) := by decide +kernel
theorem dX5_register_13 : decode cX5_register 13 = .ok (.ireturn, 1) := by decide +kernel
theorem dX5_register_14 : decode cX5_register 14 = .ok (.aload_n 0, 1) := by decide +kernel
theorem dX5_register_15 : decode cX5_register 15 = .ok (.getfield 12, 3) := by decide +kernel
theorem dX5_register_18 : decode cX5_register 18 = .ok (.getfield 116, 3) := by decide +kernel
theorem dX5_register_21 : decode cX5_register 21 = .ok (.iload_n 1, 1) := by decide +kernel
theorem dX5_register_22 : decode cX5_register 22 = .ok (.iaload, 1) := by decide +kernel
theorem dX5_register_23 : decode cX5_register 23 = .ok (.ireturn, 1) := by decide +kernel
set_option maxRecDepth 20000 in
theorem ggX5_comers_X5_isGood : GoodIn wsX5_comers wsX5_isGood := goodIn_r _ [6, 7, 8, 5, 9] (by decide +kernel) (by decide +kernel)
set_option maxRecDepth 20000 in
theorem gX5_comers_X5_isGood : GoodIn wsX5_comers (va_wsS RX5 76 yX5_isGood wsX5_isGood) := goodIn_app (goodIn_of _ (by decide +kernel)) ggX5_comers_X5_isGood
set_option maxRecDepth 20000 in
theorem ggX5_comers_X5_finding : GoodIn wsX5_comers wsX5_finding := goodIn_r _ [13, 1, 14, 7, 8, 5, 9, 59, 60, 61, 62, 63, 64, 65, 66] (by decide +kernel) (by decide +kernel)
set_option maxRecDepth 20000 in
theorem gX5_comers_X5_finding : GoodIn wsX5_comers (wsV RX5 55 RX5 yX5_finding wsX5_finding) := goodIn_app (goodIn_of _ (by decide +kernel)) ggX5_comers_X5_finding
set_option maxRecDepth 20000 in
theorem ggX5_comers_X2_whoWouldCome : GoodIn wsX5_comers wsX2_whoWouldCome := goodIn_r _ [19, 20, 21, 22, 23, 24, 25, 26, 27, 28, 29, 30, 31, 32, 33, 34, 35, 36, 37, 38, 39, 40, 41, 42, 43, 44, 45, 46, 47, 48, 49, 50, 51, 52, 53, 54, 55, 56, 57, 58, 67, 68, 69, 70, 71, 72, 73, 74, 75, 76, 77, 78, 79, 80, 81, 82, 83] (by decide +kernel) (by decide +kernel)
set_option maxRecDepth 20000 in
theorem gX5_comers_X2_whoWouldCome : GoodIn wsX5_comers (wsV RX5 119 RX2 yX2_whoWouldCome wsX2_whoWouldCome) := goodIn_app (goodIn_of _ (by decide +kernel)) ggX5_comers_X2_whoWouldCome
theorem dX5_comers_0 : decode cX5_comers 0 = .ok (.iload_n 1, 1) := by decide +kernel
theorem dX5_comers_1 : decode cX5_comers 1 = .ok (.invokestatic 76, 3) := by decide +kernel
theorem dX5_comers_4 : decode cX5_comers 4 = .ok (.ifCond .ne 10, 3) := by decide +kernel
theorem dX5_comers_7 : decode cX5_comers 7 = .ok (.aload_n 0, 1) := by decide +kernel
theorem dX5_comers_8 : decode cX5_comers 8 = .ok (.ldc 54, 2) := by decide +kernel
theorem dX5_comers_10 : decode cX5_comers 10 = .ok (.invokevirtual 55, 3) := by decide +kernel
theorem dX5_comers_13 : decode cX5_comers 13 = .ok (.ireturn, 1) := by decide +kernel
theorem dX5_comers_14 : decode cX5_comers 14 = .ok (.aload_n 0, 1) := by decide +kernel
theorem dX5_comers_15 : decode cX5_comers 15 = .ok (.getfield 12, 3) := by decide +kernel
theorem dX5_comers_18 : decode cX5_comers 18 = .ok (.iload_n 1, 1) := by decide +kernel
theorem dX5_comers_19 : decode cX5_comers 19 = .ok (.invokevirtual 119, 3) := by decide +kernel
theorem dX5_comers_22 : decode cX5_comers 22 = .ok (.ireturn, 1) := by decide +kernel
set_option maxRecDepth 20000 in
theorem ggX5_go_X5_isWithin : GoodIn wsX5_go wsX5_isWithin := goodIn_r _ [10] (by decide +kernel) (by decide +kernel)
set_option maxRecDepth 20000 in
theorem gX5_go_X5_isWithin : GoodIn wsX5_go (va_wsS RX5 47 yX5_isWithin wsX5_isWithin) := goodIn_app (goodIn_of _ (by decide +kernel)) ggX5_go_X5_isWithin
set_option maxRecDepth 20000 in
theorem ggX5_go_X5_finding : GoodIn wsX5_go wsX5_finding := goodIn_r _ [14, 1, 15, 7, 8, 9, 10, 127, 128, 129, 130, 131, 132, 133, 134] (by decide +kernel) (by decide +kernel)
set_option maxRecDepth 20000 in
theorem gX5_go_X5_finding : GoodIn wsX5_go (wsV RX5 55 RX5 yX5_finding wsX5_finding) := goodIn_app (goodIn_of _ (by decide +kernel)) ggX5_go_X5_finding
set_option maxRecDepth 20000 in
theorem ggX5_go_X2_passDays : GoodIn wsX5_go wsX2_passDays := goodIn_r _ [20, 21, 22, 23, 19, 24, 25, 26, 27, 28, 29, 30, 31, 32, 33, 34, 35, 36, 37, 38, 39, 40, 41, 42, 43, 44, 45, 46, 47, 48, 49, 50, 51, 52, 53, 54, 55, 56, 57, 58, 59, 60, 61, 62, 63, 64, 65, 66, 67, 68, 69, 70, 71, 72, 73, 74, 75, 76, 77, 78, 79, 80, 81, 82, 83, 84, 85, 86, 87, 88, 89, 90, 91, 92, 93, 94, 95, 96, 97, 98, 99, 100, 101, 102, 103, 104, 105, 106, 107, 108, 109, 110, 111, 112, 113, 114, 115, 116, 117, 118, 119, 120, 121, 122, 123, 124, 125, 126, 135, 136, 137, 138, 139, 140, 141, 142, 143, 144, 145, 146, 147, 148, 149, 150, 151] (by decide +kernel) (by decide +kernel)
set_option maxRecDepth 20000 in
theorem gX5_go_X2_passDays : GoodIn wsX5_go (wsV RX5 127 RX2 yX2_passDays wsX2_passDays) := goodIn_app (goodIn_of _ (by decide +kernel)) ggX5_go_X2_passDays
theorem dX5_go_0 : decode cX5_go 0 = .ok (.iload_n 1, 1) := by decide +kernel
theorem dX5_go_1 : decode cX5_go 1 = .ok (.iconst 1, 1) := by decide +kernel
theorem dX5_go_2 : decode cX5_go 2 = .ok (.bipush 60, 2) := by decide +kernel
theorem dX5_go_4 : decode cX5_go 4 = .ok (.invokestatic 47, 3) := by decide +kernel
theorem dX5_go_7 : decode cX5_go 7 = .ok (.ifCond .ne 10, 3) := by decide +kernel
theorem dX5_go_10 : decode cX5_go 10 = .ok (.aload_n 0, 1) := by decide +kernel
theorem dX5_go_11 : decode cX5_go 11 = .ok (.ldc 54, 2) := by decide +kernel
theorem dX5_go_13 : decode cX5_go 13 = .ok (.invokevirtual 55, 3) := by decide +kernel
theorem dX5_go_16 : decode cX5_go 16 = .ok (.ireturn, 1) := by decide +kernel
theorem dX5_go_17 : decode cX5_go 17 = .ok (.aload_n 0, 1) := by decide +kernel
theorem dX5_go_18 : decode cX5_go 18 = .ok (.getfield 12, 3) := by decide +kernel
theorem dX5_go_21 : decode cX5_go 21 = .ok (.getfield 122, 3) := by decide +kernel
theorem dX5_go_24 : decode cX5_go 24 = .ok (.iload_n 1, 1) := by decide +kernel
theorem dX5_go_25 : decode cX5_go 25 = .ok (.iadd, 1) := by decide +kernel
theorem dX5_go_26 : decode cX5_go 26 = .ok (.ldc 125, 2) := by decide +kernel
theorem dX5_go_28 : decode cX5_go 28 = .ok (.if_icmp .le 10, 3) := by decide +kernel
theorem dX5_go_31 : decode cX5_go 31 = .ok (.aload_n 0, 1) := by decide +kernel
theorem dX5_go_32 : decode cX5_go 32 = .ok (.ldc 126, 2) := by decide +kernel
theorem dX5_go_34 : decode cX5_go 34 = .ok (.invokevirtual 55, 3) := by decide +kernel
theorem dX5_go_37 : decode cX5_go 37 = .ok (.ireturn, 1) := by decide +kernel
theorem dX5_go_38 : decode cX5_go 38 = .ok (.aload_n 0, 1) := by decide +kernel
theorem dX5_go_39 : decode cX5_go 39 = .ok (.getfield 12, 3) := by decide +kernel
theorem dX5_go_42 : decode cX5_go 42 = .ok (.iload_n 1, 1) := by decide +kernel
theorem dX5_go_43 : decode cX5_go 43 = .ok (.invokevirtual 127, 3) := by decide +kernel
theorem dX5_go_46 : decode cX5_go 46 = .ok (.aload_n 0, 1) := by decide +kernel
theorem dX5_go_47 : decode cX5_go 47 = .ok (.getfield 12, 3) := by decide +kernel
theorem dX5_go_50 : decode cX5_go 50 = .ok (.getfield 131, 3) := by decide +kernel
theorem dX5_go_53 : decode cX5_go 53 = .ok (.ireturn, 1) := by decide +kernel
set_option maxRecDepth 20000 in
theorem ggX5_now_X2_everybody : GoodIn wsX5_now wsX2_everybody := goodIn_r _ [9, 10, 69, 70, 71, 72, 73, 74, 75, 76, 77, 78, 79] (by decide +kernel) (by decide +kernel)
set_option maxRecDepth 20000 in
theorem gX5_now_X2_everybody : GoodIn wsX5_now (wsV RX5 134 RX2 yX2_everybody wsX2_everybody) := goodIn_app (goodIn_of _ (by decide +kernel)) ggX5_now_X2_everybody
set_option maxRecDepth 20000 in
theorem ggX5_now_X2_wantedBy : GoodIn wsX5_now wsX2_wantedBy := goodIn_r _ [14, 10, 15, 16, 69, 70, 71, 72, 73, 74, 75, 76, 77, 78, 79, 80, 81, 82, 83, 84, 85] (by decide +kernel) (by decide +kernel)
set_option maxRecDepth 20000 in
theorem gX5_now_X2_wantedBy : GoodIn wsX5_now (wsV RX5 138 RX2 yX2_wantedBy wsX2_wantedBy) := goodIn_app (goodIn_of _ (by decide +kernel)) ggX5_now_X2_wantedBy
set_option maxRecDepth 20000 in
theorem ggX5_now_X2_allHope : GoodIn wsX5_now wsX2_allHope := goodIn_r _ [20, 10, 15, 21, 69, 70, 71, 72, 73, 74, 75, 76, 77, 78, 79, 80, 81, 82, 83, 84, 85] (by decide +kernel) (by decide +kernel)
set_option maxRecDepth 20000 in
theorem gX5_now_X2_allHope : GoodIn wsX5_now (wsV RX5 141 RX2 yX2_allHope wsX2_allHope) := goodIn_app (goodIn_of _ (by decide +kernel)) ggX5_now_X2_allHope
set_option maxRecDepth 20000 in
theorem ggX5_now_X2_allStood : GoodIn wsX5_now wsX2_allStood := goodIn_r _ [25, 10, 15, 26, 69, 70, 71, 72, 73, 74, 75, 76, 77, 78, 79, 80, 81, 82, 83, 84, 85] (by decide +kernel) (by decide +kernel)
set_option maxRecDepth 20000 in
theorem gX5_now_X2_allStood : GoodIn wsX5_now (wsV RX5 144 RX2 yX2_allStood wsX2_allStood) := goodIn_app (goodIn_of _ (by decide +kernel)) ggX5_now_X2_allStood
set_option maxRecDepth 20000 in
theorem ggX5_now_X2_allRegister : GoodIn wsX5_now wsX2_allRegister := goodIn_r _ [30, 31, 69, 70, 71, 72, 73, 74, 75, 76, 77, 78, 79] (by decide +kernel) (by decide +kernel)
set_option maxRecDepth 20000 in
theorem gX5_now_X2_allRegister : GoodIn wsX5_now (wsV RX5 147 RX2 yX2_allRegister wsX2_allRegister) := goodIn_app (goodIn_of _ (by decide +kernel)) ggX5_now_X2_allRegister
set_option maxRecDepth 20000 in
theorem ggX5_now_X2_goodsInRegister : GoodIn wsX5_now wsX2_goodsInRegister := goodIn_r _ [35, 31, 69, 70, 71, 72, 73, 74, 75, 76, 77, 78, 79] (by decide +kernel) (by decide +kernel)
set_option maxRecDepth 20000 in
theorem gX5_now_X2_goodsInRegister : GoodIn wsX5_now (wsV RX5 150 RX2 yX2_goodsInRegister wsX2_goodsInRegister) := goodIn_app (goodIn_of _ (by decide +kernel)) ggX5_now_X2_goodsInRegister
set_option maxRecDepth 20000 in
theorem ggX5_now_X2_fetches : GoodIn wsX5_now wsX2_fetches := goodIn_r _ [39, 31, 40, 41, 42, 43, 44, 33, 34, 8, 35, 45, 46, 47, 48, 49, 50, 51, 69, 70, 71, 72, 73, 74, 75, 76, 77, 78, 79] (by decide +kernel) (by decide +kernel)
set_option maxRecDepth 20000 in
theorem gX5_now_X2_fetches : GoodIn wsX5_now (wsV RX5 153 RX2 yX2_fetches wsX2_fetches) := goodIn_app (goodIn_of _ (by decide +kernel)) ggX5_now_X2_fetches
set_option maxRecDepth 20000 in
theorem ggX5_now_X5_finding : GoodIn wsX5_now wsX5_finding := goodIn_r _ [56, 4, 57, 58, 59, 55, 60, 61, 62, 63, 64, 65, 66, 67, 68] (by decide +kernel) (by decide +kernel)
set_option maxRecDepth 20000 in
theorem gX5_now_X5_finding : GoodIn wsX5_now (wsV RX5 55 RX5 yX5_finding wsX5_finding) := goodIn_app (goodIn_of _ (by decide +kernel)) ggX5_now_X5_finding
theorem dX5_now_0 : decode cX5_now 0 = .ok (.iload_n 1, 1) := by decide +kernel
theorem dX5_now_1 : decode cX5_now 1 = .ok (.tableswitch 118 0 7 #[47, 55, 63, 78, 86, 94, 102, 110], 47) := by decide +kernel
theorem dX5_now_48 : decode cX5_now 48 = .ok (.aload_n 0, 1) := by decide +kernel
theorem dX5_now_49 : decode cX5_now 49 = .ok (.getfield 12, 3) := by decide +kernel
theorem dX5_now_52 : decode cX5_now 52 = .ok (.getfield 122, 3) := by decide +kernel
theorem dX5_now_55 : decode cX5_now 55 = .ok (.ireturn, 1) := by decide +kernel
theorem dX5_now_56 : decode cX5_now 56 = .ok (.aload_n 0, 1) := by decide +kernel
theorem dX5_now_57 : decode cX5_now 57 = .ok (.getfield 12, 3) := by decide +kernel
theorem dX5_now_60 : decode cX5_now 60 = .ok (.getfield 131, 3) := by decide +kernel
theorem dX5_now_63 : decode cX5_now 63 = .ok (.ireturn, 1) := by decide +kernel
theorem dX5_now_64 : decode cX5_now 64 = .ok (.aload_n 0, 1) := by decide +kernel
theorem dX5_now_65 : decode cX5_now 65 = .ok (.getfield 12, 3) := by decide +kernel
theorem dX5_now_68 : decode cX5_now 68 = .ok (.aload_n 0, 1) := by decide +kernel
theorem dX5_now_69 : decode cX5_now 69 = .ok (.getfield 12, 3) := by decide +kernel
theorem dX5_now_72 : decode cX5_now 72 = .ok (.invokevirtual 134, 3) := by decide +kernel
theorem dX5_now_75 : decode cX5_now 75 = .ok (.invokevirtual 138, 3) := by decide +kernel
theorem dX5_now_78 : decode cX5_now 78 = .ok (.ireturn, 1) := by decide +kernel
theorem dX5_now_79 : decode cX5_now 79 = .ok (.aload_n 0, 1) := by decide +kernel
theorem dX5_now_80 : decode cX5_now 80 = .ok (.getfield 12, 3) := by decide +kernel
theorem dX5_now_83 : decode cX5_now 83 = .ok (.invokevirtual 141, 3) := by decide +kernel
theorem dX5_now_86 : decode cX5_now 86 = .ok (.ireturn, 1) := by decide +kernel
theorem dX5_now_87 : decode cX5_now 87 = .ok (.aload_n 0, 1) := by decide +kernel
theorem dX5_now_88 : decode cX5_now 88 = .ok (.getfield 12, 3) := by decide +kernel
theorem dX5_now_91 : decode cX5_now 91 = .ok (.invokevirtual 144, 3) := by decide +kernel
theorem dX5_now_94 : decode cX5_now 94 = .ok (.ireturn, 1) := by decide +kernel
theorem dX5_now_95 : decode cX5_now 95 = .ok (.aload_n 0, 1) := by decide +kernel
theorem dX5_now_96 : decode cX5_now 96 = .ok (.getfield 12, 3) := by decide +kernel
theorem dX5_now_99 : decode cX5_now 99 = .ok (.invokevirtual 147, 3) := by decide +kernel
theorem dX5_now_102 : decode cX5_now 102 = .ok (.ireturn, 1) := by decide +kernel
theorem dX5_now_103 : decode cX5_now 103 = .ok (.aload_n 0, 1) := by decide +kernel
theorem dX5_now_104 : decode cX5_now 104 = .ok (.getfield 12, 3) := by decide +kernel
theorem dX5_now_107 : decode cX5_now 107 = .ok (.invokevirtual 150, 3) := by decide +kernel
theorem dX5_now_110 : decode cX5_now 110 = .ok (.ireturn, 1) := by decide +kernel
theorem dX5_now_111 : decode cX5_now 111 = .ok (.aload_n 0, 1) := by decide +kernel
theorem dX5_now_112 : decode cX5_now 112 = .ok (.getfield 12, 3) := by decide +kernel
theorem dX5_now_115 : decode cX5_now 115 = .ok (.invokevirtual 153, 3) := by decide +kernel
theorem dX5_now_118 : decode cX5_now 118 = .ok (.ireturn, 1) := by decide +kernel
theorem dX5_now_119 : decode cX5_now 119 = .ok (.aload_n 0, 1) := by decide +kernel
theorem dX5_now_120 : decode cX5_now 120 = .ok (.ldc 54, 2) := by decide +kernel
theorem dX5_now_122 : decode cX5_now 122 = .ok (.invokevirtual 55, 3) := by decide +kernel
theorem dX5_now_125 : decode cX5_now 125 = .ok (.ireturn, 1) := by decide +kernel
set_option maxRecDepth 20000 in
theorem ggX5_ahead_X5_isWithin : GoodIn wsX5_ahead wsX5_isWithin := goodIn_r _ [7] (by decide +kernel) (by decide +kernel)
set_option maxRecDepth 20000 in
theorem gX5_ahead_X5_isWithin : GoodIn wsX5_ahead (va_wsS RX5 47 yX5_isWithin wsX5_isWithin) := goodIn_app (goodIn_of _ (by decide +kernel)) ggX5_ahead_X5_isWithin
set_option maxRecDepth 20000 in
theorem ggX5_ahead_X2_has : GoodIn wsX5_ahead wsX2_has := goodIn_r _ [12, 13, 5, 6, 7, 158, 159, 160, 161, 162, 163, 164, 165, 166, 167, 168] (by decide +kernel) (by decide +kernel)
set_option maxRecDepth 20000 in
theorem gX5_ahead_X2_has : GoodIn wsX5_ahead (wsV RX5 94 RX2 yX2_has wsX2_has) := goodIn_app (goodIn_of _ (by decide +kernel)) ggX5_ahead_X2_has
set_option maxRecDepth 20000 in
theorem ggX5_ahead_X5_finding : GoodIn wsX5_ahead wsX5_finding := goodIn_r _ [17, 2, 18, 4, 5, 6, 7, 150, 151, 152, 153, 154, 155, 156, 157] (by decide +kernel) (by decide +kernel)
set_option maxRecDepth 20000 in
theorem gX5_ahead_X5_finding : GoodIn wsX5_ahead (wsV RX5 55 RX5 yX5_finding wsX5_finding) := goodIn_app (goodIn_of _ (by decide +kernel)) ggX5_ahead_X5_finding
set_option maxRecDepth 20000 in
theorem ggX5_ahead_X2_become : GoodIn wsX5_ahead wsX2_become := goodIn_r _ [22, 23, 24, 25, 26, 27, 28, 29, 30, 31, 32, 33, 34, 13, 35, 36, 37, 38, 39, 40, 41, 42, 43, 44, 45, 46, 47, 158, 159, 160, 161, 162, 163, 164, 165, 166, 167, 168, 169, 170, 171, 172, 173, 174] (by decide +kernel) (by decide +kernel)
set_option maxRecDepth 20000 in
theorem gX5_ahead_X2_become : GoodIn wsX5_ahead (wsV RX5 156 RX2 yX2_become wsX2_become) := goodIn_app (goodIn_of _ (by decide +kernel)) ggX5_ahead_X2_become
set_option maxRecDepth 20000 in
theorem ggX5_ahead_X2_passDays : GoodIn wsX5_ahead wsX2_passDays := goodIn_r _ [51, 52, 53, 54, 11, 55, 23, 24, 26, 33, 56, 57, 58, 59, 60, 61, 62, 63, 64, 13, 35, 25, 31, 65, 66, 67, 68, 40, 69, 47, 45, 70, 71, 72, 73, 44, 74, 75, 76, 77, 42, 46, 78, 79, 80, 81, 82, 83, 84, 85, 43, 86, 87, 88, 89, 90, 91, 92, 93, 94, 95, 96, 97, 98, 99, 100, 101, 102, 103, 104, 105, 106, 107, 108, 109, 110, 111, 112, 113, 114, 115, 116, 117, 118, 119, 120, 121, 122, 123, 124, 125, 126, 127, 32, 128, 129, 130, 131, 132, 133, 134, 135, 136, 137, 138, 139, 140, 141, 158, 159, 160, 161, 162, 163, 164, 165, 166, 167, 168, 169, 170, 171, 172, 173, 174] (by decide +kernel) (by decide +kernel)
set_option maxRecDepth 20000 in
theorem gX5_ahead_X2_passDays : GoodIn wsX5_ahead (wsV RX5 127 RX2 yX2_passDays wsX2_passDays) := goodIn_app (goodIn_of _ (by decide +kernel)) ggX5_ahead_X2_passDays
set_option maxRecDepth 20000 in
theorem ggX5_ahead_X2_tell : GoodIn wsX5_ahead wsX2_tell := goodIn_r _ [145, 35, 23, 25, 146, 147, 148, 40, 149, 42, 43, 44, 45, 46, 47, 89, 90, 91, 92, 74, 75, 76, 77, 101, 102, 103, 104, 105, 106, 107, 108, 109, 110, 111, 120, 121, 122, 123, 82, 83, 84, 85, 86, 87, 59, 88, 158, 159, 160, 161, 162, 163, 164, 165, 166, 167, 168, 169, 170, 171, 172, 173, 174] (by decide +kernel) (by decide +kernel)
set_option maxRecDepth 20000 in
theorem gX5_ahead_X2_tell : GoodIn wsX5_ahead (wsV RX5 97 RX2 yX2_tell wsX2_tell) := goodIn_app (goodIn_of _ (by decide +kernel)) ggX5_ahead_X2_tell
theorem dX5_ahead_0 : decode cX5_ahead 0 = .ok (.iload_n 2, 1) := by decide +kernel
theorem dX5_ahead_1 : decode cX5_ahead 1 = .ok (.iconst 2, 1) := by decide +kernel
theorem dX5_ahead_2 : decode cX5_ahead 2 = .ok (.iconst 4, 1) := by decide +kernel
theorem dX5_ahead_3 : decode cX5_ahead 3 = .ok (.invokestatic 47, 3) := by decide +kernel
theorem dX5_ahead_6 : decode cX5_ahead 6 = .ok (.ifCond .ne 9, 3) := by decide +kernel
theorem dX5_ahead_9 : decode cX5_ahead 9 = .ok (.iload_n 2, 1) := by decide +kernel
theorem dX5_ahead_10 : decode cX5_ahead 10 = .ok (.bipush 6, 2) := by decide +kernel
theorem dX5_ahead_12 : decode cX5_ahead 12 = .ok (.if_icmp .ne 7, 3) := by decide +kernel
theorem dX5_ahead_15 : decode cX5_ahead 15 = .ok (.iconst 1, 1) := by decide +kernel
theorem dX5_ahead_16 : decode cX5_ahead 16 = .ok (.goto 4, 3) := by decide +kernel
theorem dX5_ahead_19 : decode cX5_ahead 19 = .ok (.iconst 0, 1) := by decide +kernel
theorem dX5_ahead_20 : decode cX5_ahead 20 = .ok (.istore 4, 2) := by decide +kernel
theorem dX5_ahead_22 : decode cX5_ahead 22 = .ok (.aload_n 0, 1) := by decide +kernel
theorem dX5_ahead_23 : decode cX5_ahead 23 = .ok (.getfield 12, 3) := by decide +kernel
theorem dX5_ahead_26 : decode cX5_ahead 26 = .ok (.iload_n 1, 1) := by decide +kernel
theorem dX5_ahead_27 : decode cX5_ahead 27 = .ok (.invokevirtual 94, 3) := by decide +kernel
theorem dX5_ahead_30 : decode cX5_ahead 30 = .ok (.ifCond .eq 18, 3) := by decide +kernel
theorem dX5_ahead_33 : decode cX5_ahead 33 = .ok (.iload 4, 2) := by decide +kernel
theorem dX5_ahead_35 : decode cX5_ahead 35 = .ok (.ifCond .eq 13, 3) := by decide +kernel
theorem dX5_ahead_38 : decode cX5_ahead 38 = .ok (.iload_n 3, 1) := by decide +kernel
theorem dX5_ahead_39 : decode cX5_ahead 39 = .ok (.iconst 0, 1) := by decide +kernel
theorem dX5_ahead_40 : decode cX5_ahead 40 = .ok (.bipush 100, 2) := by decide +kernel
theorem dX5_ahead_42 : decode cX5_ahead 42 = .ok (.invokestatic 47, 3) := by decide +kernel
theorem dX5_ahead_45 : decode cX5_ahead 45 = .ok (.ifCond .ne 10, 3) := by decide +kernel
theorem dX5_ahead_48 : decode cX5_ahead 48 = .ok (.aload_n 0, 1) := by decide +kernel
theorem dX5_ahead_49 : decode cX5_ahead 49 = .ok (.ldc 54, 2) := by decide +kernel
theorem dX5_ahead_51 : decode cX5_ahead 51 = .ok (.invokevirtual 55, 3) := by decide +kernel
theorem dX5_ahead_54 : decode cX5_ahead 54 = .ok (.ireturn, 1) := by decide +kernel
theorem dX5_ahead_55 : decode cX5_ahead 55 = .ok (.aload_n 0, 1) := by decide +kernel
theorem dX5_ahead_56 : decode cX5_ahead 56 = .ok (.getfield 16, 3) := by decide +kernel
theorem dX5_ahead_59 : decode cX5_ahead 59 = .ok (.aload_n 0, 1) := by decide +kernel
theorem dX5_ahead_60 : decode cX5_ahead 60 = .ok (.getfield 12, 3) := by decide +kernel
theorem dX5_ahead_63 : decode cX5_ahead 63 = .ok (.invokevirtual 156, 3) := by decide +kernel
theorem dX5_ahead_66 : decode cX5_ahead 66 = .ok (.aload_n 0, 1) := by decide +kernel
theorem dX5_ahead_67 : decode cX5_ahead 67 = .ok (.getfield 16, 3) := by decide +kernel
theorem dX5_ahead_70 : decode cX5_ahead 70 = .ok (.iload_n 3, 1) := by decide +kernel
theorem dX5_ahead_71 : decode cX5_ahead 71 = .ok (.invokevirtual 127, 3) := by decide +kernel
theorem dX5_ahead_74 : decode cX5_ahead 74 = .ok (.aload_n 0, 1) := by decide +kernel
theorem dX5_ahead_75 : decode cX5_ahead 75 = .ok (.getfield 16, 3) := by decide +kernel
theorem dX5_ahead_78 : decode cX5_ahead 78 = .ok (.iload_n 1, 1) := by decide +kernel
theorem dX5_ahead_79 : decode cX5_ahead 79 = .ok (.iload_n 2, 1) := by decide +kernel
theorem dX5_ahead_80 : decode cX5_ahead 80 = .ok (.invokevirtual 97, 3) := by decide +kernel
theorem dX5_ahead_83 : decode cX5_ahead 83 = .ok (.ireturn, 1) := by decide +kernel
set_option maxRecDepth 20000 in
theorem ggX5_gold_X5_isWithin : GoodIn wsX5_gold wsX5_isWithin := goodIn_r _ [8] (by decide +kernel) (by decide +kernel)
set_option maxRecDepth 20000 in
theorem gX5_gold_X5_isWithin : GoodIn wsX5_gold (va_wsS RX5 47 yX5_isWithin wsX5_isWithin) := goodIn_app (goodIn_of _ (by decide +kernel)) ggX5_gold_X5_isWithin
set_option maxRecDepth 20000 in
theorem ggX5_gold_X5_finding : GoodIn wsX5_gold wsX5_finding := goodIn_r _ [12, 1, 13, 5, 6, 7, 8, 139, 140, 141, 142, 143, 144, 145, 146] (by decide +kernel) (by decide +kernel)
set_option maxRecDepth 20000 in
theorem gX5_gold_X5_finding : GoodIn wsX5_gold (wsV RX5 55 RX5 yX5_finding wsX5_finding) := goodIn_app (goodIn_of _ (by decide +kernel)) ggX5_gold_X5_finding
set_option maxRecDepth 20000 in
theorem ggX5_gold_X2_become : GoodIn wsX5_gold wsX2_become := goodIn_r _ [18, 19, 20, 21, 22, 23, 24, 25, 26, 27, 28, 29, 30, 31, 32, 33, 34, 35, 36, 37, 38, 39, 40, 41, 42, 43, 44, 147, 148, 149, 150, 151, 152, 153, 154, 155, 156, 157, 158, 159, 160, 161, 162, 163] (by decide +kernel) (by decide +kernel)
set_option maxRecDepth 20000 in
theorem gX5_gold_X2_become : GoodIn wsX5_gold (wsV RX5 156 RX2 yX2_become wsX2_become) := goodIn_app (goodIn_of _ (by decide +kernel)) ggX5_gold_X2_become
set_option maxRecDepth 20000 in
theorem ggX5_gold_X2_passDays : GoodIn wsX5_gold wsX2_passDays := goodIn_r _ [48, 49, 50, 51, 17, 52, 19, 20, 22, 29, 53, 54, 55, 56, 57, 58, 59, 60, 61, 31, 32, 21, 27, 62, 63, 64, 65, 37, 66, 44, 42, 67, 68, 69, 70, 41, 71, 72, 73, 74, 39, 43, 75, 76, 77, 78, 79, 80, 81, 82, 40, 83, 84, 85, 86, 87, 88, 89, 90, 91, 92, 93, 94, 95, 96, 97, 98, 99, 100, 101, 102, 103, 104, 105, 106, 107, 108, 109, 110, 111, 112, 113, 114, 115, 116, 117, 118, 119, 120, 121, 122, 123, 124, 28, 125, 126, 127, 128, 129, 130, 131, 132, 133, 134, 135, 136, 137, 138, 147, 148, 149, 150, 151, 152, 153, 154, 155, 156, 157, 158, 159, 160, 161, 162, 163] (by decide +kernel) (by decide +kernel)
set_option maxRecDepth 20000 in
theorem gX5_gold_X2_passDays : GoodIn wsX5_gold (wsV RX5 127 RX2 yX2_passDays wsX2_passDays) := goodIn_app (goodIn_of _ (by decide +kernel)) ggX5_gold_X2_passDays
theorem dX5_gold_0 : decode cX5_gold 0 = .ok (.iload_n 1, 1) := by decide +kernel
theorem dX5_gold_1 : decode cX5_gold 1 = .ok (.iconst 0, 1) := by decide +kernel
theorem dX5_gold_2 : decode cX5_gold 2 = .ok (.bipush 100, 2) := by decide +kernel
theorem dX5_gold_4 : decode cX5_gold 4 = .ok (.invokestatic 47, 3) := by decide +kernel
theorem dX5_gold_7 : decode cX5_gold 7 = .ok (.ifCond .ne 10, 3) := by decide +kernel
theorem dX5_gold_10 : decode cX5_gold 10 = .ok (.aload_n 0, 1) := by decide +kernel
theorem dX5_gold_11 : decode cX5_gold 11 = .ok (.ldc 54, 2) := by decide +kernel
theorem dX5_gold_13 : decode cX5_gold 13 = .ok (.invokevirtual 55, 3) := by decide +kernel
theorem dX5_gold_16 : decode cX5_gold 16 = .ok (.ireturn, 1) := by decide +kernel
theorem dX5_gold_17 : decode cX5_gold 17 = .ok (.aload_n 0, 1) := by decide +kernel
theorem dX5_gold_18 : decode cX5_gold 18 = .ok (.getfield 16, 3) := by decide +kernel
theorem dX5_gold_21 : decode cX5_gold 21 = .ok (.aload_n 0, 1) := by decide +kernel
theorem dX5_gold_22 : decode cX5_gold 22 = .ok (.getfield 12, 3) := by decide +kernel
theorem dX5_gold_25 : decode cX5_gold 25 = .ok (.invokevirtual 156, 3) := by decide +kernel
theorem dX5_gold_28 : decode cX5_gold 28 = .ok (.aload_n 0, 1) := by decide +kernel
theorem dX5_gold_29 : decode cX5_gold 29 = .ok (.getfield 16, 3) := by decide +kernel
theorem dX5_gold_32 : decode cX5_gold 32 = .ok (.iload_n 1, 1) := by decide +kernel
theorem dX5_gold_33 : decode cX5_gold 33 = .ok (.invokevirtual 127, 3) := by decide +kernel
theorem dX5_gold_36 : decode cX5_gold 36 = .ok (.aload_n 0, 1) := by decide +kernel
theorem dX5_gold_37 : decode cX5_gold 37 = .ok (.getfield 16, 3) := by decide +kernel
theorem dX5_gold_40 : decode cX5_gold 40 = .ok (.getfield 131, 3) := by decide +kernel
theorem dX5_gold_43 : decode cX5_gold 43 = .ok (.ireturn, 1) := by decide +kernel
set_option maxRecDepth 20000 in
theorem ggX5_stands_X2_has : GoodIn wsX5_stands wsX2_has := goodIn_r _ [7, 8, 9, 10, 11, 158, 159, 160, 161, 162, 163, 164, 165, 166, 167, 168] (by decide +kernel) (by decide +kernel)
set_option maxRecDepth 20000 in
theorem gX5_stands_X2_has : GoodIn wsX5_stands (wsV RX5 94 RX2 yX2_has wsX2_has) := goodIn_app (goodIn_of _ (by decide +kernel)) ggX5_stands_X2_has
set_option maxRecDepth 20000 in
theorem ggX5_stands_X5_isWithin : GoodIn wsX5_stands wsX5_isWithin := goodIn_r _ [11] (by decide +kernel) (by decide +kernel)
set_option maxRecDepth 20000 in
theorem gX5_stands_X5_isWithin : GoodIn wsX5_stands (va_wsS RX5 47 yX5_isWithin wsX5_isWithin) := goodIn_app (goodIn_of _ (by decide +kernel)) ggX5_stands_X5_isWithin
set_option maxRecDepth 20000 in
theorem ggX5_stands_X5_finding : GoodIn wsX5_stands wsX5_finding := goodIn_r _ [16, 2, 17, 12, 9, 10, 11, 150, 151, 152, 153, 154, 155, 156, 157] (by decide +kernel) (by decide +kernel)
set_option maxRecDepth 20000 in
theorem gX5_stands_X5_finding : GoodIn wsX5_stands (wsV RX5 55 RX5 yX5_finding wsX5_finding) := goodIn_app (goodIn_of _ (by decide +kernel)) ggX5_stands_X5_finding
