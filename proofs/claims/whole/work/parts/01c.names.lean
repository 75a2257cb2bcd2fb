set_option maxRecDepth 20000 in
theorem ggX8_init_X7_init : GoodIn wsX8_init wsX7_init := goodIn_r _ [39, 40, 2, 3, 41, 42, 222, 223] (by decide +kernel) (by decide +kernel)
set_option maxRecDepth 20000 in
theorem gX8_init_X7_init_n9 : GoodIn wsX8_init (wsX7_init) := ggX8_init_X7_init
set_option maxRecDepth 20000 in
theorem ggX8_init_X5_init : GoodIn wsX8_init wsX5_init := goodIn_r _ [44, 45, 2, 3, 36, 46, 47, 48, 49, 50, 51, 237, 238, 239, 240, 241, 242, 243, 244, 245] (by decide +kernel) (by decide +kernel)
set_option maxRecDepth 20000 in
theorem gX8_init_X5_init_n18 : GoodIn wsX8_init (wsX5_init) := ggX8_init_X5_init
set_option maxRecDepth 20000 in
theorem ggX8_init_X3_init : GoodIn wsX8_init wsX3_init := goodIn_r _ [53, 54, 2, 3, 55, 56, 246, 247, 248] (by decide +kernel) (by decide +kernel)
set_option maxRecDepth 20000 in
theorem gX8_init_X3_init_n25 : GoodIn wsX8_init (wsX3_init) := ggX8_init_X3_init
set_option maxRecDepth 20000 in
theorem ggX8_init_X1_init : GoodIn wsX8_init wsX1_init := goodIn_r _ [58, 59, 2, 3, 36, 60, 61, 249, 250, 251, 252] (by decide +kernel) (by decide +kernel)
set_option maxRecDepth 20000 in
theorem gX8_init_X1_init_n37 : GoodIn wsX8_init (wsX1_init) := ggX8_init_X1_init
set_option maxRecDepth 20000 in
theorem ggX8_init_X2_init : GoodIn wsX8_init wsX2_init := goodIn_r _ [63, 64, 2, 3, 65, 66, 253, 254] (by decide +kernel) (by decide +kernel)
set_option maxRecDepth 20000 in
theorem gX8_init_X2_init_n49 : GoodIn wsX8_init (wsX2_init) := ggX8_init_X2_init
set_option maxRecDepth 20000 in
theorem ggX8_init_X0_init : GoodIn wsX8_init wsX0_init := goodIn_r _ [68, 69, 2, 3, 36, 70, 71, 255, 256, 257] (by decide +kernel) (by decide +kernel)
set_option maxRecDepth 20000 in
theorem gX8_init_X0_init_n61 : GoodIn wsX8_init (wsX0_init) := ggX8_init_X0_init
set_option maxRecDepth 20000 in
theorem ggX8_init_X6_init : GoodIn wsX8_init wsX6_init := goodIn_r _ [73, 74, 2, 3, 75, 76, 77, 78, 36, 79, 80, 81, 82, 83, 84, 85, 86, 87, 88, 89, 90, 91, 92, 93, 270, 271, 272, 273, 274, 275, 276, 258, 259, 260, 261, 262, 263, 264, 265, 266, 267, 268, 269] (by decide +kernel) (by decide +kernel)
set_option maxRecDepth 20000 in
theorem gX8_init_X6_init_n68 : GoodIn wsX8_init (wsX6_init) := ggX8_init_X6_init
set_option maxRecDepth 20000 in
theorem ggX8_init_J0_length_8abf5 : GoodIn wsX8_init wsJ0_length_8abf5 := goodIn_r _ [98, 99, 100, 101, 102, 97, 103, 104, 105] (by decide +kernel) (by decide +kernel)
set_option maxRecDepth 20000 in
theorem gX8_init_J0_length_8abf5 : GoodIn wsX8_init (wsV RX8 82 RJ0 yJ0_length_8abf5 wsJ0_length_8abf5) := goodIn_app (goodIn_of _ (by decide +kernel)) ggX8_init_J0_length_8abf5
set_option maxRecDepth 20000 in
theorem ggX8_init_J0_charAt_5068e : GoodIn wsX8_init wsJ0_charAt_5068e := goodIn_r _ [109, 99, 110, 111, 112, 97, 113, 104, 105, 114, 115, 116, 117, 118, 119, 120, 121, 122, 123, 124, 125, 126, 127, 128, 129, 130, 131, 132, 133, 134, 135, 136, 137, 138, 139, 140, 141, 142] (by decide +kernel) (by decide +kernel)
set_option maxRecDepth 20000 in
theorem gX8_init_J0_charAt_5068e : GoodIn wsX8_init (wsV RX8 88 RJ0 yJ0_charAt_5068e wsJ0_charAt_5068e) := goodIn_app (goodIn_of _ (by decide +kernel)) ggX8_init_J0_charAt_5068e
set_option maxRecDepth 20000 in
theorem ggX8_init_X7_add : GoodIn wsX8_init wsX7_add := goodIn_r _ [145, 146, 42, 222, 223] (by decide +kernel) (by decide +kernel)
set_option maxRecDepth 20000 in
theorem gX8_init_X7_add_n92 : GoodIn wsX8_init (wsX7_add) := ggX8_init_X7_add
set_option maxRecDepth 20000 in
theorem ggX8_init_X8_layText : GoodIn wsX8_init wsX8_layText := goodIn_r _ [151, 15, 11, 16, 20, 25, 26, 30, 152, 153, 14, 154, 155, 56, 156, 55, 157, 10, 158, 159, 160, 161, 162, 163, 164, 165, 166, 167, 6, 168, 169, 146, 42, 170, 171, 172, 173, 174, 175, 176, 177, 178, 179, 180, 181, 182, 183, 184, 185, 186, 187, 188, 46, 47, 189, 150, 190, 191, 192, 193, 51, 48, 49, 50, 194, 195, 196, 197, 198, 199, 200, 201, 202, 203, 204, 205, 206, 19, 207, 208, 61, 60, 209, 210, 211, 24, 212, 213, 214, 215, 29, 216, 217, 218, 224, 225, 226, 227, 228, 229, 230, 231, 232, 233, 234, 235, 236, 237, 238, 239, 240, 241, 242, 243, 244, 245, 246, 247, 248, 222, 223, 249, 250, 251, 252, 253, 254, 255, 256, 257] (by decide +kernel) (by decide +kernel)
set_option maxRecDepth 20000 in
theorem gX8_init_X8_layText : GoodIn wsX8_init (wsV RX8 96 RX8 yX8_layText wsX8_layText) := goodIn_app (goodIn_of _ (by decide +kernel)) ggX8_init_X8_layText
set_option maxRecDepth 20000 in
theorem ggX8_init_X7_clear : GoodIn wsX8_init wsX7_clear := goodIn_r _ [221, 146, 222, 223] (by decide +kernel) (by decide +kernel)
set_option maxRecDepth 20000 in
theorem gX8_init_X7_clear_n100 : GoodIn wsX8_init (wsX7_clear) := ggX8_init_X7_clear
theorem dX8_init_0 : decode cX8_init 0 = .ok (.aload_n 0, 1) := by decide +kernel
theorem dX8_init_1 : decode cX8_init 1 = .ok (.invokespecial 1, 3) := by decide +kernel
theorem dX8_init_4 : decode cX8_init 4 = .ok (.aload_n 0, 1) := by decide +kernel
theorem dX8_init_5 : decode cX8_init 5 = .ok (.new 7, 3) := by decide +kernel
theorem dX8_init_8 : decode cX8_init 8 = .ok (.dup, 1) := by decide +kernel
theorem dX8_init_9 : decode cX8_init 9 = .ok (.invokespecial 9, 3) := by decide +kernel
theorem dX8_init_12 : decode cX8_init 12 = .ok (.putfield 10, 3) := by decide +kernel
theorem dX8_init_15 : decode cX8_init 15 = .ok (.aload_n 0, 1) := by decide +kernel
theorem dX8_init_16 : decode cX8_init 16 = .ok (.new 16, 3) := by decide +kernel
theorem dX8_init_19 : decode cX8_init 19 = .ok (.dup, 1) := by decide +kernel
theorem dX8_init_20 : decode cX8_init 20 = .ok (.invokespecial 18, 3) := by decide +kernel
theorem dX8_init_23 : decode cX8_init 23 = .ok (.putfield 19, 3) := by decide +kernel
theorem dX8_init_26 : decode cX8_init 26 = .ok (.aload_n 0, 1) := by decide +kernel
theorem dX8_init_27 : decode cX8_init 27 = .ok (.new 23, 3) := by decide +kernel
theorem dX8_init_30 : decode cX8_init 30 = .ok (.dup, 1) := by decide +kernel
theorem dX8_init_31 : decode cX8_init 31 = .ok (.aload_n 0, 1) := by decide +kernel
theorem dX8_init_32 : decode cX8_init 32 = .ok (.getfield 10, 3) := by decide +kernel
theorem dX8_init_35 : decode cX8_init 35 = .ok (.aload_n 0, 1) := by decide +kernel
theorem dX8_init_36 : decode cX8_init 36 = .ok (.getfield 19, 3) := by decide +kernel
theorem dX8_init_39 : decode cX8_init 39 = .ok (.invokespecial 25, 3) := by decide +kernel
theorem dX8_init_42 : decode cX8_init 42 = .ok (.putfield 28, 3) := by decide +kernel
theorem dX8_init_45 : decode cX8_init 45 = .ok (.aload_n 0, 1) := by decide +kernel
theorem dX8_init_46 : decode cX8_init 46 = .ok (.new 16, 3) := by decide +kernel
theorem dX8_init_49 : decode cX8_init 49 = .ok (.dup, 1) := by decide +kernel
theorem dX8_init_50 : decode cX8_init 50 = .ok (.invokespecial 18, 3) := by decide +kernel
theorem dX8_init_53 : decode cX8_init 53 = .ok (.putfield 32, 3) := by decide +kernel
theorem dX8_init_56 : decode cX8_init 56 = .ok (.aload_n 0, 1) := by decide +kernel
theorem dX8_init_57 : decode cX8_init 57 = .ok (.new 35, 3) := by decide +kernel
theorem dX8_init_60 : decode cX8_init 60 = .ok (.dup, 1) := by decide +kernel
theorem dX8_init_61 : decode cX8_init 61 = .ok (.aload_n 0, 1) := by decide +kernel
theorem dX8_init_62 : decode cX8_init 62 = .ok (.getfield 32, 3) := by decide +kernel
theorem dX8_init_65 : decode cX8_init 65 = .ok (.invokespecial 37, 3) := by decide +kernel
theorem dX8_init_68 : decode cX8_init 68 = .ok (.putfield 40, 3) := by decide +kernel
theorem dX8_init_71 : decode cX8_init 71 = .ok (.aload_n 0, 1) := by decide +kernel
theorem dX8_init_72 : decode cX8_init 72 = .ok (.new 35, 3) := by decide +kernel
theorem dX8_init_75 : decode cX8_init 75 = .ok (.dup, 1) := by decide +kernel
theorem dX8_init_76 : decode cX8_init 76 = .ok (.aload_n 0, 1) := by decide +kernel
theorem dX8_init_77 : decode cX8_init 77 = .ok (.getfield 32, 3) := by decide +kernel
theorem dX8_init_80 : decode cX8_init 80 = .ok (.invokespecial 37, 3) := by decide +kernel
theorem dX8_init_83 : decode cX8_init 83 = .ok (.putfield 44, 3) := by decide +kernel
theorem dX8_init_86 : decode cX8_init 86 = .ok (.aload_n 0, 1) := by decide +kernel
theorem dX8_init_87 : decode cX8_init 87 = .ok (.new 47, 3) := by decide +kernel
theorem dX8_init_90 : decode cX8_init 90 = .ok (.dup, 1) := by decide +kernel
theorem dX8_init_91 : decode cX8_init 91 = .ok (.bipush 8, 2) := by decide +kernel
theorem dX8_init_93 : decode cX8_init 93 = .ok (.invokespecial 49, 3) := by decide +kernel
theorem dX8_init_96 : decode cX8_init 96 = .ok (.putfield 52, 3) := by decide +kernel
theorem dX8_init_99 : decode cX8_init 99 = .ok (.aload_n 0, 1) := by decide +kernel
theorem dX8_init_100 : decode cX8_init 100 = .ok (.new 47, 3) := by decide +kernel
theorem dX8_init_103 : decode cX8_init 103 = .ok (.dup, 1) := by decide +kernel
theorem dX8_init_104 : decode cX8_init 104 = .ok (.iconst 2, 1) := by decide +kernel
theorem dX8_init_105 : decode cX8_init 105 = .ok (.invokespecial 49, 3) := by decide +kernel
theorem dX8_init_108 : decode cX8_init 108 = .ok (.putfield 56, 3) := by decide +kernel
theorem dX8_init_111 : decode cX8_init 111 = .ok (.aload_n 0, 1) := by decide +kernel
theorem dX8_init_112 : decode cX8_init 112 = .ok (.new 59, 3) := by decide +kernel
theorem dX8_init_115 : decode cX8_init 115 = .ok (.dup, 1) := by decide +kernel
theorem dX8_init_116 : decode cX8_init 116 = .ok (.invokespecial 61, 3) := by decide +kernel
theorem dX8_init_119 : decode cX8_init 119 = .ok (.putfield 62, 3) := by decide +kernel
theorem dX8_init_122 : decode cX8_init 122 = .ok (.aload_n 0, 1) := by decide +kernel
theorem dX8_init_123 : decode cX8_init 123 = .ok (.new 66, 3) := by decide +kernel
theorem dX8_init_126 : decode cX8_init 126 = .ok (.dup, 1) := by decide +kernel
theorem dX8_init_127 : decode cX8_init 127 = .ok (.invokespecial 68, 3) := by decide +kernel
theorem dX8_init_130 : decode cX8_init 130 = .ok (.putfield 69, 3) := by decide +kernel
theorem dX8_init_133 : decode cX8_init 133 = .ok (.aload_n 0, 1) := by decide +kernel
theorem dX8_init_134 : decode cX8_init 134 = .ok (.new 66, 3) := by decide +kernel
theorem dX8_init_137 : decode cX8_init 137 = .ok (.dup, 1) := by decide +kernel
theorem dX8_init_138 : decode cX8_init 138 = .ok (.invokespecial 68, 3) := by decide +kernel
theorem dX8_init_141 : decode cX8_init 141 = .ok (.putfield 73, 3) := by decide +kernel
theorem dX8_init_144 : decode cX8_init 144 = .ok (.aload_n 0, 1) := by decide +kernel
theorem dX8_init_145 : decode cX8_init 145 = .ok (.bipush 6, 2) := by decide +kernel
theorem dX8_init_147 : decode cX8_init 147 = .ok (.newarray .int, 2) := by decide +kernel
theorem dX8_init_149 : decode cX8_init 149 = .ok (.putfield 76, 3) := by decide +kernel
theorem dX8_init_152 : decode cX8_init 152 = .ok (.iconst 0, 1) := by decide +kernel
theorem dX8_init_153 : decode cX8_init 153 = .ok (.istore_n 1, 1) := by decide +kernel
theorem dX8_init_154 : decode cX8_init 154 = .ok (.iload_n 1, 1) := by decide +kernel
theorem dX8_init_155 : decode cX8_init 155 = .ok (.ldc 80, 2) := by decide +kernel
theorem dX8_init_157 : decode cX8_init 157 = .ok (.invokevirtual 82, 3) := by decide +kernel
theorem dX8_init_160 : decode cX8_init 160 = .ok (.if_icmp .ge 22, 3) := by decide +kernel
theorem dX8_init_163 : decode cX8_init 163 = .ok (.aload_n 0, 1) := by decide +kernel
theorem dX8_init_164 : decode cX8_init 164 = .ok (.getfield 10, 3) := by decide +kernel
theorem dX8_init_167 : decode cX8_init 167 = .ok (.ldc 80, 2) := by decide +kernel
theorem dX8_init_169 : decode cX8_init 169 = .ok (.iload_n 1, 1) := by decide +kernel
theorem dX8_init_170 : decode cX8_init 170 = .ok (.invokevirtual 88, 3) := by decide +kernel
theorem dX8_init_173 : decode cX8_init 173 = .ok (.invokevirtual 92, 3) := by decide +kernel
theorem dX8_init_176 : decode cX8_init 176 = .ok (.iinc 1 1, 3) := by decide +kernel
theorem dX8_init_179 : decode cX8_init 179 = .ok (.goto (-25), 3) := by decide +kernel
theorem dX8_init_182 : decode cX8_init 182 = .ok (.aload_n 0, 1) := by decide +kernel
theorem dX8_init_183 : decode cX8_init 183 = .ok (.invokevirtual 96, 3) := by decide +kernel
theorem dX8_init_186 : decode cX8_init 186 = .ok (.pop, 1) := by decide +kernel
theorem dX8_init_187 : decode cX8_init 187 = .ok (.aload_n 0, 1) := by decide +kernel
theorem dX8_init_188 : decode cX8_init 188 = .ok (.getfield 10, 3) := by decide +kernel
theorem dX8_init_191 : decode cX8_init 191 = .ok (.invokevirtual 100, 3) := by decide +kernel
theorem dX8_init_194 : decode cX8_init 194 = .ok (.return_, 1) := by decide +kernel
set_option maxRecDepth 20000 in
theorem ggX8_write_X7_isFull : GoodIn wsX8_write wsX7_isFull := goodIn_r _ [5, 6, 7, 24, 25] (by decide +kernel) (by decide +kernel)
set_option maxRecDepth 20000 in
theorem gX8_write_X7_isFull_n103 : GoodIn wsX8_write (wsX7_isFull) := ggX8_write_X7_isFull
set_option maxRecDepth 20000 in
theorem ggX8_write_X7_add : GoodIn wsX8_write wsX7_add := goodIn_r _ [10, 6, 7, 24, 25] (by decide +kernel) (by decide +kernel)
set_option maxRecDepth 20000 in
theorem gX8_write_X7_add_n92 : GoodIn wsX8_write (wsX7_add) := ggX8_write_X7_add
theorem dX8_write_0 : decode cX8_write 0 = .ok (.iload_n 1, 1) := by decide +kernel
theorem dX8_write_1 : decode cX8_write 1 = .ok (.bipush 32, 2) := by decide +kernel
theorem dX8_write_3 : decode cX8_write 3 = .ok (.if_icmp .lt 9, 3) := by decide +kernel
theorem dX8_write_6 : decode cX8_write 6 = .ok (.iload_n 1, 1) := by decide +kernel
theorem dX8_write_7 : decode cX8_write 7 = .ok (.bipush 126, 2) := by decide +kernel
theorem dX8_write_9 : decode cX8_write 9 = .ok (.if_icmp .le 5, 3) := by decide +kernel
theorem dX8_write_12 : decode cX8_write 12 = .ok (.iconst (-1), 1) := by decide +kernel
theorem dX8_write_13 : decode cX8_write 13 = .ok (.ireturn, 1) := by decide +kernel
theorem dX8_write_14 : decode cX8_write 14 = .ok (.aload_n 0, 1) := by decide +kernel
theorem dX8_write_15 : decode cX8_write 15 = .ok (.getfield 10, 3) := by decide +kernel
theorem dX8_write_18 : decode cX8_write 18 = .ok (.invokevirtual 103, 3) := by decide +kernel
theorem dX8_write_21 : decode cX8_write 21 = .ok (.ifCond .eq 6, 3) := by decide +kernel
theorem dX8_write_24 : decode cX8_write 24 = .ok (.bipush (-3), 2) := by decide +kernel
theorem dX8_write_26 : decode cX8_write 26 = .ok (.ireturn, 1) := by decide +kernel
theorem dX8_write_27 : decode cX8_write 27 = .ok (.aload_n 0, 1) := by decide +kernel
theorem dX8_write_28 : decode cX8_write 28 = .ok (.getfield 10, 3) := by decide +kernel
theorem dX8_write_31 : decode cX8_write 31 = .ok (.iload_n 1, 1) := by decide +kernel
theorem dX8_write_32 : decode cX8_write 32 = .ok (.i2c, 1) := by decide +kernel
theorem dX8_write_33 : decode cX8_write 33 = .ok (.invokevirtual 92, 3) := by decide +kernel
theorem dX8_write_36 : decode cX8_write 36 = .ok (.aload_n 0, 1) := by decide +kernel
theorem dX8_write_37 : decode cX8_write 37 = .ok (.getfield 10, 3) := by decide +kernel
theorem dX8_write_40 : decode cX8_write 40 = .ok (.getfield 106, 3) := by decide +kernel
theorem dX8_write_43 : decode cX8_write 43 = .ok (.ireturn, 1) := by decide +kernel
set_option maxRecDepth 20000 in
theorem ggX8_wipe_X7_clear : GoodIn wsX8_wipe wsX7_clear := goodIn_r _ [5, 6, 20, 21] (by decide +kernel) (by decide +kernel)
set_option maxRecDepth 20000 in
theorem gX8_wipe_X7_clear_n100 : GoodIn wsX8_wipe (wsX7_clear) := ggX8_wipe_X7_clear
theorem dX8_wipe_0 : decode cX8_wipe 0 = .ok (.aload_n 0, 1) := by decide +kernel
theorem dX8_wipe_1 : decode cX8_wipe 1 = .ok (.getfield 10, 3) := by decide +kernel
theorem dX8_wipe_4 : decode cX8_wipe 4 = .ok (.getfield 106, 3) := by decide +kernel
theorem dX8_wipe_7 : decode cX8_wipe 7 = .ok (.istore_n 1, 1) := by decide +kernel
theorem dX8_wipe_8 : decode cX8_wipe 8 = .ok (.aload_n 0, 1) := by decide +kernel
theorem dX8_wipe_9 : decode cX8_wipe 9 = .ok (.getfield 10, 3) := by decide +kernel
theorem dX8_wipe_12 : decode cX8_wipe 12 = .ok (.invokevirtual 100, 3) := by decide +kernel
theorem dX8_wipe_15 : decode cX8_wipe 15 = .ok (.iload_n 1, 1) := by decide +kernel
theorem dX8_wipe_16 : decode cX8_wipe 16 = .ok (.ireturn, 1) := by decide +kernel
set_option maxRecDepth 20000 in
theorem ggX8_fault_X3_readAll : GoodIn wsX8_fault wsX3_readAll := goodIn_r _ [5, 6, 7, 8, 9, 10, 11, 12, 13, 14, 15, 16, 17, 18, 3, 19, 20, 21, 22, 23, 24, 25, 26, 27, 28, 29, 30, 31, 32, 33, 34, 35, 36, 37, 38, 39, 40, 41, 42, 43, 44, 45, 46, 47, 48, 49, 50, 51, 52, 53, 54, 55, 56, 57, 58, 59, 60, 61, 62, 63, 77, 78, 79, 80, 81, 82, 83, 84, 85, 86, 87, 88, 89, 90] (by decide +kernel) (by decide +kernel)
set_option maxRecDepth 20000 in
theorem gX8_fault_X3_readAll_n109 : GoodIn wsX8_fault (wsX3_readAll) := ggX8_fault_X3_readAll
theorem dX8_fault_0 : decode cX8_fault 0 = .ok (.aload_n 0, 1) := by decide +kernel
theorem dX8_fault_1 : decode cX8_fault 1 = .ok (.getfield 28, 3) := by decide +kernel
theorem dX8_fault_4 : decode cX8_fault 4 = .ok (.invokevirtual 109, 3) := by decide +kernel
theorem dX8_fault_7 : decode cX8_fault 7 = .ok (.ireturn, 1) := by decide +kernel
set_option maxRecDepth 20000 in
theorem ggX8_lay_X8_layText : GoodIn wsX8_lay wsX8_layText := goodIn_r _ [6, 7, 8, 1, 9, 10, 11, 12, 13, 14, 15, 16, 17, 18, 19, 20, 21, 22, 23, 24, 25, 26, 27, 28, 29, 30, 31, 32, 33, 34, 35, 36, 37, 38, 39, 40, 41, 42, 43, 44, 45, 46, 47, 48, 49, 50, 51, 52, 53, 54, 55, 56, 57, 58, 59, 5, 60, 61, 62, 63, 64, 65, 66, 67, 68, 69, 70, 71, 72, 73, 74, 75, 76, 77, 78, 79, 80, 81, 82, 83, 84, 85, 86, 87, 88, 89, 90, 91, 92, 93, 94, 95, 96, 97, 98, 99, 100, 101, 102, 103, 104, 105, 106, 107, 108, 109, 110, 111, 112, 113, 114, 115, 116, 117, 118, 119, 120, 121, 122, 123, 124, 125, 126, 127, 128, 129, 130, 131, 132, 133] (by decide +kernel) (by decide +kernel)
set_option maxRecDepth 20000 in
theorem gX8_lay_X8_layText : GoodIn wsX8_lay (wsV RX8 96 RX8 yX8_layText wsX8_layText) := goodIn_app (goodIn_of _ (by decide +kernel)) ggX8_lay_X8_layText
theorem dX8_lay_0 : decode cX8_lay 0 = .ok (.aload_n 0, 1) := by decide +kernel
theorem dX8_lay_1 : decode cX8_lay 1 = .ok (.invokevirtual 96, 3) := by decide +kernel
theorem dX8_lay_4 : decode cX8_lay 4 = .ok (.ifCond .eq 13, 3) := by decide +kernel
theorem dX8_lay_7 : decode cX8_lay 7 = .ok (.aload_n 0, 1) := by decide +kernel
theorem dX8_lay_8 : decode cX8_lay 8 = .ok (.getfield 32, 3) := by decide +kernel
theorem dX8_lay_11 : decode cX8_lay 11 = .ok (.getfield 112, 3) := by decide +kernel
theorem dX8_lay_14 : decode cX8_lay 14 = .ok (.goto 5, 3) := by decide +kernel
theorem dX8_lay_17 : decode cX8_lay 17 = .ok (.bipush (-2), 2) := by decide +kernel
theorem dX8_lay_19 : decode cX8_lay 19 = .ok (.ireturn, 1) := by decide +kernel
set_option maxRecDepth 20000 in
theorem ggX8_guest_X5_isGuest : GoodIn wsX8_guest wsX5_isGuest := goodIn_r _ [6, 7, 34, 35, 36, 37, 38, 39, 40, 41, 42] (by decide +kernel) (by decide +kernel)
set_option maxRecDepth 20000 in
theorem gX8_guest_X5_isGuest_n115 : GoodIn wsX8_guest (wsX5_isGuest) := ggX8_guest_X5_isGuest
set_option maxRecDepth 20000 in
theorem ggX8_guest_X8_at : GoodIn wsX8_guest wsX8_at := goodIn_r _ [11] (by decide +kernel) (by decide +kernel)
set_option maxRecDepth 20000 in
theorem gX8_guest_X8_at : GoodIn wsX8_guest (va_wsS RX8 122 yX8_at wsX8_at) := goodIn_app (goodIn_of _ (by decide +kernel)) ggX8_guest_X8_at
set_option maxRecDepth 20000 in
theorem ggX8_guest_X8_has : GoodIn wsX8_guest wsX8_has := goodIn_r _ [14] (by decide +kernel) (by decide +kernel)
set_option maxRecDepth 20000 in
theorem gX8_guest_X8_has : GoodIn wsX8_guest (va_wsS RX8 132 yX8_has wsX8_has) := goodIn_app (goodIn_of _ (by decide +kernel)) ggX8_guest_X8_has
set_option maxRecDepth 20000 in
theorem ggX8_guest_X1_wakingOf : GoodIn wsX8_guest wsX1_wakingOf := goodIn_r _ [18, 19, 20, 9, 10, 11, 43, 44, 45, 46, 34, 35, 36, 37, 38, 39, 40, 41, 42] (by decide +kernel) (by decide +kernel)
set_option maxRecDepth 20000 in
theorem gX8_guest_X1_wakingOf_n136 : GoodIn wsX8_guest (wsX1_wakingOf) := ggX8_guest_X1_wakingOf
theorem dX8_guest_0 : decode cX8_guest 0 = .ok (.aload_n 0, 1) := by decide +kernel
theorem dX8_guest_1 : decode cX8_guest 1 = .ok (.getfield 32, 3) := by decide +kernel
theorem dX8_guest_4 : decode cX8_guest 4 = .ok (.iload_n 1, 1) := by decide +kernel
theorem dX8_guest_5 : decode cX8_guest 5 = .ok (.invokevirtual 115, 3) := by decide +kernel
theorem dX8_guest_8 : decode cX8_guest 8 = .ok (.ifCond .ne 5, 3) := by decide +kernel
theorem dX8_guest_11 : decode cX8_guest 11 = .ok (.iconst (-1), 1) := by decide +kernel
theorem dX8_guest_12 : decode cX8_guest 12 = .ok (.ireturn, 1) := by decide +kernel
theorem dX8_guest_13 : decode cX8_guest 13 = .ok (.iload_n 2, 1) := by decide +kernel
theorem dX8_guest_14 : decode cX8_guest 14 = .ok (.tableswitch 83 0 3 #[30, 42, 54, 74], 30) := by decide +kernel
theorem dX8_guest_44 : decode cX8_guest 44 = .ok (.aload_n 0, 1) := by decide +kernel
theorem dX8_guest_45 : decode cX8_guest 45 = .ok (.getfield 32, 3) := by decide +kernel
theorem dX8_guest_48 : decode cX8_guest 48 = .ok (.getfield 119, 3) := by decide +kernel
theorem dX8_guest_51 : decode cX8_guest 51 = .ok (.iload_n 1, 1) := by decide +kernel
theorem dX8_guest_52 : decode cX8_guest 52 = .ok (.invokestatic 122, 3) := by decide +kernel
theorem dX8_guest_55 : decode cX8_guest 55 = .ok (.ireturn, 1) := by decide +kernel
theorem dX8_guest_56 : decode cX8_guest 56 = .ok (.aload_n 0, 1) := by decide +kernel
theorem dX8_guest_57 : decode cX8_guest 57 = .ok (.getfield 40, 3) := by decide +kernel
theorem dX8_guest_60 : decode cX8_guest 60 = .ok (.getfield 126, 3) := by decide +kernel
theorem dX8_guest_63 : decode cX8_guest 63 = .ok (.iload_n 1, 1) := by decide +kernel
theorem dX8_guest_64 : decode cX8_guest 64 = .ok (.invokestatic 122, 3) := by decide +kernel
theorem dX8_guest_67 : decode cX8_guest 67 = .ok (.ireturn, 1) := by decide +kernel
theorem dX8_guest_68 : decode cX8_guest 68 = .ok (.aload_n 0, 1) := by decide +kernel
theorem dX8_guest_69 : decode cX8_guest 69 = .ok (.getfield 40, 3) := by decide +kernel
theorem dX8_guest_72 : decode cX8_guest 72 = .ok (.getfield 129, 3) := by decide +kernel
theorem dX8_guest_75 : decode cX8_guest 75 = .ok (.iload_n 1, 1) := by decide +kernel
theorem dX8_guest_76 : decode cX8_guest 76 = .ok (.invokestatic 132, 3) := by decide +kernel
theorem dX8_guest_79 : decode cX8_guest 79 = .ok (.ifCond .eq 7, 3) := by decide +kernel
theorem dX8_guest_82 : decode cX8_guest 82 = .ok (.iconst 1, 1) := by decide +kernel
theorem dX8_guest_83 : decode cX8_guest 83 = .ok (.goto 4, 3) := by decide +kernel
theorem dX8_guest_86 : decode cX8_guest 86 = .ok (.iconst 0, 1) := by decide +kernel
theorem dX8_guest_87 : decode cX8_guest 87 = .ok (.ireturn, 1) := by decide +kernel
theorem dX8_guest_88 : decode cX8_guest 88 = .ok (.aload_n 0, 1) := by decide +kernel
theorem dX8_guest_89 : decode cX8_guest 89 = .ok (.getfield 40, 3) := by decide +kernel
theorem dX8_guest_92 : decode cX8_guest 92 = .ok (.iload_n 1, 1) := by decide +kernel
theorem dX8_guest_93 : decode cX8_guest 93 = .ok (.invokevirtual 136, 3) := by decide +kernel
theorem dX8_guest_96 : decode cX8_guest 96 = .ok (.ireturn, 1) := by decide +kernel
theorem dX8_guest_97 : decode cX8_guest 97 = .ok (.iconst (-1), 1) := by decide +kernel
theorem dX8_guest_98 : decode cX8_guest 98 = .ok (.ireturn, 1) := by decide +kernel
set_option maxRecDepth 20000 in
theorem ggX8_wish_X5_isWish : GoodIn wsX8_wish wsX5_isWish := goodIn_r _ [6, 7, 34, 35, 36, 37, 38, 39, 40, 41, 42] (by decide +kernel) (by decide +kernel)
set_option maxRecDepth 20000 in
theorem gX8_wish_X5_isWish_n140 : GoodIn wsX8_wish (wsX5_isWish) := ggX8_wish_X5_isWish
set_option maxRecDepth 20000 in
theorem ggX8_wish_X8_at : GoodIn wsX8_wish wsX8_at := goodIn_r _ [11] (by decide +kernel) (by decide +kernel)
set_option maxRecDepth 20000 in
theorem gX8_wish_X8_at : GoodIn wsX8_wish (va_wsS RX8 122 yX8_at wsX8_at) := goodIn_app (goodIn_of _ (by decide +kernel)) ggX8_wish_X8_at
set_option maxRecDepth 20000 in
theorem ggX8_wish_X1_stands : GoodIn wsX8_wish wsX1_stands := goodIn_r _ [15, 16, 17, 18, 9, 10, 11, 19, 20, 43, 44, 45, 46, 34, 35, 36, 37, 38, 39, 40, 41, 42] (by decide +kernel) (by decide +kernel)
set_option maxRecDepth 20000 in
theorem gX8_wish_X1_stands_n152 : GoodIn wsX8_wish (wsX1_stands) := ggX8_wish_X1_stands
theorem dX8_wish_0 : decode cX8_wish 0 = .ok (.aload_n 0, 1) := by decide +kernel
theorem dX8_wish_1 : decode cX8_wish 1 = .ok (.getfield 32, 3) := by decide +kernel
theorem dX8_wish_4 : decode cX8_wish 4 = .ok (.iload_n 1, 1) := by decide +kernel
theorem dX8_wish_5 : decode cX8_wish 5 = .ok (.invokevirtual 140, 3) := by decide +kernel
theorem dX8_wish_8 : decode cX8_wish 8 = .ok (.ifCond .ne 5, 3) := by decide +kernel
theorem dX8_wish_11 : decode cX8_wish 11 = .ok (.iconst (-1), 1) := by decide +kernel
theorem dX8_wish_12 : decode cX8_wish 12 = .ok (.ireturn, 1) := by decide +kernel
theorem dX8_wish_13 : decode cX8_wish 13 = .ok (.iload_n 2, 1) := by decide +kernel
theorem dX8_wish_14 : decode cX8_wish 14 = .ok (.tableswitch 83 0 3 #[30, 42, 54, 66], 30) := by decide +kernel
theorem dX8_wish_44 : decode cX8_wish 44 = .ok (.aload_n 0, 1) := by decide +kernel
theorem dX8_wish_45 : decode cX8_wish 45 = .ok (.getfield 32, 3) := by decide +kernel
theorem dX8_wish_48 : decode cX8_wish 48 = .ok (.getfield 143, 3) := by decide +kernel
theorem dX8_wish_51 : decode cX8_wish 51 = .ok (.iload_n 1, 1) := by decide +kernel
theorem dX8_wish_52 : decode cX8_wish 52 = .ok (.invokestatic 122, 3) := by decide +kernel
theorem dX8_wish_55 : decode cX8_wish 55 = .ok (.ireturn, 1) := by decide +kernel
theorem dX8_wish_56 : decode cX8_wish 56 = .ok (.aload_n 0, 1) := by decide +kernel
theorem dX8_wish_57 : decode cX8_wish 57 = .ok (.getfield 32, 3) := by decide +kernel
theorem dX8_wish_60 : decode cX8_wish 60 = .ok (.getfield 146, 3) := by decide +kernel
theorem dX8_wish_63 : decode cX8_wish 63 = .ok (.iload_n 1, 1) := by decide +kernel
theorem dX8_wish_64 : decode cX8_wish 64 = .ok (.invokestatic 122, 3) := by decide +kernel
theorem dX8_wish_67 : decode cX8_wish 67 = .ok (.ireturn, 1) := by decide +kernel
theorem dX8_wish_68 : decode cX8_wish 68 = .ok (.aload_n 0, 1) := by decide +kernel
theorem dX8_wish_69 : decode cX8_wish 69 = .ok (.getfield 32, 3) := by decide +kernel
theorem dX8_wish_72 : decode cX8_wish 72 = .ok (.getfield 149, 3) := by decide +kernel
theorem dX8_wish_75 : decode cX8_wish 75 = .ok (.iload_n 1, 1) := by decide +kernel
theorem dX8_wish_76 : decode cX8_wish 76 = .ok (.invokestatic 122, 3) := by decide +kernel
theorem dX8_wish_79 : decode cX8_wish 79 = .ok (.ireturn, 1) := by decide +kernel
theorem dX8_wish_80 : decode cX8_wish 80 = .ok (.aload_n 0, 1) := by decide +kernel
theorem dX8_wish_81 : decode cX8_wish 81 = .ok (.getfield 40, 3) := by decide +kernel
theorem dX8_wish_84 : decode cX8_wish 84 = .ok (.iload_n 1, 1) := by decide +kernel
theorem dX8_wish_85 : decode cX8_wish 85 = .ok (.invokevirtual 152, 3) := by decide +kernel
theorem dX8_wish_88 : decode cX8_wish 88 = .ok (.ifCond .eq 7, 3) := by decide +kernel
theorem dX8_wish_91 : decode cX8_wish 91 = .ok (.iconst 1, 1) := by decide +kernel
theorem dX8_wish_92 : decode cX8_wish 92 = .ok (.goto 4, 3) := by decide +kernel
theorem dX8_wish_95 : decode cX8_wish 95 = .ok (.iconst 0, 1) := by decide +kernel
theorem dX8_wish_96 : decode cX8_wish 96 = .ok (.ireturn, 1) := by decide +kernel
theorem dX8_wish_97 : decode cX8_wish 97 = .ok (.iconst (-1), 1) := by decide +kernel
theorem dX8_wish_98 : decode cX8_wish 98 = .ok (.ireturn, 1) := by decide +kernel
set_option maxRecDepth 20000 in
theorem ggX8_leave_X5_isGuest : GoodIn wsX8_leave wsX5_isGuest := goodIn_r _ [6, 7, 56, 57, 58, 59, 60, 61, 62, 63, 64] (by decide +kernel) (by decide +kernel)
set_option maxRecDepth 20000 in
theorem gX8_leave_X5_isGuest_n115 : GoodIn wsX8_leave (wsX5_isGuest) := ggX8_leave_X5_isGuest
set_option maxRecDepth 20000 in
theorem ggX8_leave_X8_rememberForUndo : GoodIn wsX8_leave wsX8_rememberForUndo := goodIn_r _ [12, 13, 2, 14, 15, 16, 17, 18, 19, 20, 21, 22, 23, 24, 25, 26, 27, 28, 29, 30, 31, 32, 33, 34, 35, 39, 40, 41, 42, 43, 44, 45, 46, 47, 48, 49, 50, 51, 52, 53, 54, 55, 65, 66] (by decide +kernel) (by decide +kernel)
set_option maxRecDepth 20000 in
theorem gX8_leave_X8_rememberForUndo : GoodIn wsX8_leave (wsV RX8 155 RX8 yX8_rememberForUndo wsX8_rememberForUndo) := goodIn_app (goodIn_of _ (by decide +kernel)) ggX8_leave_X8_rememberForUndo
set_option maxRecDepth 20000 in
theorem ggX8_leave_X8_has : GoodIn wsX8_leave wsX8_has := goodIn_r _ [38] (by decide +kernel) (by decide +kernel)
set_option maxRecDepth 20000 in
theorem gX8_leave_X8_has : GoodIn wsX8_leave (va_wsS RX8 132 yX8_has wsX8_has) := goodIn_app (goodIn_of _ (by decide +kernel)) ggX8_leave_X8_has
theorem dX8_leave_0 : decode cX8_leave 0 = .ok (.aload_n 0, 1) := by decide +kernel
theorem dX8_leave_1 : decode cX8_leave 1 = .ok (.getfield 32, 3) := by decide +kernel
theorem dX8_leave_4 : decode cX8_leave 4 = .ok (.iload_n 1, 1) := by decide +kernel
theorem dX8_leave_5 : decode cX8_leave 5 = .ok (.invokevirtual 115, 3) := by decide +kernel
theorem dX8_leave_8 : decode cX8_leave 8 = .ok (.ifCond .ne 5, 3) := by decide +kernel
theorem dX8_leave_11 : decode cX8_leave 11 = .ok (.iconst (-1), 1) := by decide +kernel
theorem dX8_leave_12 : decode cX8_leave 12 = .ok (.ireturn, 1) := by decide +kernel
theorem dX8_leave_13 : decode cX8_leave 13 = .ok (.aload_n 0, 1) := by decide +kernel
theorem dX8_leave_14 : decode cX8_leave 14 = .ok (.invokevirtual 155, 3) := by decide +kernel
theorem dX8_leave_17 : decode cX8_leave 17 = .ok (.aload_n 0, 1) := by decide +kernel
theorem dX8_leave_18 : decode cX8_leave 18 = .ok (.getfield 40, 3) := by decide +kernel
theorem dX8_leave_21 : decode cX8_leave 21 = .ok (.dup, 1) := by decide +kernel
theorem dX8_leave_22 : decode cX8_leave 22 = .ok (.getfield 129, 3) := by decide +kernel
theorem dX8_leave_25 : decode cX8_leave 25 = .ok (.iconst 1, 1) := by decide +kernel
theorem dX8_leave_26 : decode cX8_leave 26 = .ok (.iload_n 1, 1) := by decide +kernel
theorem dX8_leave_27 : decode cX8_leave 27 = .ok (.ishl, 1) := by decide +kernel
theorem dX8_leave_28 : decode cX8_leave 28 = .ok (.ixor, 1) := by decide +kernel
theorem dX8_leave_29 : decode cX8_leave 29 = .ok (.putfield 129, 3) := by decide +kernel
theorem dX8_leave_32 : decode cX8_leave 32 = .ok (.aload_n 0, 1) := by decide +kernel
theorem dX8_leave_33 : decode cX8_leave 33 = .ok (.getfield 40, 3) := by decide +kernel
theorem dX8_leave_36 : decode cX8_leave 36 = .ok (.getfield 129, 3) := by decide +kernel
theorem dX8_leave_39 : decode cX8_leave 39 = .ok (.iload_n 1, 1) := by decide +kernel
theorem dX8_leave_40 : decode cX8_leave 40 = .ok (.invokestatic 132, 3) := by decide +kernel
theorem dX8_leave_43 : decode cX8_leave 43 = .ok (.ifCond .eq 7, 3) := by decide +kernel
theorem dX8_leave_46 : decode cX8_leave 46 = .ok (.iconst 1, 1) := by decide +kernel
theorem dX8_leave_47 : decode cX8_leave 47 = .ok (.goto 4, 3) := by decide +kernel
theorem dX8_leave_50 : decode cX8_leave 50 = .ok (.iconst 0, 1) := by decide +kernel
theorem dX8_leave_51 : decode cX8_leave 51 = .ok (.ireturn, 1) := by decide +kernel
set_option maxRecDepth 20000 in
theorem ggX8_move_X5_isGuest : GoodIn wsX8_move wsX5_isGuest := goodIn_r _ [6, 7, 59, 60, 61, 62, 63, 64, 65, 66, 67] (by decide +kernel) (by decide +kernel)
set_option maxRecDepth 20000 in
theorem gX8_move_X5_isGuest_n115 : GoodIn wsX8_move (wsX5_isGuest) := ggX8_move_X5_isGuest
set_option maxRecDepth 20000 in
theorem ggX8_move_X8_at : GoodIn wsX8_move wsX8_at := goodIn_r _ [11] (by decide +kernel) (by decide +kernel)
set_option maxRecDepth 20000 in
theorem gX8_move_X8_at : GoodIn wsX8_move (va_wsS RX8 122 yX8_at wsX8_at) := goodIn_app (goodIn_of _ (by decide +kernel)) ggX8_move_X8_at
set_option maxRecDepth 20000 in
theorem ggX8_move_X8_rememberForUndo : GoodIn wsX8_move wsX8_rememberForUndo := goodIn_r _ [15, 16, 2, 17, 18, 19, 20, 21, 22, 23, 24, 25, 26, 27, 28, 29, 30, 31, 32, 33, 34, 35, 36, 37, 38, 42, 43, 44, 45, 46, 47, 48, 49, 50, 51, 52, 53, 54, 55, 56, 57, 58, 68, 69] (by decide +kernel) (by decide +kernel)
set_option maxRecDepth 20000 in
theorem gX8_move_X8_rememberForUndo : GoodIn wsX8_move (wsV RX8 155 RX8 yX8_rememberForUndo wsX8_rememberForUndo) := goodIn_app (goodIn_of _ (by decide +kernel)) ggX8_move_X8_rememberForUndo
set_option maxRecDepth 20000 in
theorem ggX8_move_X8_put : GoodIn wsX8_move wsX8_put := goodIn_r _ [41] (by decide +kernel) (by decide +kernel)
set_option maxRecDepth 20000 in
theorem gX8_move_X8_put : GoodIn wsX8_move (va_wsS RX8 158 yX8_put wsX8_put) := goodIn_app (goodIn_of _ (by decide +kernel)) ggX8_move_X8_put
theorem dX8_move_0 : decode cX8_move 0 = .ok (.aload_n 0, 1) := by decide +kernel
theorem dX8_move_1 : decode cX8_move 1 = .ok (.getfield 32, 3) := by decide +kernel
theorem dX8_move_4 : decode cX8_move 4 = .ok (.iload_n 1, 1) := by decide +kernel
theorem dX8_move_5 : decode cX8_move 5 = .ok (.invokevirtual 115, 3) := by decide +kernel
theorem dX8_move_8 : decode cX8_move 8 = .ok (.ifCond .eq 13, 3) := by decide +kernel
theorem dX8_move_11 : decode cX8_move 11 = .ok (.iload_n 2, 1) := by decide +kernel
theorem dX8_move_12 : decode cX8_move 12 = .ok (.ifCond .lt 9, 3) := by decide +kernel
theorem dX8_move_15 : decode cX8_move 15 = .ok (.iload_n 2, 1) := by decide +kernel
theorem dX8_move_16 : decode cX8_move 16 = .ok (.bipush 9, 2) := by decide +kernel
theorem dX8_move_18 : decode cX8_move 18 = .ok (.if_icmp .le 5, 3) := by decide +kernel
theorem dX8_move_21 : decode cX8_move 21 = .ok (.iconst (-1), 1) := by decide +kernel
theorem dX8_move_22 : decode cX8_move 22 = .ok (.ireturn, 1) := by decide +kernel
theorem dX8_move_23 : decode cX8_move 23 = .ok (.aload_n 0, 1) := by decide +kernel
theorem dX8_move_24 : decode cX8_move 24 = .ok (.getfield 40, 3) := by decide +kernel
theorem dX8_move_27 : decode cX8_move 27 = .ok (.getfield 126, 3) := by decide +kernel
theorem dX8_move_30 : decode cX8_move 30 = .ok (.iload_n 1, 1) := by decide +kernel
theorem dX8_move_31 : decode cX8_move 31 = .ok (.invokestatic 122, 3) := by decide +kernel
theorem dX8_move_34 : decode cX8_move 34 = .ok (.istore_n 3, 1) := by decide +kernel
theorem dX8_move_35 : decode cX8_move 35 = .ok (.iload_n 3, 1) := by decide +kernel
theorem dX8_move_36 : decode cX8_move 36 = .ok (.iload_n 2, 1) := by decide +kernel
theorem dX8_move_37 : decode cX8_move 37 = .ok (.if_icmp .ne 6, 3) := by decide +kernel
theorem dX8_move_40 : decode cX8_move 40 = .ok (.bipush (-2), 2) := by decide +kernel
theorem dX8_move_42 : decode cX8_move 42 = .ok (.ireturn, 1) := by decide +kernel
theorem dX8_move_43 : decode cX8_move 43 = .ok (.aload_n 0, 1) := by decide +kernel
theorem dX8_move_44 : decode cX8_move 44 = .ok (.invokevirtual 155, 3) := by decide +kernel
theorem dX8_move_47 : decode cX8_move 47 = .ok (.aload_n 0, 1) := by decide +kernel
theorem dX8_move_48 : decode cX8_move 48 = .ok (.getfield 40, 3) := by decide +kernel
theorem dX8_move_51 : decode cX8_move 51 = .ok (.getfield 126, 3) := by decide +kernel
theorem dX8_move_54 : decode cX8_move 54 = .ok (.iload_n 1, 1) := by decide +kernel
theorem dX8_move_55 : decode cX8_move 55 = .ok (.iload_n 2, 1) := by decide +kernel
theorem dX8_move_56 : decode cX8_move 56 = .ok (.invokestatic 158, 3) := by decide +kernel
theorem dX8_move_59 : decode cX8_move 59 = .ok (.iload_n 3, 1) := by decide +kernel
theorem dX8_move_60 : decode cX8_move 60 = .ok (.ireturn, 1) := by decide +kernel
set_option maxRecDepth 20000 in
theorem ggX8_strike_X5_isWish : GoodIn wsX8_strike wsX5_isWish := goodIn_r _ [6, 7, 63, 64, 65, 66, 67, 68, 69, 70, 71] (by decide +kernel) (by decide +kernel)
set_option maxRecDepth 20000 in
theorem gX8_strike_X5_isWish_n140 : GoodIn wsX8_strike (wsX5_isWish) := ggX8_strike_X5_isWish
set_option maxRecDepth 20000 in
theorem ggX8_strike_X8_has : GoodIn wsX8_strike wsX8_has := goodIn_r _ [11] (by decide +kernel) (by decide +kernel)
set_option maxRecDepth 20000 in
theorem gX8_strike_X8_has : GoodIn wsX8_strike (va_wsS RX8 132 yX8_has wsX8_has) := goodIn_app (goodIn_of _ (by decide +kernel)) ggX8_strike_X8_has
set_option maxRecDepth 20000 in
theorem ggX8_strike_X8_rememberForUndo : GoodIn wsX8_strike wsX8_rememberForUndo := goodIn_r _ [15, 16, 2, 17, 18, 19, 20, 21, 22, 23, 24, 25, 26, 27, 28, 29, 30, 31, 32, 33, 34, 35, 36, 37, 38, 46, 47, 48, 49, 50, 51, 52, 53, 54, 55, 56, 57, 58, 59, 60, 61, 62, 72, 73] (by decide +kernel) (by decide +kernel)
set_option maxRecDepth 20000 in
theorem gX8_strike_X8_rememberForUndo : GoodIn wsX8_strike (wsV RX8 155 RX8 yX8_rememberForUndo wsX8_rememberForUndo) := goodIn_app (goodIn_of _ (by decide +kernel)) ggX8_strike_X8_rememberForUndo
set_option maxRecDepth 20000 in
theorem ggX8_strike_J6_bitCount_0f7a4 : GoodIn wsX8_strike wsJ6_bitCount_0f7a4 := goodIn_r _ [42, 43, 44, 45] (by decide +kernel) (by decide +kernel)
set_option maxRecDepth 20000 in
theorem gX8_strike_J6_bitCount_0f7a4 : GoodIn wsX8_strike (va_wsS RX8 165 yJ6_bitCount_0f7a4 wsJ6_bitCount_0f7a4) := goodIn_app (goodIn_of _ (by decide +kernel)) ggX8_strike_J6_bitCount_0f7a4
theorem dX8_strike_0 : decode cX8_strike 0 = .ok (.aload_n 0, 1) := by decide +kernel
theorem dX8_strike_1 : decode cX8_strike 1 = .ok (.getfield 32, 3) := by decide +kernel
theorem dX8_strike_4 : decode cX8_strike 4 = .ok (.iload_n 1, 1) := by decide +kernel
theorem dX8_strike_5 : decode cX8_strike 5 = .ok (.invokevirtual 140, 3) := by decide +kernel
theorem dX8_strike_8 : decode cX8_strike 8 = .ok (.ifCond .ne 5, 3) := by decide +kernel
theorem dX8_strike_11 : decode cX8_strike 11 = .ok (.iconst (-1), 1) := by decide +kernel
theorem dX8_strike_12 : decode cX8_strike 12 = .ok (.ireturn, 1) := by decide +kernel
theorem dX8_strike_13 : decode cX8_strike 13 = .ok (.aload_n 0, 1) := by decide +kernel
theorem dX8_strike_14 : decode cX8_strike 14 = .ok (.getfield 40, 3) := by decide +kernel
theorem dX8_strike_17 : decode cX8_strike 17 = .ok (.getfield 162, 3) := by decide +kernel
theorem dX8_strike_20 : decode cX8_strike 20 = .ok (.iload_n 1, 1) := by decide +kernel
theorem dX8_strike_21 : decode cX8_strike 21 = .ok (.invokestatic 132, 3) := by decide +kernel
theorem dX8_strike_24 : decode cX8_strike 24 = .ok (.iload_n 2, 1) := by decide +kernel
theorem dX8_strike_25 : decode cX8_strike 25 = .ok (.if_icmp .ne 6, 3) := by decide +kernel
theorem dX8_strike_28 : decode cX8_strike 28 = .ok (.bipush (-2), 2) := by decide +kernel
theorem dX8_strike_30 : decode cX8_strike 30 = .ok (.ireturn, 1) := by decide +kernel
theorem dX8_strike_31 : decode cX8_strike 31 = .ok (.aload_n 0, 1) := by decide +kernel
theorem dX8_strike_32 : decode cX8_strike 32 = .ok (.invokevirtual 155, 3) := by decide +kernel
theorem dX8_strike_35 : decode cX8_strike 35 = .ok (.aload_n 0, 1) := by decide +kernel
theorem dX8_strike_36 : decode cX8_strike 36 = .ok (.getfield 40, 3) := by decide +kernel
theorem dX8_strike_39 : decode cX8_strike 39 = .ok (.dup, 1) := by decide +kernel
theorem dX8_strike_40 : decode cX8_strike 40 = .ok (.getfield 162, 3) := by decide +kernel
theorem dX8_strike_43 : decode cX8_strike 43 = .ok (.iconst 1, 1) := by decide +kernel
theorem dX8_strike_44 : decode cX8_strike 44 = .ok (.iload_n 1, 1) := by decide +kernel
theorem dX8_strike_45 : decode cX8_strike 45 = .ok (.ishl, 1) := by decide +kernel
theorem dX8_strike_46 : decode cX8_strike 46 = .ok (.ixor, 1) := by decide +kernel
theorem dX8_strike_47 : decode cX8_strike 47 = .ok (.putfield 162, 3) := by decide +kernel
theorem dX8_strike_50 : decode cX8_strike 50 = .ok (.aload_n 0, 1) := by decide +kernel
theorem dX8_strike_51 : decode cX8_strike 51 = .ok (.getfield 40, 3) := by decide +kernel
theorem dX8_strike_54 : decode cX8_strike 54 = .ok (.getfield 162, 3) := by decide +kernel
theorem dX8_strike_57 : decode cX8_strike 57 = .ok (.invokestatic 165, 3) := by decide +kernel
theorem dX8_strike_60 : decode cX8_strike 60 = .ok (.ireturn, 1) := by decide +kernel
set_option maxRecDepth 20000 in
theorem ggX8_undo_X2_takeLast : GoodIn wsX8_undo wsX2_takeLast := goodIn_r _ [5, 6, 7, 38, 39] (by decide +kernel) (by decide +kernel)
set_option maxRecDepth 20000 in
theorem gX8_undo_X2_takeLast_n173 : GoodIn wsX8_undo (wsX2_takeLast) := ggX8_undo_X2_takeLast
set_option maxRecDepth 20000 in
theorem ggX8_undo_X8_restore : GoodIn wsX8_undo wsX8_restore := goodIn_r _ [12, 13, 14, 15, 16, 17, 18, 19, 20, 21, 22, 23, 24, 25, 26, 27, 28, 29, 30, 31, 32, 33, 34, 35, 36, 37, 40, 41, 42, 43] (by decide +kernel) (by decide +kernel)
set_option maxRecDepth 20000 in
theorem gX8_undo_X8_restore : GoodIn wsX8_undo (wsV RX8 177 RX8 yX8_restore wsX8_restore) := goodIn_app (goodIn_of _ (by decide +kernel)) ggX8_undo_X8_restore
theorem dX8_undo_0 : decode cX8_undo 0 = .ok (.aload_n 0, 1) := by decide +kernel
theorem dX8_undo_1 : decode cX8_undo 1 = .ok (.getfield 52, 3) := by decide +kernel
theorem dX8_undo_4 : decode cX8_undo 4 = .ok (.getfield 170, 3) := by decide +kernel
theorem dX8_undo_7 : decode cX8_undo 7 = .ok (.iconst 1, 1) := by decide +kernel
theorem dX8_undo_8 : decode cX8_undo 8 = .ok (.if_icmp .ge 6, 3) := by decide +kernel
theorem dX8_undo_11 : decode cX8_undo 11 = .ok (.bipush (-2), 2) := by decide +kernel
theorem dX8_undo_13 : decode cX8_undo 13 = .ok (.ireturn, 1) := by decide +kernel
theorem dX8_undo_14 : decode cX8_undo 14 = .ok (.aload_n 0, 1) := by decide +kernel
theorem dX8_undo_15 : decode cX8_undo 15 = .ok (.aload_n 0, 1) := by decide +kernel
theorem dX8_undo_16 : decode cX8_undo 16 = .ok (.getfield 52, 3) := by decide +kernel
theorem dX8_undo_19 : decode cX8_undo 19 = .ok (.invokevirtual 173, 3) := by decide +kernel
theorem dX8_undo_22 : decode cX8_undo 22 = .ok (.invokevirtual 177, 3) := by decide +kernel
theorem dX8_undo_25 : decode cX8_undo 25 = .ok (.aload_n 0, 1) := by decide +kernel
theorem dX8_undo_26 : decode cX8_undo 26 = .ok (.getfield 52, 3) := by decide +kernel
theorem dX8_undo_29 : decode cX8_undo 29 = .ok (.getfield 170, 3) := by decide +kernel
theorem dX8_undo_32 : decode cX8_undo 32 = .ok (.ireturn, 1) := by decide +kernel
set_option maxRecDepth 20000 in
theorem ggX8_good_X8_surveyIfChanged : GoodIn wsX8_good wsX8_surveyIfChanged := goodIn_r _ [6, 7, 1, 8, 9, 10, 11, 12, 13, 14, 15, 16, 17, 18, 19, 20, 21, 22, 23, 24, 25, 26, 27, 28, 29, 30, 31, 32, 33, 34, 35, 36, 37, 38, 39, 40, 5, 41, 42, 43, 44, 45, 46, 47, 48, 49, 50, 51, 52, 53, 54, 55, 56, 57, 58, 59, 60, 61, 62, 63, 64, 65, 66, 67, 68, 69, 70, 71, 72, 73, 74, 75, 76, 77, 78, 79, 80, 81, 82, 83, 84, 85, 86, 87, 88, 89, 90, 91, 92, 93, 94, 95, 96, 97, 98, 99, 100, 101, 102, 103, 104, 105, 106, 107, 108, 109, 110, 111, 112, 113, 114, 115, 116, 117, 130, 131, 132, 133, 134, 135, 136, 137, 138, 139, 140, 141, 142, 143, 144, 145, 146, 147, 148, 149, 150, 151, 152, 153, 154, 155, 156, 157, 158, 159, 160, 161, 162, 163, 164, 165, 166, 167, 168, 169, 170, 171, 172, 173, 174, 175, 176, 177] (by decide +kernel) (by decide +kernel)
set_option maxRecDepth 20000 in
theorem gX8_good_X8_surveyIfChanged : GoodIn wsX8_good (wsV RX8 181 RX8 yX8_surveyIfChanged wsX8_surveyIfChanged) := goodIn_app (goodIn_of _ (by decide +kernel)) ggX8_good_X8_surveyIfChanged
set_option maxRecDepth 20000 in
theorem ggX8_good_X8_guestOfGoodRound : GoodIn wsX8_good wsX8_guestOfGoodRound := goodIn_r _ [121, 1, 8, 122, 123, 124, 125, 126, 127, 128, 129, 40, 5, 41, 130, 131, 132, 133, 134, 135, 136, 137, 138, 139, 140, 141, 142, 143, 144, 145, 146, 147, 148, 149, 150, 151, 152, 153, 154, 155, 156, 157, 158] (by decide +kernel) (by decide +kernel)
set_option maxRecDepth 20000 in
theorem gX8_good_X8_guestOfGoodRound : GoodIn wsX8_good (wsV RX8 190 RX8 yX8_guestOfGoodRound wsX8_guestOfGoodRound) := goodIn_app (goodIn_of _ (by decide +kernel)) ggX8_good_X8_guestOfGoodRound
theorem dX8_good_0 : decode cX8_good 0 = .ok (.iload_n 1, 1) := by decide +kernel
theorem dX8_good_1 : decode cX8_good 1 = .ok (.ifCond .lt 9, 3) := by decide +kernel
theorem dX8_good_4 : decode cX8_good 4 = .ok (.iload_n 1, 1) := by decide +kernel
theorem dX8_good_5 : decode cX8_good 5 = .ok (.bipush 6, 2) := by decide +kernel
theorem dX8_good_7 : decode cX8_good 7 = .ok (.if_icmp .le 5, 3) := by decide +kernel
theorem dX8_good_10 : decode cX8_good 10 = .ok (.iconst (-1), 1) := by decide +kernel
theorem dX8_good_11 : decode cX8_good 11 = .ok (.ireturn, 1) := by decide +kernel
theorem dX8_good_12 : decode cX8_good 12 = .ok (.aload_n 0, 1) := by decide +kernel
theorem dX8_good_13 : decode cX8_good 13 = .ok (.invokevirtual 181, 3) := by decide +kernel
theorem dX8_good_16 : decode cX8_good 16 = .ok (.iload_n 1, 1) := by decide +kernel
theorem dX8_good_17 : decode cX8_good 17 = .ok (.ifCond .ne 11, 3) := by decide +kernel
theorem dX8_good_20 : decode cX8_good 20 = .ok (.aload_n 0, 1) := by decide +kernel
theorem dX8_good_21 : decode cX8_good 21 = .ok (.getfield 69, 3) := by decide +kernel
theorem dX8_good_24 : decode cX8_good 24 = .ok (.getfield 184, 3) := by decide +kernel
theorem dX8_good_27 : decode cX8_good 27 = .ok (.ireturn, 1) := by decide +kernel
theorem dX8_good_28 : decode cX8_good 28 = .ok (.aload_n 0, 1) := by decide +kernel
theorem dX8_good_29 : decode cX8_good 29 = .ok (.aload_n 0, 1) := by decide +kernel
theorem dX8_good_30 : decode cX8_good 30 = .ok (.getfield 69, 3) := by decide +kernel
theorem dX8_good_33 : decode cX8_good 33 = .ok (.getfield 187, 3) := by decide +kernel
theorem dX8_good_36 : decode cX8_good 36 = .ok (.iload_n 1, 1) := by decide +kernel
theorem dX8_good_37 : decode cX8_good 37 = .ok (.invokevirtual 190, 3) := by decide +kernel
theorem dX8_good_40 : decode cX8_good 40 = .ok (.ireturn, 1) := by decide +kernel
set_option maxRecDepth 20000 in
theorem ggX8_soonest_X8_surveyIfChanged : GoodIn wsX8_soonest wsX8_surveyIfChanged := goodIn_r _ [6, 7, 1, 8, 9, 10, 11, 12, 13, 14, 15, 16, 17, 18, 19, 20, 21, 22, 23, 24, 25, 26, 27, 28, 29, 30, 31, 32, 33, 34, 35, 36, 37, 38, 39, 40, 5, 41, 42, 43, 44, 45, 46, 47, 48, 49, 50, 51, 52, 53, 54, 55, 56, 57, 58, 59, 60, 61, 62, 63, 64, 65, 66, 67, 68, 69, 70, 71, 72, 73, 74, 75, 76, 77, 78, 79, 80, 81, 82, 83, 84, 85, 86, 87, 88, 89, 90, 91, 92, 93, 94, 95, 96, 97, 98, 99, 100, 101, 102, 103, 104, 105, 106, 107, 108, 109, 110, 111, 112, 113, 114, 115, 116, 117, 133, 134, 135, 136, 137, 138, 139, 140, 141, 142, 143, 144, 145, 146, 147, 148, 149, 150, 151, 152, 153, 154, 155, 156, 157, 158, 159, 160, 161, 162, 163, 164, 165, 166, 167, 168, 169, 170, 171, 172, 173, 174, 175, 176, 177, 178, 179, 180] (by decide +kernel) (by decide +kernel)
set_option maxRecDepth 20000 in
theorem gX8_soonest_X8_surveyIfChanged : GoodIn wsX8_soonest (wsV RX8 181 RX8 yX8_surveyIfChanged wsX8_surveyIfChanged) := goodIn_app (goodIn_of _ (by decide +kernel)) ggX8_soonest_X8_surveyIfChanged
set_option maxRecDepth 20000 in
theorem ggX8_soonest_X6_endOrNone : GoodIn wsX8_soonest wsX6_endOrNone := goodIn_r _ [120, 23, 101, 146, 147, 148, 149, 150, 151, 152, 153, 154, 155, 156, 157] (by decide +kernel) (by decide +kernel)
set_option maxRecDepth 20000 in
theorem gX8_soonest_X6_endOrNone_n193 : GoodIn wsX8_soonest (wsX6_endOrNone) := ggX8_soonest_X6_endOrNone
set_option maxRecDepth 20000 in
theorem ggX8_soonest_X8_guestOfGoodRound : GoodIn wsX8_soonest wsX8_guestOfGoodRound := goodIn_r _ [124, 1, 8, 125, 126, 127, 128, 129, 130, 131, 132, 40, 5, 41, 133, 134, 135, 136, 137, 138, 139, 140, 141, 142, 143, 144, 145, 146, 147, 148, 149, 150, 151, 152, 153, 154, 155, 156, 157, 158, 159, 160, 161] (by decide +kernel) (by decide +kernel)
set_option maxRecDepth 20000 in
theorem gX8_soonest_X8_guestOfGoodRound : GoodIn wsX8_soonest (wsV RX8 190 RX8 yX8_guestOfGoodRound wsX8_guestOfGoodRound) := goodIn_app (goodIn_of _ (by decide +kernel)) ggX8_soonest_X8_guestOfGoodRound
theorem dX8_soonest_0 : decode cX8_soonest 0 = .ok (.iload_n 1, 1) := by decide +kernel
theorem dX8_soonest_1 : decode cX8_soonest 1 = .ok (.ifCond .lt 9, 3) := by decide +kernel
theorem dX8_soonest_4 : decode cX8_soonest 4 = .ok (.iload_n 1, 1) := by decide +kernel
theorem dX8_soonest_5 : decode cX8_soonest 5 = .ok (.bipush 6, 2) := by decide +kernel
theorem dX8_soonest_7 : decode cX8_soonest 7 = .ok (.if_icmp .le 5, 3) := by decide +kernel
theorem dX8_soonest_10 : decode cX8_soonest 10 = .ok (.iconst (-1), 1) := by decide +kernel
theorem dX8_soonest_11 : decode cX8_soonest 11 = .ok (.ireturn, 1) := by decide +kernel
theorem dX8_soonest_12 : decode cX8_soonest 12 = .ok (.aload_n 0, 1) := by decide +kernel
theorem dX8_soonest_13 : decode cX8_soonest 13 = .ok (.invokevirtual 181, 3) := by decide +kernel
theorem dX8_soonest_16 : decode cX8_soonest 16 = .ok (.iload_n 1, 1) := by decide +kernel
theorem dX8_soonest_17 : decode cX8_soonest 17 = .ok (.ifCond .ne 11, 3) := by decide +kernel
theorem dX8_soonest_20 : decode cX8_soonest 20 = .ok (.aload_n 0, 1) := by decide +kernel
theorem dX8_soonest_21 : decode cX8_soonest 21 = .ok (.getfield 69, 3) := by decide +kernel
theorem dX8_soonest_24 : decode cX8_soonest 24 = .ok (.invokevirtual 193, 3) := by decide +kernel
theorem dX8_soonest_27 : decode cX8_soonest 27 = .ok (.ireturn, 1) := by decide +kernel
theorem dX8_soonest_28 : decode cX8_soonest 28 = .ok (.aload_n 0, 1) := by decide +kernel
theorem dX8_soonest_29 : decode cX8_soonest 29 = .ok (.aload_n 0, 1) := by decide +kernel
theorem dX8_soonest_30 : decode cX8_soonest 30 = .ok (.getfield 69, 3) := by decide +kernel
theorem dX8_soonest_33 : decode cX8_soonest 33 = .ok (.getfield 196, 3) := by decide +kernel
theorem dX8_soonest_36 : decode cX8_soonest 36 = .ok (.iload_n 1, 1) := by decide +kernel
theorem dX8_soonest_37 : decode cX8_soonest 37 = .ok (.invokevirtual 190, 3) := by decide +kernel
theorem dX8_soonest_40 : decode cX8_soonest 40 = .ok (.ireturn, 1) := by decide +kernel
set_option maxRecDepth 20000 in
theorem ggX8_most_X8_surveyIfChanged : GoodIn wsX8_most wsX8_surveyIfChanged := goodIn_r _ [6, 7, 1, 8, 9, 10, 11, 12, 13, 14, 15, 16, 17, 18, 19, 20, 21, 22, 23, 24, 25, 26, 27, 28, 29, 30, 31, 32, 33, 34, 35, 36, 37, 38, 39, 40, 5, 41, 42, 43, 44, 45, 46, 47, 48, 49, 50, 51, 52, 53, 54, 55, 56, 57, 58, 59, 60, 61, 62, 63, 64, 65, 66, 67, 68, 69, 70, 71, 72, 73, 74, 75, 76, 77, 78, 79, 80, 81, 82, 83, 84, 85, 86, 87, 88, 89, 90, 91, 92, 93, 94, 95, 96, 97, 98, 99, 100, 101, 102, 103, 104, 105, 106, 107, 108, 109, 110, 111, 112, 113, 114, 115, 116, 117, 129, 130, 131, 132, 133, 134, 135, 136, 137, 138, 139, 140, 141, 142, 143, 144, 145, 146, 147, 148, 149, 150, 151, 152, 153, 154, 155, 156, 157, 158, 159, 160, 161, 162, 163, 164, 165, 166, 167, 168, 169, 170, 171, 172, 173, 174, 175, 176] (by decide +kernel) (by decide +kernel)
set_option maxRecDepth 20000 in
theorem gX8_most_X8_surveyIfChanged : GoodIn wsX8_most (wsV RX8 181 RX8 yX8_surveyIfChanged wsX8_surveyIfChanged) := goodIn_app (goodIn_of _ (by decide +kernel)) ggX8_most_X8_surveyIfChanged
set_option maxRecDepth 20000 in
theorem ggX8_most_X6_largestKept : GoodIn wsX8_most wsX6_largestKept := goodIn_r _ [120, 20, 121, 122, 123, 124, 125, 126, 127, 142, 143, 144, 145, 146, 147, 148, 149, 150, 151, 152, 153] (by decide +kernel) (by decide +kernel)
set_option maxRecDepth 20000 in
theorem gX8_most_X6_largestKept_n199 : GoodIn wsX8_most (wsX6_largestKept) := ggX8_most_X6_largestKept
set_option maxRecDepth 20000 in
theorem ggX8_most_J6_bitCount_0f7a4 : GoodIn wsX8_most wsJ6_bitCount_0f7a4 := goodIn_r _ [124, 125, 126, 127] (by decide +kernel) (by decide +kernel)
set_option maxRecDepth 20000 in
theorem gX8_most_J6_bitCount_0f7a4 : GoodIn wsX8_most (va_wsS RX8 165 yJ6_bitCount_0f7a4 wsJ6_bitCount_0f7a4) := goodIn_app (goodIn_of _ (by decide +kernel)) ggX8_most_J6_bitCount_0f7a4
theorem dX8_most_0 : decode cX8_most 0 = .ok (.iload_n 1, 1) := by decide +kernel
theorem dX8_most_1 : decode cX8_most 1 = .ok (.ifCond .lt 8, 3) := by decide +kernel
theorem dX8_most_4 : decode cX8_most 4 = .ok (.iload_n 1, 1) := by decide +kernel
theorem dX8_most_5 : decode cX8_most 5 = .ok (.iconst 1, 1) := by decide +kernel
theorem dX8_most_6 : decode cX8_most 6 = .ok (.if_icmp .le 5, 3) := by decide +kernel
theorem dX8_most_9 : decode cX8_most 9 = .ok (.iconst (-1), 1) := by decide +kernel
theorem dX8_most_10 : decode cX8_most 10 = .ok (.ireturn, 1) := by decide +kernel
theorem dX8_most_11 : decode cX8_most 11 = .ok (.aload_n 0, 1) := by decide +kernel
theorem dX8_most_12 : decode cX8_most 12 = .ok (.invokevirtual 181, 3) := by decide +kernel
theorem dX8_most_15 : decode cX8_most 15 = .ok (.aload_n 0, 1) := by decide +kernel
theorem dX8_most_16 : decode cX8_most 16 = .ok (.getfield 69, 3) := by decide +kernel
theorem dX8_most_19 : decode cX8_most 19 = .ok (.invokevirtual 199, 3) := by decide +kernel
theorem dX8_most_22 : decode cX8_most 22 = .ok (.istore_n 2, 1) := by decide +kernel
theorem dX8_most_23 : decode cX8_most 23 = .ok (.iload_n 1, 1) := by decide +kernel
theorem dX8_most_24 : decode cX8_most 24 = .ok (.ifCond .ne 10, 3) := by decide +kernel
theorem dX8_most_27 : decode cX8_most 27 = .ok (.iload_n 2, 1) := by decide +kernel
theorem dX8_most_28 : decode cX8_most 28 = .ok (.invokestatic 165, 3) := by decide +kernel
theorem dX8_most_31 : decode cX8_most 31 = .ok (.goto 4, 3) := by decide +kernel
theorem dX8_most_34 : decode cX8_most 34 = .ok (.iload_n 2, 1) := by decide +kernel
theorem dX8_most_35 : decode cX8_most 35 = .ok (.ireturn, 1) := by decide +kernel
set_option maxRecDepth 20000 in
theorem ggX8_core_X8_surveyIfChanged : GoodIn wsX8_core wsX8_surveyIfChanged := goodIn_r _ [6, 7, 1, 8, 9, 10, 11, 12, 13, 14, 15, 16, 17, 18, 19, 20, 21, 22, 23, 24, 25, 26, 27, 28, 29, 30, 31, 32, 33, 34, 35, 36, 37, 38, 39, 40, 5, 41, 42, 43, 44, 45, 46, 47, 48, 49, 50, 51, 52, 53, 54, 55, 56, 57, 58, 59, 60, 61, 62, 63, 64, 65, 66, 67, 68, 69, 70, 71, 72, 73, 74, 75, 76, 77, 78, 79, 80, 81, 82, 83, 84, 85, 86, 87, 88, 89, 90, 91, 92, 93, 94, 95, 96, 97, 98, 99, 100, 101, 102, 103, 104, 105, 106, 107, 108, 109, 110, 111, 112, 113, 114, 115, 116, 117, 132, 133, 134, 135, 136, 137, 138, 139, 140, 141, 142, 143, 144, 145, 146, 147, 148, 149, 150, 151, 152, 153, 154, 155, 156, 157, 158, 159, 160, 161, 162, 163, 164, 165, 166, 167, 168, 169, 170, 171, 172, 173, 174, 175, 176, 177, 178, 179] (by decide +kernel) (by decide +kernel)
set_option maxRecDepth 20000 in
theorem gX8_core_X8_surveyIfChanged : GoodIn wsX8_core (wsV RX8 181 RX8 yX8_surveyIfChanged wsX8_surveyIfChanged) := goodIn_app (goodIn_of _ (by decide +kernel)) ggX8_core_X8_surveyIfChanged
set_option maxRecDepth 20000 in
theorem ggX8_core_X6_smallestNeverKept : GoodIn wsX8_core wsX6_smallestNeverKept := goodIn_r _ [120, 14, 121, 122, 123, 124, 125, 126, 127, 128, 129, 130, 11, 131, 20, 145, 146, 147, 148, 149, 150, 151, 152, 153, 154, 155, 156] (by decide +kernel) (by decide +kernel)
set_option maxRecDepth 20000 in
theorem gX8_core_X6_smallestNeverKept_n202 : GoodIn wsX8_core (wsX6_smallestNeverKept) := ggX8_core_X6_smallestNeverKept
theorem dX8_core_0 : decode cX8_core 0 = .ok (.aload_n 0, 1) := by decide +kernel
theorem dX8_core_1 : decode cX8_core 1 = .ok (.invokevirtual 181, 3) := by decide +kernel
theorem dX8_core_4 : decode cX8_core 4 = .ok (.aload_n 0, 1) := by decide +kernel
theorem dX8_core_5 : decode cX8_core 5 = .ok (.getfield 69, 3) := by decide +kernel
theorem dX8_core_8 : decode cX8_core 8 = .ok (.getfield 184, 3) := by decide +kernel
theorem dX8_core_11 : decode cX8_core 11 = .ok (.ifCond .le 8, 3) := by decide +kernel
theorem dX8_core_14 : decode cX8_core 14 = .ok (.bipush (-4), 2) := by decide +kernel
theorem dX8_core_16 : decode cX8_core 16 = .ok (.goto 10, 3) := by decide +kernel
theorem dX8_core_19 : decode cX8_core 19 = .ok (.aload_n 0, 1) := by decide +kernel
theorem dX8_core_20 : decode cX8_core 20 = .ok (.getfield 69, 3) := by decide +kernel
theorem dX8_core_23 : decode cX8_core 23 = .ok (.invokevirtual 202, 3) := by decide +kernel
theorem dX8_core_26 : decode cX8_core 26 = .ok (.ireturn, 1) := by decide +kernel
set_option maxRecDepth 20000 in
theorem ggX8_place_X5_isGuest : GoodIn wsX8_place wsX5_isGuest := goodIn_r _ [7, 8, 155, 156, 157, 158, 159, 160, 161, 162, 163] (by decide +kernel) (by decide +kernel)
set_option maxRecDepth 20000 in
theorem gX8_place_X5_isGuest_n115 : GoodIn wsX8_place (wsX5_isGuest) := ggX8_place_X5_isGuest
set_option maxRecDepth 20000 in
theorem ggX8_place_X8_surveyIfChanged : GoodIn wsX8_place wsX8_surveyIfChanged := goodIn_r _ [13, 14, 3, 2, 15, 16, 17, 18, 19, 20, 21, 22, 23, 24, 25, 26, 27, 28, 29, 30, 31, 32, 33, 34, 35, 36, 37, 38, 39, 40, 41, 42, 43, 44, 45, 46, 12, 47, 48, 49, 50, 51, 52, 53, 54, 55, 56, 57, 58, 59, 60, 61, 62, 63, 64, 65, 66, 67, 68, 69, 70, 71, 72, 73, 74, 75, 76, 77, 78, 79, 80, 81, 82, 83, 84, 85, 86, 87, 88, 89, 90, 91, 92, 93, 94, 95, 96, 97, 98, 99, 100, 101, 102, 103, 104, 105, 106, 107, 108, 109, 110, 111, 112, 113, 114, 115, 116, 117, 118, 119, 120, 121, 122, 123, 126, 127, 128, 129, 130, 131, 132, 133, 134, 135, 136, 137, 138, 143, 144, 145, 146, 147, 148, 149, 150, 151, 152, 153, 154, 139, 140, 141, 142, 155, 156, 157, 158, 159, 160, 161, 162, 163, 164, 165, 166, 167, 168, 169, 170, 171, 172, 173] (by decide +kernel) (by decide +kernel)
set_option maxRecDepth 20000 in
theorem gX8_place_X8_surveyIfChanged : GoodIn wsX8_place (wsV RX8 181 RX8 yX8_surveyIfChanged wsX8_surveyIfChanged) := goodIn_app (goodIn_of _ (by decide +kernel)) ggX8_place_X8_surveyIfChanged
set_option maxRecDepth 20000 in
theorem ggX8_place_X8_has : GoodIn wsX8_place wsX8_has := goodIn_r _ [49] (by decide +kernel) (by decide +kernel)
set_option maxRecDepth 20000 in
theorem gX8_place_X8_has : GoodIn wsX8_place (va_wsS RX8 132 yX8_has wsX8_has) := goodIn_app (goodIn_of _ (by decide +kernel)) ggX8_place_X8_has
set_option maxRecDepth 20000 in
theorem ggX8_place_X8_at : GoodIn wsX8_place wsX8_at := goodIn_r _ [47] (by decide +kernel) (by decide +kernel)
set_option maxRecDepth 20000 in
theorem gX8_place_X8_at : GoodIn wsX8_place (va_wsS RX8 122 yX8_at wsX8_at) := goodIn_app (goodIn_of _ (by decide +kernel)) ggX8_place_X8_at
theorem dX8_place_0 : decode cX8_place 0 = .ok (.aload_n 0, 1) := by decide +kernel
theorem dX8_place_1 : decode cX8_place 1 = .ok (.getfield 32, 3) := by decide +kernel
theorem dX8_place_4 : decode cX8_place 4 = .ok (.iload_n 1, 1) := by decide +kernel
theorem dX8_place_5 : decode cX8_place 5 = .ok (.invokevirtual 115, 3) := by decide +kernel
theorem dX8_place_8 : decode cX8_place 8 = .ok (.ifCond .eq 12, 3) := by decide +kernel
theorem dX8_place_11 : decode cX8_place 11 = .ok (.iload_n 2, 1) := by decide +kernel
theorem dX8_place_12 : decode cX8_place 12 = .ok (.ifCond .lt 8, 3) := by decide +kernel
theorem dX8_place_15 : decode cX8_place 15 = .ok (.iload_n 2, 1) := by decide +kernel
theorem dX8_place_16 : decode cX8_place 16 = .ok (.iconst 1, 1) := by decide +kernel
theorem dX8_place_17 : decode cX8_place 17 = .ok (.if_icmp .le 5, 3) := by decide +kernel
theorem dX8_place_20 : decode cX8_place 20 = .ok (.iconst (-1), 1) := by decide +kernel
theorem dX8_place_21 : decode cX8_place 21 = .ok (.ireturn, 1) := by decide +kernel
theorem dX8_place_22 : decode cX8_place 22 = .ok (.aload_n 0, 1) := by decide +kernel
theorem dX8_place_23 : decode cX8_place 23 = .ok (.invokevirtual 181, 3) := by decide +kernel
theorem dX8_place_26 : decode cX8_place 26 = .ok (.aload_n 0, 1) := by decide +kernel
theorem dX8_place_27 : decode cX8_place 27 = .ok (.getfield 40, 3) := by decide +kernel
theorem dX8_place_30 : decode cX8_place 30 = .ok (.getfield 129, 3) := by decide +kernel
theorem dX8_place_33 : decode cX8_place 33 = .ok (.iload_n 1, 1) := by decide +kernel
theorem dX8_place_34 : decode cX8_place 34 = .ok (.invokestatic 132, 3) := by decide +kernel
theorem dX8_place_37 : decode cX8_place 37 = .ok (.ifCond .eq 13, 3) := by decide +kernel
theorem dX8_place_40 : decode cX8_place 40 = .ok (.aload_n 0, 1) := by decide +kernel
theorem dX8_place_41 : decode cX8_place 41 = .ok (.getfield 69, 3) := by decide +kernel
theorem dX8_place_44 : decode cX8_place 44 = .ok (.getfield 184, 3) := by decide +kernel
theorem dX8_place_47 : decode cX8_place 47 = .ok (.ifCond .ne 6, 3) := by decide +kernel
theorem dX8_place_50 : decode cX8_place 50 = .ok (.bipush (-4), 2) := by decide +kernel
theorem dX8_place_52 : decode cX8_place 52 = .ok (.ireturn, 1) := by decide +kernel
theorem dX8_place_53 : decode cX8_place 53 = .ok (.iload_n 2, 1) := by decide +kernel
theorem dX8_place_54 : decode cX8_place 54 = .ok (.ifCond .ne 13, 3) := by decide +kernel
theorem dX8_place_57 : decode cX8_place 57 = .ok (.aload_n 0, 1) := by decide +kernel
theorem dX8_place_58 : decode cX8_place 58 = .ok (.getfield 69, 3) := by decide +kernel
theorem dX8_place_61 : decode cX8_place 61 = .ok (.getfield 205, 3) := by decide +kernel
theorem dX8_place_64 : decode cX8_place 64 = .ok (.goto 10, 3) := by decide +kernel
theorem dX8_place_67 : decode cX8_place 67 = .ok (.aload_n 0, 1) := by decide +kernel
theorem dX8_place_68 : decode cX8_place 68 = .ok (.getfield 69, 3) := by decide +kernel
theorem dX8_place_71 : decode cX8_place 71 = .ok (.getfield 208, 3) := by decide +kernel
theorem dX8_place_74 : decode cX8_place 74 = .ok (.iload_n 1, 1) := by decide +kernel
theorem dX8_place_75 : decode cX8_place 75 = .ok (.invokestatic 122, 3) := by decide +kernel
theorem dX8_place_78 : decode cX8_place 78 = .ok (.ireturn, 1) := by decide +kernel
set_option maxRecDepth 20000 in
theorem ggX8_ahead_X5_isGuest : GoodIn wsX8_ahead wsX5_isGuest := goodIn_r _ [7, 8, 155, 156, 157, 158, 159, 160, 161, 162, 163] (by decide +kernel) (by decide +kernel)
set_option maxRecDepth 20000 in
theorem gX8_ahead_X5_isGuest_n115 : GoodIn wsX8_ahead (wsX5_isGuest) := ggX8_ahead_X5_isGuest
set_option maxRecDepth 20000 in
theorem ggX8_ahead_X8_surveyIfChanged : GoodIn wsX8_ahead wsX8_surveyIfChanged := goodIn_r _ [13, 14, 3, 2, 15, 16, 17, 18, 19, 20, 21, 22, 23, 24, 25, 26, 27, 28, 29, 30, 31, 32, 33, 34, 35, 36, 37, 38, 39, 40, 41, 42, 43, 44, 45, 46, 12, 47, 48, 49, 50, 51, 52, 53, 54, 55, 56, 57, 58, 59, 60, 61, 62, 63, 64, 65, 66, 67, 68, 69, 70, 71, 72, 73, 74, 75, 76, 77, 78, 79, 80, 81, 82, 83, 84, 85, 86, 87, 88, 89, 90, 91, 92, 93, 94, 95, 96, 97, 98, 99, 100, 101, 102, 103, 104, 105, 106, 107, 108, 109, 110, 111, 112, 113, 114, 115, 116, 117, 118, 119, 120, 121, 122, 123, 126, 127, 128, 129, 130, 131, 132, 133, 134, 135, 136, 137, 138, 143, 144, 145, 146, 147, 148, 149, 150, 151, 152, 153, 154, 139, 140, 141, 142, 155, 156, 157, 158, 159, 160, 161, 162, 163, 164, 165, 166, 167, 168, 169, 170, 171, 172, 173] (by decide +kernel) (by decide +kernel)
set_option maxRecDepth 20000 in
theorem gX8_ahead_X8_surveyIfChanged : GoodIn wsX8_ahead (wsV RX8 181 RX8 yX8_surveyIfChanged wsX8_surveyIfChanged) := goodIn_app (goodIn_of _ (by decide +kernel)) ggX8_ahead_X8_surveyIfChanged
set_option maxRecDepth 20000 in
theorem ggX8_ahead_X8_has : GoodIn wsX8_ahead wsX8_has := goodIn_r _ [49] (by decide +kernel) (by decide +kernel)
set_option maxRecDepth 20000 in
theorem gX8_ahead_X8_has : GoodIn wsX8_ahead (va_wsS RX8 132 yX8_has wsX8_has) := goodIn_app (goodIn_of _ (by decide +kernel)) ggX8_ahead_X8_has
set_option maxRecDepth 20000 in
theorem ggX8_ahead_X8_at : GoodIn wsX8_ahead wsX8_at := goodIn_r _ [47] (by decide +kernel) (by decide +kernel)
set_option maxRecDepth 20000 in
theorem gX8_ahead_X8_at : GoodIn wsX8_ahead (va_wsS RX8 122 yX8_at wsX8_at) := goodIn_app (goodIn_of _ (by decide +kernel)) ggX8_ahead_X8_at
theorem dX8_ahead_0 : decode cX8_ahead 0 = .ok (.aload_n 0, 1) := by decide +kernel
theorem dX8_ahead_1 : decode cX8_ahead 1 = .ok (.getfield 32, 3) := by decide +kernel
theorem dX8_ahead_4 : decode cX8_ahead 4 = .ok (.iload_n 1, 1) := by decide +kernel
theorem dX8_ahead_5 : decode cX8_ahead 5 = .ok (.invokevirtual 115, 3) := by decide +kernel
theorem dX8_ahead_8 : decode cX8_ahead 8 = .ok (.ifCond .eq 19, 3) := by decide +kernel
theorem dX8_ahead_11 : decode cX8_ahead 11 = .ok (.aload_n 0, 1) := by decide +kernel
theorem dX8_ahead_12 : decode cX8_ahead 12 = .ok (.getfield 32, 3) := by decide +kernel
theorem dX8_ahead_15 : decode cX8_ahead 15 = .ok (.iload_n 2, 1) := by decide +kernel
theorem dX8_ahead_16 : decode cX8_ahead 16 = .ok (.invokevirtual 115, 3) := by decide +kernel
theorem dX8_ahead_19 : decode cX8_ahead 19 = .ok (.ifCond .eq 8, 3) := by decide +kernel
theorem dX8_ahead_22 : decode cX8_ahead 22 = .ok (.iload_n 1, 1) := by decide +kernel
theorem dX8_ahead_23 : decode cX8_ahead 23 = .ok (.iload_n 2, 1) := by decide +kernel
theorem dX8_ahead_24 : decode cX8_ahead 24 = .ok (.if_icmp .ne 5, 3) := by decide +kernel
theorem dX8_ahead_27 : decode cX8_ahead 27 = .ok (.iconst (-1), 1) := by decide +kernel
theorem dX8_ahead_28 : decode cX8_ahead 28 = .ok (.ireturn, 1) := by decide +kernel
theorem dX8_ahead_29 : decode cX8_ahead 29 = .ok (.aload_n 0, 1) := by decide +kernel
theorem dX8_ahead_30 : decode cX8_ahead 30 = .ok (.invokevirtual 181, 3) := by decide +kernel
theorem dX8_ahead_33 : decode cX8_ahead 33 = .ok (.aload_n 0, 1) := by decide +kernel
theorem dX8_ahead_34 : decode cX8_ahead 34 = .ok (.getfield 40, 3) := by decide +kernel
theorem dX8_ahead_37 : decode cX8_ahead 37 = .ok (.getfield 129, 3) := by decide +kernel
theorem dX8_ahead_40 : decode cX8_ahead 40 = .ok (.iload_n 1, 1) := by decide +kernel
theorem dX8_ahead_41 : decode cX8_ahead 41 = .ok (.invokestatic 132, 3) := by decide +kernel
theorem dX8_ahead_44 : decode cX8_ahead 44 = .ok (.ifCond .eq 27, 3) := by decide +kernel
theorem dX8_ahead_47 : decode cX8_ahead 47 = .ok (.aload_n 0, 1) := by decide +kernel
theorem dX8_ahead_48 : decode cX8_ahead 48 = .ok (.getfield 40, 3) := by decide +kernel
theorem dX8_ahead_51 : decode cX8_ahead 51 = .ok (.getfield 129, 3) := by decide +kernel
theorem dX8_ahead_54 : decode cX8_ahead 54 = .ok (.iload_n 2, 1) := by decide +kernel
theorem dX8_ahead_55 : decode cX8_ahead 55 = .ok (.invokestatic 132, 3) := by decide +kernel
theorem dX8_ahead_58 : decode cX8_ahead 58 = .ok (.ifCond .eq 13, 3) := by decide +kernel
theorem dX8_ahead_61 : decode cX8_ahead 61 = .ok (.aload_n 0, 1) := by decide +kernel
theorem dX8_ahead_62 : decode cX8_ahead 62 = .ok (.getfield 69, 3) := by decide +kernel
theorem dX8_ahead_65 : decode cX8_ahead 65 = .ok (.getfield 184, 3) := by decide +kernel
theorem dX8_ahead_68 : decode cX8_ahead 68 = .ok (.ifCond .ne 6, 3) := by decide +kernel
theorem dX8_ahead_71 : decode cX8_ahead 71 = .ok (.bipush (-4), 2) := by decide +kernel
theorem dX8_ahead_73 : decode cX8_ahead 73 = .ok (.ireturn, 1) := by decide +kernel
theorem dX8_ahead_74 : decode cX8_ahead 74 = .ok (.aload_n 0, 1) := by decide +kernel
theorem dX8_ahead_75 : decode cX8_ahead 75 = .ok (.getfield 69, 3) := by decide +kernel
theorem dX8_ahead_78 : decode cX8_ahead 78 = .ok (.getfield 211, 3) := by decide +kernel
theorem dX8_ahead_81 : decode cX8_ahead 81 = .ok (.iload_n 2, 1) := by decide +kernel
theorem dX8_ahead_82 : decode cX8_ahead 82 = .ok (.invokestatic 122, 3) := by decide +kernel
theorem dX8_ahead_85 : decode cX8_ahead 85 = .ok (.iload_n 1, 1) := by decide +kernel
theorem dX8_ahead_86 : decode cX8_ahead 86 = .ok (.invokestatic 132, 3) := by decide +kernel
theorem dX8_ahead_89 : decode cX8_ahead 89 = .ok (.ifCond .eq 7, 3) := by decide +kernel
theorem dX8_ahead_92 : decode cX8_ahead 92 = .ok (.iconst 0, 1) := by decide +kernel
theorem dX8_ahead_93 : decode cX8_ahead 93 = .ok (.goto 4, 3) := by decide +kernel
theorem dX8_ahead_96 : decode cX8_ahead 96 = .ok (.iconst 1, 1) := by decide +kernel
theorem dX8_ahead_97 : decode cX8_ahead 97 = .ok (.ireturn, 1) := by decide +kernel
set_option maxRecDepth 20000 in
theorem ggX8_hangs_X5_isGuest : GoodIn wsX8_hangs wsX5_isGuest := goodIn_r _ [6, 7, 48, 49, 50, 51, 52, 53, 54, 55, 56] (by decide +kernel) (by decide +kernel)
set_option maxRecDepth 20000 in
theorem gX8_hangs_X5_isGuest_n115 : GoodIn wsX8_hangs (wsX5_isGuest) := ggX8_hangs_X5_isGuest
set_option maxRecDepth 20000 in
theorem ggX8_hangs_X8_has : GoodIn wsX8_hangs wsX8_has := goodIn_r _ [11] (by decide +kernel) (by decide +kernel)
set_option maxRecDepth 20000 in
theorem gX8_hangs_X8_has : GoodIn wsX8_hangs (va_wsS RX8 132 yX8_has wsX8_has) := goodIn_app (goodIn_of _ (by decide +kernel)) ggX8_hangs_X8_has
set_option maxRecDepth 20000 in
theorem ggX8_hangs_X1_hangingOn : GoodIn wsX8_hangs wsX1_hangingOn := goodIn_r _ [15, 16, 17, 18, 19, 13, 20, 21, 10, 22, 23, 4, 24, 25, 26, 27, 28, 29, 30, 9, 11, 44, 45, 46, 47, 48, 49, 50, 51, 52, 53, 54, 55, 56] (by decide +kernel) (by decide +kernel)
set_option maxRecDepth 20000 in
theorem gX8_hangs_X1_hangingOn_n214 : GoodIn wsX8_hangs (wsX1_hangingOn) := ggX8_hangs_X1_hangingOn
theorem dX8_hangs_0 : decode cX8_hangs 0 = .ok (.aload_n 0, 1) := by decide +kernel
theorem dX8_hangs_1 : decode cX8_hangs 1 = .ok (.getfield 32, 3) := by decide +kernel
theorem dX8_hangs_4 : decode cX8_hangs 4 = .ok (.iload_n 1, 1) := by decide +kernel
theorem dX8_hangs_5 : decode cX8_hangs 5 = .ok (.invokevirtual 115, 3) := by decide +kernel
theorem dX8_hangs_8 : decode cX8_hangs 8 = .ok (.ifCond .ne 5, 3) := by decide +kernel
theorem dX8_hangs_11 : decode cX8_hangs 11 = .ok (.iconst (-1), 1) := by decide +kernel
theorem dX8_hangs_12 : decode cX8_hangs 12 = .ok (.ireturn, 1) := by decide +kernel
theorem dX8_hangs_13 : decode cX8_hangs 13 = .ok (.aload_n 0, 1) := by decide +kernel
theorem dX8_hangs_14 : decode cX8_hangs 14 = .ok (.getfield 40, 3) := by decide +kernel
theorem dX8_hangs_17 : decode cX8_hangs 17 = .ok (.getfield 129, 3) := by decide +kernel
theorem dX8_hangs_20 : decode cX8_hangs 20 = .ok (.iload_n 1, 1) := by decide +kernel
theorem dX8_hangs_21 : decode cX8_hangs 21 = .ok (.invokestatic 132, 3) := by decide +kernel
theorem dX8_hangs_24 : decode cX8_hangs 24 = .ok (.ifCond .eq 14, 3) := by decide +kernel
theorem dX8_hangs_27 : decode cX8_hangs 27 = .ok (.aload_n 0, 1) := by decide +kernel
theorem dX8_hangs_28 : decode cX8_hangs 28 = .ok (.getfield 40, 3) := by decide +kernel
theorem dX8_hangs_31 : decode cX8_hangs 31 = .ok (.iload_n 1, 1) := by decide +kernel
theorem dX8_hangs_32 : decode cX8_hangs 32 = .ok (.invokevirtual 214, 3) := by decide +kernel
theorem dX8_hangs_35 : decode cX8_hangs 35 = .ok (.goto 5, 3) := by decide +kernel
theorem dX8_hangs_38 : decode cX8_hangs 38 = .ok (.bipush (-2), 2) := by decide +kernel
theorem dX8_hangs_40 : decode cX8_hangs 40 = .ok (.ireturn, 1) := by decide +kernel
set_option maxRecDepth 20000 in
theorem ggX8_woken_X5_isGuest : GoodIn wsX8_woken wsX5_isGuest := goodIn_r _ [7, 8, 38, 39, 40, 41, 42, 43, 44, 45, 46] (by decide +kernel) (by decide +kernel)
set_option maxRecDepth 20000 in
theorem gX8_woken_X5_isGuest_n115 : GoodIn wsX8_woken (wsX5_isGuest) := ggX8_woken_X5_isGuest
set_option maxRecDepth 20000 in
theorem ggX8_woken_X0_isFull : GoodIn wsX8_woken wsX0_isFull := goodIn_r _ [12, 13, 35, 36, 37] (by decide +kernel) (by decide +kernel)
set_option maxRecDepth 20000 in
theorem gX8_woken_X0_isFull_n217 : GoodIn wsX8_woken (wsX0_isFull) := ggX8_woken_X0_isFull
set_option maxRecDepth 20000 in
theorem ggX8_woken_X0_add : GoodIn wsX8_woken wsX0_add := goodIn_r _ [16, 17, 13, 18, 19, 20, 21, 35, 36, 37] (by decide +kernel) (by decide +kernel)
set_option maxRecDepth 20000 in
theorem gX8_woken_X0_add_n218 : GoodIn wsX8_woken (wsX0_add) := ggX8_woken_X0_add
theorem dX8_woken_0 : decode cX8_woken 0 = .ok (.aload_n 0, 1) := by decide +kernel
theorem dX8_woken_1 : decode cX8_woken 1 = .ok (.getfield 32, 3) := by decide +kernel
theorem dX8_woken_4 : decode cX8_woken 4 = .ok (.iload_n 1, 1) := by decide +kernel
theorem dX8_woken_5 : decode cX8_woken 5 = .ok (.invokevirtual 115, 3) := by decide +kernel
theorem dX8_woken_8 : decode cX8_woken 8 = .ok (.ifCond .eq 19, 3) := by decide +kernel
theorem dX8_woken_11 : decode cX8_woken 11 = .ok (.aload_n 0, 1) := by decide +kernel
theorem dX8_woken_12 : decode cX8_woken 12 = .ok (.getfield 32, 3) := by decide +kernel
theorem dX8_woken_15 : decode cX8_woken 15 = .ok (.iload_n 2, 1) := by decide +kernel
theorem dX8_woken_16 : decode cX8_woken 16 = .ok (.invokevirtual 115, 3) := by decide +kernel
theorem dX8_woken_19 : decode cX8_woken 19 = .ok (.ifCond .eq 8, 3) := by decide +kernel
theorem dX8_woken_22 : decode cX8_woken 22 = .ok (.iload_n 1, 1) := by decide +kernel
theorem dX8_woken_23 : decode cX8_woken 23 = .ok (.iload_n 2, 1) := by decide +kernel
theorem dX8_woken_24 : decode cX8_woken 24 = .ok (.if_icmp .ne 5, 3) := by decide +kernel
theorem dX8_woken_27 : decode cX8_woken 27 = .ok (.iconst (-1), 1) := by decide +kernel
theorem dX8_woken_28 : decode cX8_woken 28 = .ok (.ireturn, 1) := by decide +kernel
theorem dX8_woken_29 : decode cX8_woken 29 = .ok (.aload_n 0, 1) := by decide +kernel
theorem dX8_woken_30 : decode cX8_woken 30 = .ok (.getfield 62, 3) := by decide +kernel
theorem dX8_woken_33 : decode cX8_woken 33 = .ok (.invokevirtual 217, 3) := by decide +kernel
theorem dX8_woken_36 : decode cX8_woken 36 = .ok (.ifCond .eq 6, 3) := by decide +kernel
theorem dX8_woken_39 : decode cX8_woken 39 = .ok (.bipush (-3), 2) := by decide +kernel
theorem dX8_woken_41 : decode cX8_woken 41 = .ok (.ireturn, 1) := by decide +kernel
theorem dX8_woken_42 : decode cX8_woken 42 = .ok (.aload_n 0, 1) := by decide +kernel
theorem dX8_woken_43 : decode cX8_woken 43 = .ok (.getfield 62, 3) := by decide +kernel
theorem dX8_woken_46 : decode cX8_woken 46 = .ok (.iload_n 1, 1) := by decide +kernel
theorem dX8_woken_47 : decode cX8_woken 47 = .ok (.iload_n 2, 1) := by decide +kernel
theorem dX8_woken_48 : decode cX8_woken 48 = .ok (.invokevirtual 218, 3) := by decide +kernel
theorem dX8_woken_51 : decode cX8_woken 51 = .ok (.aload_n 0, 1) := by decide +kernel
theorem dX8_woken_52 : decode cX8_woken 52 = .ok (.iconst 0, 1) := by decide +kernel
theorem dX8_woken_53 : decode cX8_woken 53 = .ok (.putfield 221, 3) := by decide +kernel
theorem dX8_woken_56 : decode cX8_woken 56 = .ok (.aload_n 0, 1) := by decide +kernel
theorem dX8_woken_57 : decode cX8_woken 57 = .ok (.getfield 62, 3) := by decide +kernel
theorem dX8_woken_60 : decode cX8_woken 60 = .ok (.getfield 225, 3) := by decide +kernel
theorem dX8_woken_63 : decode cX8_woken 63 = .ok (.ireturn, 1) := by decide +kernel
set_option maxRecDepth 20000 in
theorem ggX8_forget_X0_clear : GoodIn wsX8_forget wsX0_clear := goodIn_r _ [6, 7, 21, 22, 23] (by decide +kernel) (by decide +kernel)
set_option maxRecDepth 20000 in
theorem gX8_forget_X0_clear_n228 : GoodIn wsX8_forget (wsX0_clear) := ggX8_forget_X0_clear
theorem dX8_forget_0 : decode cX8_forget 0 = .ok (.aload_n 0, 1) := by decide +kernel
theorem dX8_forget_1 : decode cX8_forget 1 = .ok (.getfield 62, 3) := by decide +kernel
theorem dX8_forget_4 : decode cX8_forget 4 = .ok (.getfield 225, 3) := by decide +kernel
theorem dX8_forget_7 : decode cX8_forget 7 = .ok (.istore_n 1, 1) := by decide +kernel
theorem dX8_forget_8 : decode cX8_forget 8 = .ok (.aload_n 0, 1) := by decide +kernel
theorem dX8_forget_9 : decode cX8_forget 9 = .ok (.getfield 62, 3) := by decide +kernel
theorem dX8_forget_12 : decode cX8_forget 12 = .ok (.invokevirtual 228, 3) := by decide +kernel
theorem dX8_forget_15 : decode cX8_forget 15 = .ok (.aload_n 0, 1) := by decide +kernel
theorem dX8_forget_16 : decode cX8_forget 16 = .ok (.iconst 0, 1) := by decide +kernel
theorem dX8_forget_17 : decode cX8_forget 17 = .ok (.putfield 221, 3) := by decide +kernel
theorem dX8_forget_20 : decode cX8_forget 20 = .ok (.iload_n 1, 1) := by decide +kernel
theorem dX8_forget_21 : decode cX8_forget 21 = .ok (.ireturn, 1) := by decide +kernel
set_option maxRecDepth 20000 in
theorem ggX8_slates_X8_surveyIfChanged : GoodIn wsX8_slates wsX8_surveyIfChanged := goodIn_r _ [6, 7, 1, 8, 9, 10, 11, 12, 13, 14, 15, 16, 17, 18, 19, 20, 21, 22, 23, 24, 25, 26, 27, 28, 29, 30, 31, 32, 33, 34, 35, 36, 37, 38, 39, 40, 5, 41, 42, 43, 44, 45, 46, 47, 48, 49, 50, 51, 52, 53, 54, 55, 56, 57, 58, 59, 60, 61, 62, 63, 64, 65, 66, 67, 68, 69, 70, 71, 72, 73, 74, 75, 76, 77, 78, 79, 80, 81, 82, 83, 84, 85, 86, 87, 88, 89, 90, 91, 92, 93, 94, 95, 96, 97, 98, 99, 100, 101, 102, 103, 104, 105, 106, 107, 108, 109, 110, 111, 112, 113, 114, 115, 116, 117, 131, 132, 133, 134, 135, 136, 137, 138, 139, 140, 141, 142, 143, 144, 145, 146, 147, 148, 149, 150, 151, 152, 153, 154, 155, 156, 157, 158, 159, 160, 161, 162, 163, 164, 165, 166, 167, 168, 169, 170, 171, 172, 173, 174, 175, 176, 177, 178] (by decide +kernel) (by decide +kernel)
set_option maxRecDepth 20000 in
theorem gX8_slates_X8_surveyIfChanged : GoodIn wsX8_slates (wsV RX8 181 RX8 yX8_surveyIfChanged wsX8_surveyIfChanged) := goodIn_app (goodIn_of _ (by decide +kernel)) ggX8_slates_X8_surveyIfChanged
set_option maxRecDepth 20000 in
theorem ggX8_slates_X6_twosAsWoken : GoodIn wsX8_slates wsX6_twosAsWoken := goodIn_r _ [120, 22, 121, 122, 123, 124, 125, 126, 127, 144, 145, 146, 147, 148, 149, 150, 151, 152, 153, 154, 155] (by decide +kernel) (by decide +kernel)
set_option maxRecDepth 20000 in
theorem gX8_slates_X6_twosAsWoken_n229 : GoodIn wsX8_slates (wsX6_twosAsWoken) := ggX8_slates_X6_twosAsWoken
set_option maxRecDepth 20000 in
theorem ggX8_slates_X6_firstTwoAsWoken : GoodIn wsX8_slates wsX6_firstTwoAsWoken := goodIn_r _ [130, 22, 42, 5, 43, 144, 145, 146, 147, 148, 149, 150, 151, 152, 153, 154, 155] (by decide +kernel) (by decide +kernel)
set_option maxRecDepth 20000 in
theorem gX8_slates_X6_firstTwoAsWoken_n232 : GoodIn wsX8_slates (wsX6_firstTwoAsWoken) := ggX8_slates_X6_firstTwoAsWoken
theorem dX8_slates_0 : decode cX8_slates 0 = .ok (.iload_n 1, 1) := by decide +kernel
theorem dX8_slates_1 : decode cX8_slates 1 = .ok (.ifCond .lt 8, 3) := by decide +kernel
theorem dX8_slates_4 : decode cX8_slates 4 = .ok (.iload_n 1, 1) := by decide +kernel
theorem dX8_slates_5 : decode cX8_slates 5 = .ok (.iconst 1, 1) := by decide +kernel
theorem dX8_slates_6 : decode cX8_slates 6 = .ok (.if_icmp .le 5, 3) := by decide +kernel
theorem dX8_slates_9 : decode cX8_slates 9 = .ok (.iconst (-1), 1) := by decide +kernel
theorem dX8_slates_10 : decode cX8_slates 10 = .ok (.ireturn, 1) := by decide +kernel
theorem dX8_slates_11 : decode cX8_slates 11 = .ok (.aload_n 0, 1) := by decide +kernel
theorem dX8_slates_12 : decode cX8_slates 12 = .ok (.invokevirtual 181, 3) := by decide +kernel
theorem dX8_slates_15 : decode cX8_slates 15 = .ok (.iload_n 1, 1) := by decide +kernel
theorem dX8_slates_16 : decode cX8_slates 16 = .ok (.ifCond .ne 13, 3) := by decide +kernel
theorem dX8_slates_19 : decode cX8_slates 19 = .ok (.aload_n 0, 1) := by decide +kernel
theorem dX8_slates_20 : decode cX8_slates 20 = .ok (.getfield 69, 3) := by decide +kernel
theorem dX8_slates_23 : decode cX8_slates 23 = .ok (.invokevirtual 229, 3) := by decide +kernel
theorem dX8_slates_26 : decode cX8_slates 26 = .ok (.goto 10, 3) := by decide +kernel
theorem dX8_slates_29 : decode cX8_slates 29 = .ok (.aload_n 0, 1) := by decide +kernel
theorem dX8_slates_30 : decode cX8_slates 30 = .ok (.getfield 69, 3) := by decide +kernel
theorem dX8_slates_33 : decode cX8_slates 33 = .ok (.invokevirtual 232, 3) := by decide +kernel
theorem dX8_slates_36 : decode cX8_slates 36 = .ok (.ireturn, 1) := by decide +kernel
set_option maxRecDepth 20000 in
theorem ggX8_washed_X8_surveyIfChanged : GoodIn wsX8_washed wsX8_surveyIfChanged := goodIn_r _ [6, 7, 1, 8, 9, 10, 11, 12, 13, 14, 15, 16, 17, 18, 19, 20, 21, 22, 23, 24, 25, 26, 27, 28, 29, 30, 31, 32, 33, 34, 35, 36, 37, 38, 39, 40, 5, 41, 42, 43, 44, 45, 46, 47, 48, 49, 50, 51, 52, 53, 54, 55, 56, 57, 58, 59, 60, 61, 62, 63, 64, 65, 66, 67, 68, 69, 70, 71, 72, 73, 74, 75, 76, 77, 78, 79, 80, 81, 82, 83, 84, 85, 86, 87, 88, 89, 90, 91, 92, 93, 94, 95, 96, 97, 98, 99, 100, 101, 102, 103, 104, 105, 106, 107, 108, 109, 110, 111, 112, 113, 114, 115, 116, 117, 118, 119, 120, 121, 122, 123, 124, 125, 126, 127, 128, 129, 130, 131, 132, 133, 134, 135, 136, 137, 138, 139, 140, 141, 142, 143, 144, 145, 146, 147, 148, 149, 150, 151, 152, 153, 154, 155, 156, 157, 158, 159, 160, 161, 162, 163, 164, 165] (by decide +kernel) (by decide +kernel)
set_option maxRecDepth 20000 in
theorem gX8_washed_X8_surveyIfChanged : GoodIn wsX8_washed (wsV RX8 181 RX8 yX8_surveyIfChanged wsX8_surveyIfChanged) := goodIn_app (goodIn_of _ (by decide +kernel)) ggX8_washed_X8_surveyIfChanged
theorem dX8_washed_0 : decode cX8_washed 0 = .ok (.aload_n 0, 1) := by decide +kernel
theorem dX8_washed_1 : decode cX8_washed 1 = .ok (.invokevirtual 181, 3) := by decide +kernel
theorem dX8_washed_4 : decode cX8_washed 4 = .ok (.aload_n 0, 1) := by decide +kernel
theorem dX8_washed_5 : decode cX8_washed 5 = .ok (.getfield 69, 3) := by decide +kernel
theorem dX8_washed_8 : decode cX8_washed 8 = .ok (.getfield 235, 3) := by decide +kernel
theorem dX8_washed_11 : decode cX8_washed 11 = .ok (.ireturn, 1) := by decide +kernel
set_option maxRecDepth 20000 in
theorem ggX8_two_X1_laterEnd : GoodIn wsX8_two wsX1_laterEnd := goodIn_r _ [5, 6, 7, 8, 9, 10, 11, 12, 13, 3, 14, 15, 16, 17, 18, 19, 20, 21, 22, 23, 24, 25, 39, 40, 41, 42, 43, 44, 45, 46, 47, 48, 49, 50, 51] (by decide +kernel) (by decide +kernel)
set_option maxRecDepth 20000 in
theorem gX8_two_X1_laterEnd_n238 : GoodIn wsX8_two (wsX1_laterEnd) := ggX8_two_X1_laterEnd
theorem dX8_two_0 : decode cX8_two 0 = .ok (.iload_n 1, 1) := by decide +kernel
theorem dX8_two_1 : decode cX8_two 1 = .ok (.ifCond .lt 8, 3) := by decide +kernel
theorem dX8_two_4 : decode cX8_two 4 = .ok (.iload_n 1, 1) := by decide +kernel
theorem dX8_two_5 : decode cX8_two 5 = .ok (.iconst 1, 1) := by decide +kernel
theorem dX8_two_6 : decode cX8_two 6 = .ok (.if_icmp .le 5, 3) := by decide +kernel
theorem dX8_two_9 : decode cX8_two 9 = .ok (.iconst (-1), 1) := by decide +kernel
theorem dX8_two_10 : decode cX8_two 10 = .ok (.ireturn, 1) := by decide +kernel
theorem dX8_two_11 : decode cX8_two 11 = .ok (.iconst 0, 1) := by decide +kernel
theorem dX8_two_12 : decode cX8_two 12 = .ok (.istore_n 2, 1) := by decide +kernel
theorem dX8_two_13 : decode cX8_two 13 = .ok (.aload_n 0, 1) := by decide +kernel
theorem dX8_two_14 : decode cX8_two 14 = .ok (.getfield 40, 3) := by decide +kernel
theorem dX8_two_17 : decode cX8_two 17 = .ok (.iload_n 2, 1) := by decide +kernel
theorem dX8_two_18 : decode cX8_two 18 = .ok (.invokevirtual 238, 3) := by decide +kernel
theorem dX8_two_21 : decode cX8_two 21 = .ok (.istore_n 3, 1) := by decide +kernel
theorem dX8_two_22 : decode cX8_two 22 = .ok (.iconst 1, 1) := by decide +kernel
theorem dX8_two_23 : decode cX8_two 23 = .ok (.istore 4, 2) := by decide +kernel
theorem dX8_two_25 : decode cX8_two 25 = .ok (.iload 4, 2) := by decide +kernel
theorem dX8_two_27 : decode cX8_two 27 = .ok (.bipush 64, 2) := by decide +kernel
theorem dX8_two_29 : decode cX8_two 29 = .ok (.if_icmp .ge 59, 3) := by decide +kernel
theorem dX8_two_32 : decode cX8_two 32 = .ok (.iload 4, 2) := by decide +kernel
theorem dX8_two_34 : decode cX8_two 34 = .ok (.aload_n 0, 1) := by decide +kernel
theorem dX8_two_35 : decode cX8_two 35 = .ok (.getfield 40, 3) := by decide +kernel
theorem dX8_two_38 : decode cX8_two 38 = .ok (.getfield 129, 3) := by decide +kernel
theorem dX8_two_41 : decode cX8_two 41 = .ok (.iconst (-1), 1) := by decide +kernel
theorem dX8_two_42 : decode cX8_two 42 = .ok (.ixor, 1) := by decide +kernel
theorem dX8_two_43 : decode cX8_two 43 = .ok (.iand, 1) := by decide +kernel
theorem dX8_two_44 : decode cX8_two 44 = .ok (.ifCond .ne 7, 3) := by decide +kernel
theorem dX8_two_47 : decode cX8_two 47 = .ok (.iconst 1, 1) := by decide +kernel
theorem dX8_two_48 : decode cX8_two 48 = .ok (.goto 4, 3) := by decide +kernel
theorem dX8_two_51 : decode cX8_two 51 = .ok (.iconst 0, 1) := by decide +kernel
theorem dX8_two_52 : decode cX8_two 52 = .ok (.istore 5, 2) := by decide +kernel
theorem dX8_two_54 : decode cX8_two 54 = .ok (.aload_n 0, 1) := by decide +kernel
theorem dX8_two_55 : decode cX8_two 55 = .ok (.getfield 40, 3) := by decide +kernel
theorem dX8_two_58 : decode cX8_two 58 = .ok (.iload 4, 2) := by decide +kernel
theorem dX8_two_60 : decode cX8_two 60 = .ok (.invokevirtual 238, 3) := by decide +kernel
theorem dX8_two_63 : decode cX8_two 63 = .ok (.istore 6, 2) := by decide +kernel
theorem dX8_two_65 : decode cX8_two 65 = .ok (.iload 5, 2) := by decide +kernel
theorem dX8_two_67 : decode cX8_two 67 = .ok (.ifCond .eq 15, 3) := by decide +kernel
theorem dX8_two_70 : decode cX8_two 70 = .ok (.iload 6, 2) := by decide +kernel
theorem dX8_two_72 : decode cX8_two 72 = .ok (.iload_n 3, 1) := by decide +kernel
theorem dX8_two_73 : decode cX8_two 73 = .ok (.if_icmp .ge 9, 3) := by decide +kernel
theorem dX8_two_76 : decode cX8_two 76 = .ok (.iload 4, 2) := by decide +kernel
theorem dX8_two_78 : decode cX8_two 78 = .ok (.istore_n 2, 1) := by decide +kernel
theorem dX8_two_79 : decode cX8_two 79 = .ok (.iload 6, 2) := by decide +kernel
theorem dX8_two_81 : decode cX8_two 81 = .ok (.istore_n 3, 1) := by decide +kernel
theorem dX8_two_82 : decode cX8_two 82 = .ok (.iinc 4 1, 3) := by decide +kernel
theorem dX8_two_85 : decode cX8_two 85 = .ok (.goto (-60), 3) := by decide +kernel
theorem dX8_two_88 : decode cX8_two 88 = .ok (.iload_n 1, 1) := by decide +kernel
theorem dX8_two_89 : decode cX8_two 89 = .ok (.ifCond .ne 7, 3) := by decide +kernel
theorem dX8_two_92 : decode cX8_two 92 = .ok (.iload_n 3, 1) := by decide +kernel
theorem dX8_two_93 : decode cX8_two 93 = .ok (.goto 4, 3) := by decide +kernel
theorem dX8_two_96 : decode cX8_two 96 = .ok (.iload_n 2, 1) := by decide +kernel
theorem dX8_two_97 : decode cX8_two 97 = .ok (.ireturn, 1) := by decide +kernel
set_option maxRecDepth 20000 in
theorem ggX8_overslept_X5_isGuest : GoodIn wsX8_overslept wsX5_isGuest := goodIn_r _ [6, 7, 55, 56, 57, 58, 59, 60, 61, 62, 63] (by decide +kernel) (by decide +kernel)
set_option maxRecDepth 20000 in
theorem gX8_overslept_X5_isGuest_n115 : GoodIn wsX8_overslept (wsX5_isGuest) := ggX8_overslept_X5_isGuest
set_option maxRecDepth 20000 in
theorem ggX8_overslept_X8_has : GoodIn wsX8_overslept wsX8_has := goodIn_r _ [11] (by decide +kernel) (by decide +kernel)
set_option maxRecDepth 20000 in
theorem gX8_overslept_X8_has : GoodIn wsX8_overslept (va_wsS RX8 132 yX8_has wsX8_has) := goodIn_app (goodIn_of _ (by decide +kernel)) ggX8_overslept_X8_has
set_option maxRecDepth 20000 in
theorem ggX8_overslept_X8_othersHungOnBy : GoodIn wsX8_overslept wsX8_othersHungOnBy := goodIn_r _ [15, 1, 2, 8, 9, 10, 11, 16, 17, 18, 19, 20, 21, 22, 23, 24, 25, 26, 27, 4, 28, 29, 30, 31, 32, 33, 34, 38, 39, 40, 41, 42, 43, 44, 45, 46, 47, 48, 49, 50, 55, 56, 57, 58, 59, 60, 61, 62, 63, 51, 52, 53, 54] (by decide +kernel) (by decide +kernel)
set_option maxRecDepth 20000 in
theorem gX8_overslept_X8_othersHungOnBy : GoodIn wsX8_overslept (wsV RX8 241 RX8 yX8_othersHungOnBy wsX8_othersHungOnBy) := goodIn_app (goodIn_of _ (by decide +kernel)) ggX8_overslept_X8_othersHungOnBy
set_option maxRecDepth 20000 in
theorem ggX8_overslept_X8_power : GoodIn wsX8_overslept wsX8_power := goodIn_r _ [37] (by decide +kernel) (by decide +kernel)
set_option maxRecDepth 20000 in
theorem gX8_overslept_X8_power : GoodIn wsX8_overslept (va_wsS RX8 244 yX8_power wsX8_power) := goodIn_app (goodIn_of _ (by decide +kernel)) ggX8_overslept_X8_power
theorem dX8_overslept_0 : decode cX8_overslept 0 = .ok (.aload_n 0, 1) := by decide +kernel
theorem dX8_overslept_1 : decode cX8_overslept 1 = .ok (.getfield 32, 3) := by decide +kernel
theorem dX8_overslept_4 : decode cX8_overslept 4 = .ok (.iload_n 1, 1) := by decide +kernel
theorem dX8_overslept_5 : decode cX8_overslept 5 = .ok (.invokevirtual 115, 3) := by decide +kernel
theorem dX8_overslept_8 : decode cX8_overslept 8 = .ok (.ifCond .eq 22, 3) := by decide +kernel
theorem dX8_overslept_11 : decode cX8_overslept 11 = .ok (.iload_n 2, 1) := by decide +kernel
theorem dX8_overslept_12 : decode cX8_overslept 12 = .ok (.ifCond .lt 18, 3) := by decide +kernel
theorem dX8_overslept_15 : decode cX8_overslept 15 = .ok (.iload_n 2, 1) := by decide +kernel
theorem dX8_overslept_16 : decode cX8_overslept 16 = .ok (.bipush 10, 2) := by decide +kernel
theorem dX8_overslept_18 : decode cX8_overslept 18 = .ok (.if_icmp .gt 12, 3) := by decide +kernel
theorem dX8_overslept_21 : decode cX8_overslept 21 = .ok (.iload_n 3, 1) := by decide +kernel
theorem dX8_overslept_22 : decode cX8_overslept 22 = .ok (.ifCond .lt 8, 3) := by decide +kernel
theorem dX8_overslept_25 : decode cX8_overslept 25 = .ok (.iload_n 3, 1) := by decide +kernel
theorem dX8_overslept_26 : decode cX8_overslept 26 = .ok (.iconst 1, 1) := by decide +kernel
theorem dX8_overslept_27 : decode cX8_overslept 27 = .ok (.if_icmp .le 5, 3) := by decide +kernel
theorem dX8_overslept_30 : decode cX8_overslept 30 = .ok (.iconst (-1), 1) := by decide +kernel
theorem dX8_overslept_31 : decode cX8_overslept 31 = .ok (.ireturn, 1) := by decide +kernel
theorem dX8_overslept_32 : decode cX8_overslept 32 = .ok (.aload_n 0, 1) := by decide +kernel
theorem dX8_overslept_33 : decode cX8_overslept 33 = .ok (.getfield 40, 3) := by decide +kernel
theorem dX8_overslept_36 : decode cX8_overslept 36 = .ok (.getfield 129, 3) := by decide +kernel
theorem dX8_overslept_39 : decode cX8_overslept 39 = .ok (.iload_n 1, 1) := by decide +kernel
theorem dX8_overslept_40 : decode cX8_overslept 40 = .ok (.invokestatic 132, 3) := by decide +kernel
theorem dX8_overslept_43 : decode cX8_overslept 43 = .ok (.ifCond .ne 6, 3) := by decide +kernel
theorem dX8_overslept_46 : decode cX8_overslept 46 = .ok (.bipush (-2), 2) := by decide +kernel
theorem dX8_overslept_48 : decode cX8_overslept 48 = .ok (.ireturn, 1) := by decide +kernel
theorem dX8_overslept_49 : decode cX8_overslept 49 = .ok (.bipush 10, 2) := by decide +kernel
theorem dX8_overslept_51 : decode cX8_overslept 51 = .ok (.iload_n 2, 1) := by decide +kernel
theorem dX8_overslept_52 : decode cX8_overslept 52 = .ok (.isub, 1) := by decide +kernel
theorem dX8_overslept_53 : decode cX8_overslept 53 = .ok (.istore 4, 2) := by decide +kernel
theorem dX8_overslept_55 : decode cX8_overslept 55 = .ok (.bipush 10, 2) := by decide +kernel
theorem dX8_overslept_57 : decode cX8_overslept 57 = .ok (.istore 5, 2) := by decide +kernel
theorem dX8_overslept_59 : decode cX8_overslept 59 = .ok (.bipush 10, 2) := by decide +kernel
theorem dX8_overslept_61 : decode cX8_overslept 61 = .ok (.istore 6, 2) := by decide +kernel
theorem dX8_overslept_63 : decode cX8_overslept 63 = .ok (.iload 6, 2) := by decide +kernel
theorem dX8_overslept_65 : decode cX8_overslept 65 = .ok (.iconst 1, 1) := by decide +kernel
theorem dX8_overslept_66 : decode cX8_overslept 66 = .ok (.if_icmp .le 39, 3) := by decide +kernel
theorem dX8_overslept_69 : decode cX8_overslept 69 = .ok (.iload 4, 2) := by decide +kernel
theorem dX8_overslept_71 : decode cX8_overslept 71 = .ok (.iload 6, 2) := by decide +kernel
theorem dX8_overslept_73 : decode cX8_overslept 73 = .ok (.irem, 1) := by decide +kernel
theorem dX8_overslept_74 : decode cX8_overslept 74 = .ok (.ifCond .ne 25, 3) := by decide +kernel
theorem dX8_overslept_77 : decode cX8_overslept 77 = .ok (.iload 5, 2) := by decide +kernel
theorem dX8_overslept_79 : decode cX8_overslept 79 = .ok (.iload 6, 2) := by decide +kernel
theorem dX8_overslept_81 : decode cX8_overslept 81 = .ok (.irem, 1) := by decide +kernel
theorem dX8_overslept_82 : decode cX8_overslept 82 = .ok (.ifCond .ne 17, 3) := by decide +kernel
theorem dX8_overslept_85 : decode cX8_overslept 85 = .ok (.iload 4, 2) := by decide +kernel
theorem dX8_overslept_87 : decode cX8_overslept 87 = .ok (.iload 6, 2) := by decide +kernel
theorem dX8_overslept_89 : decode cX8_overslept 89 = .ok (.idiv, 1) := by decide +kernel
theorem dX8_overslept_90 : decode cX8_overslept 90 = .ok (.istore 4, 2) := by decide +kernel
theorem dX8_overslept_92 : decode cX8_overslept 92 = .ok (.iload 5, 2) := by decide +kernel
theorem dX8_overslept_94 : decode cX8_overslept 94 = .ok (.iload 6, 2) := by decide +kernel
theorem dX8_overslept_96 : decode cX8_overslept 96 = .ok (.idiv, 1) := by decide +kernel
theorem dX8_overslept_97 : decode cX8_overslept 97 = .ok (.istore 5, 2) := by decide +kernel
theorem dX8_overslept_99 : decode cX8_overslept 99 = .ok (.iinc 6 (-1), 3) := by decide +kernel
theorem dX8_overslept_102 : decode cX8_overslept 102 = .ok (.goto (-39), 3) := by decide +kernel
theorem dX8_overslept_105 : decode cX8_overslept 105 = .ok (.iload_n 3, 1) := by decide +kernel
theorem dX8_overslept_106 : decode cX8_overslept 106 = .ok (.ifCond .ne 8, 3) := by decide +kernel
theorem dX8_overslept_109 : decode cX8_overslept 109 = .ok (.iload 4, 2) := by decide +kernel
theorem dX8_overslept_111 : decode cX8_overslept 111 = .ok (.goto 5, 3) := by decide +kernel
theorem dX8_overslept_114 : decode cX8_overslept 114 = .ok (.iload 5, 2) := by decide +kernel
theorem dX8_overslept_116 : decode cX8_overslept 116 = .ok (.iconst 1, 1) := by decide +kernel
theorem dX8_overslept_117 : decode cX8_overslept 117 = .ok (.aload_n 0, 1) := by decide +kernel
theorem dX8_overslept_118 : decode cX8_overslept 118 = .ok (.iload_n 1, 1) := by decide +kernel
theorem dX8_overslept_119 : decode cX8_overslept 119 = .ok (.invokevirtual 241, 3) := by decide +kernel
theorem dX8_overslept_122 : decode cX8_overslept 122 = .ok (.iadd, 1) := by decide +kernel
theorem dX8_overslept_123 : decode cX8_overslept 123 = .ok (.invokestatic 244, 3) := by decide +kernel
theorem dX8_overslept_126 : decode cX8_overslept 126 = .ok (.ireturn, 1) := by decide +kernel
set_option maxRecDepth 20000 in
theorem ggX8_dawn_X8_reckonEndsWithout : GoodIn wsX8_dawn wsX8_reckonEndsWithout := goodIn_r _ [6, 1, 7, 8, 9, 10, 11, 12, 13, 14, 15, 16, 17, 18, 19, 20, 21, 22, 23, 24, 25, 26, 27, 28, 29, 30, 31, 32, 33, 34, 35, 36, 37, 38, 39, 40, 41, 42, 43, 44, 45, 46, 47, 48, 49, 50, 51, 52, 53, 54, 55, 56, 57, 5, 58, 59, 60, 61, 62, 63, 64, 65, 66, 67, 68, 69, 70, 71, 72, 73, 74, 75, 76, 77, 78, 79, 80, 81, 82, 83, 84, 85, 86, 87, 88, 89, 90, 91, 92, 93, 94, 95, 96, 97, 98, 99, 100, 101, 102, 103, 104, 105, 106, 107, 108, 109, 110, 111, 112, 113, 114, 115, 116, 117, 118, 119, 120, 121, 122, 123, 124, 125, 126, 127, 128, 129, 130, 131, 132, 133, 134, 135, 136, 146, 147, 148, 149, 150, 151, 152, 153, 154, 155, 156, 157, 158, 159, 160, 161, 162, 163, 164, 165, 166, 167, 168, 169, 170, 171, 172, 173, 174, 175, 176, 177, 178, 179, 180, 181, 182, 183, 184, 185, 186, 187, 188, 189, 190, 191, 192, 193] (by decide +kernel) (by decide +kernel)
set_option maxRecDepth 20000 in
theorem gX8_dawn_X8_reckonEndsWithout : GoodIn wsX8_dawn (wsV RX8 248 RX8 yX8_reckonEndsWithout wsX8_reckonEndsWithout) := goodIn_app (goodIn_of _ (by decide +kernel)) ggX8_dawn_X8_reckonEndsWithout
set_option maxRecDepth 20000 in
theorem ggX8_dawn_X8_drawnGuest : GoodIn wsX8_dawn wsX8_drawnGuest := goodIn_r _ [140, 9, 141, 142, 143, 144, 146, 147, 148, 149, 150, 151, 152, 153, 154, 155, 156, 157, 158, 163, 164, 165, 166, 167, 168, 169, 170, 171] (by decide +kernel) (by decide +kernel)
set_option maxRecDepth 20000 in
theorem gX8_dawn_X8_drawnGuest : GoodIn wsX8_dawn (wsV RX8 251 RX8 yX8_drawnGuest wsX8_drawnGuest) := goodIn_app (goodIn_of _ (by decide +kernel)) ggX8_dawn_X8_drawnGuest
set_option maxRecDepth 20000 in
theorem ggX8_dawn_X8_at : GoodIn wsX8_dawn wsX8_at := goodIn_r _ [58] (by decide +kernel) (by decide +kernel)
set_option maxRecDepth 20000 in
theorem gX8_dawn_X8_at : GoodIn wsX8_dawn (va_wsS RX8 122 yX8_at wsX8_at) := goodIn_app (goodIn_of _ (by decide +kernel)) ggX8_dawn_X8_at
theorem dX8_dawn_0 : decode cX8_dawn 0 = .ok (.iload_n 1, 1) := by decide +kernel
theorem dX8_dawn_1 : decode cX8_dawn 1 = .ok (.ifCond .lt 30, 3) := by decide +kernel
theorem dX8_dawn_4 : decode cX8_dawn 4 = .ok (.iload_n 1, 1) := by decide +kernel
theorem dX8_dawn_5 : decode cX8_dawn 5 = .ok (.sipush 9999, 3) := by decide +kernel
theorem dX8_dawn_8 : decode cX8_dawn 8 = .ok (.if_icmp .gt 23, 3) := by decide +kernel
theorem dX8_dawn_11 : decode cX8_dawn 11 = .ok (.iload_n 2, 1) := by decide +kernel
theorem dX8_dawn_12 : decode cX8_dawn 12 = .ok (.iconst 1, 1) := by decide +kernel
theorem dX8_dawn_13 : decode cX8_dawn 13 = .ok (.if_icmp .lt 18, 3) := by decide +kernel
theorem dX8_dawn_16 : decode cX8_dawn 16 = .ok (.iload_n 2, 1) := by decide +kernel
theorem dX8_dawn_17 : decode cX8_dawn 17 = .ok (.bipush 40, 2) := by decide +kernel
theorem dX8_dawn_19 : decode cX8_dawn 19 = .ok (.if_icmp .gt 12, 3) := by decide +kernel
theorem dX8_dawn_22 : decode cX8_dawn 22 = .ok (.iload_n 3, 1) := by decide +kernel
theorem dX8_dawn_23 : decode cX8_dawn 23 = .ok (.ifCond .lt 8, 3) := by decide +kernel
theorem dX8_dawn_26 : decode cX8_dawn 26 = .ok (.iload_n 3, 1) := by decide +kernel
theorem dX8_dawn_27 : decode cX8_dawn 27 = .ok (.iconst 1, 1) := by decide +kernel
theorem dX8_dawn_28 : decode cX8_dawn 28 = .ok (.if_icmp .le 5, 3) := by decide +kernel
theorem dX8_dawn_31 : decode cX8_dawn 31 = .ok (.iconst (-1), 1) := by decide +kernel
theorem dX8_dawn_32 : decode cX8_dawn 32 = .ok (.ireturn, 1) := by decide +kernel
theorem dX8_dawn_33 : decode cX8_dawn 33 = .ok (.aload_n 0, 1) := by decide +kernel
theorem dX8_dawn_34 : decode cX8_dawn 34 = .ok (.invokevirtual 248, 3) := by decide +kernel
theorem dX8_dawn_37 : decode cX8_dawn 37 = .ok (.iconst 0, 1) := by decide +kernel
theorem dX8_dawn_38 : decode cX8_dawn 38 = .ok (.istore 4, 2) := by decide +kernel
theorem dX8_dawn_40 : decode cX8_dawn 40 = .ok (.iconst 0, 1) := by decide +kernel
theorem dX8_dawn_41 : decode cX8_dawn 41 = .ok (.istore 5, 2) := by decide +kernel
theorem dX8_dawn_43 : decode cX8_dawn 43 = .ok (.iconst 0, 1) := by decide +kernel
theorem dX8_dawn_44 : decode cX8_dawn 44 = .ok (.istore 6, 2) := by decide +kernel
theorem dX8_dawn_46 : decode cX8_dawn 46 = .ok (.iload 6, 2) := by decide +kernel
theorem dX8_dawn_48 : decode cX8_dawn 48 = .ok (.iload_n 2, 1) := by decide +kernel
theorem dX8_dawn_49 : decode cX8_dawn 49 = .ok (.if_icmp .ge 42, 3) := by decide +kernel
theorem dX8_dawn_52 : decode cX8_dawn 52 = .ok (.aload_n 0, 1) := by decide +kernel
theorem dX8_dawn_53 : decode cX8_dawn 53 = .ok (.getfield 76, 3) := by decide +kernel
theorem dX8_dawn_56 : decode cX8_dawn 56 = .ok (.aload_n 0, 1) := by decide +kernel
theorem dX8_dawn_57 : decode cX8_dawn 57 = .ok (.iload_n 1, 1) := by decide +kernel
theorem dX8_dawn_58 : decode cX8_dawn 58 = .ok (.iload 6, 2) := by decide +kernel
theorem dX8_dawn_60 : decode cX8_dawn 60 = .ok (.invokevirtual 251, 3) := by decide +kernel
theorem dX8_dawn_63 : decode cX8_dawn 63 = .ok (.invokestatic 122, 3) := by decide +kernel
theorem dX8_dawn_66 : decode cX8_dawn 66 = .ok (.istore 7, 2) := by decide +kernel
theorem dX8_dawn_68 : decode cX8_dawn 68 = .ok (.iload 7, 2) := by decide +kernel
theorem dX8_dawn_70 : decode cX8_dawn 70 = .ok (.bipush (-4), 2) := by decide +kernel
theorem dX8_dawn_72 : decode cX8_dawn 72 = .ok (.if_icmp .eq 13, 3) := by decide +kernel
theorem dX8_dawn_75 : decode cX8_dawn 75 = .ok (.iinc 4 1, 3) := by decide +kernel
theorem dX8_dawn_78 : decode cX8_dawn 78 = .ok (.iload 5, 2) := by decide +kernel
theorem dX8_dawn_80 : decode cX8_dawn 80 = .ok (.iload 7, 2) := by decide +kernel
theorem dX8_dawn_82 : decode cX8_dawn 82 = .ok (.iadd, 1) := by decide +kernel
theorem dX8_dawn_83 : decode cX8_dawn 83 = .ok (.istore 5, 2) := by decide +kernel
theorem dX8_dawn_85 : decode cX8_dawn 85 = .ok (.iinc 6 1, 3) := by decide +kernel
theorem dX8_dawn_88 : decode cX8_dawn 88 = .ok (.goto (-42), 3) := by decide +kernel
theorem dX8_dawn_91 : decode cX8_dawn 91 = .ok (.iload_n 3, 1) := by decide +kernel
theorem dX8_dawn_92 : decode cX8_dawn 92 = .ok (.ifCond .ne 8, 3) := by decide +kernel
theorem dX8_dawn_95 : decode cX8_dawn 95 = .ok (.iload 4, 2) := by decide +kernel
theorem dX8_dawn_97 : decode cX8_dawn 97 = .ok (.goto 5, 3) := by decide +kernel
theorem dX8_dawn_100 : decode cX8_dawn 100 = .ok (.iload 5, 2) := by decide +kernel
theorem dX8_dawn_102 : decode cX8_dawn 102 = .ok (.ireturn, 1) := by decide +kernel
set_option maxRecDepth 20000 in
theorem ggX8_keep_X2_isFull : GoodIn wsX8_keep wsX2_isFull := goodIn_r _ [6, 7, 8, 37, 38] (by decide +kernel) (by decide +kernel)
set_option maxRecDepth 20000 in
theorem gX8_keep_X2_isFull_n254 : GoodIn wsX8_keep (wsX2_isFull) := ggX8_keep_X2_isFull
set_option maxRecDepth 20000 in
theorem ggX8_keep_X1_packed : GoodIn wsX8_keep wsX1_packed := goodIn_r _ [12, 13, 14, 15, 39, 40, 41, 42] (by decide +kernel) (by decide +kernel)
set_option maxRecDepth 20000 in
theorem gX8_keep_X1_packed_n255 : GoodIn wsX8_keep (wsX1_packed) := ggX8_keep_X1_packed
set_option maxRecDepth 20000 in
theorem ggX8_keep_X2_add : GoodIn wsX8_keep wsX2_add := goodIn_r _ [18, 7, 8, 19, 3, 5, 4, 6, 20, 21, 22, 23, 37, 38] (by decide +kernel) (by decide +kernel)
set_option maxRecDepth 20000 in
theorem gX8_keep_X2_add_n258 : GoodIn wsX8_keep (wsX2_add) := ggX8_keep_X2_add
theorem dX8_keep_0 : decode cX8_keep 0 = .ok (.aload_n 0, 1) := by decide +kernel
theorem dX8_keep_1 : decode cX8_keep 1 = .ok (.getfield 56, 3) := by decide +kernel
theorem dX8_keep_4 : decode cX8_keep 4 = .ok (.invokevirtual 254, 3) := by decide +kernel
theorem dX8_keep_7 : decode cX8_keep 7 = .ok (.ifCond .eq 6, 3) := by decide +kernel
theorem dX8_keep_10 : decode cX8_keep 10 = .ok (.bipush (-3), 2) := by decide +kernel
theorem dX8_keep_12 : decode cX8_keep 12 = .ok (.ireturn, 1) := by decide +kernel
theorem dX8_keep_13 : decode cX8_keep 13 = .ok (.aload_n 0, 1) := by decide +kernel
theorem dX8_keep_14 : decode cX8_keep 14 = .ok (.getfield 56, 3) := by decide +kernel
theorem dX8_keep_17 : decode cX8_keep 17 = .ok (.aload_n 0, 1) := by decide +kernel
theorem dX8_keep_18 : decode cX8_keep 18 = .ok (.getfield 40, 3) := by decide +kernel
theorem dX8_keep_21 : decode cX8_keep 21 = .ok (.invokevirtual 255, 3) := by decide +kernel
theorem dX8_keep_24 : decode cX8_keep 24 = .ok (.invokevirtual 258, 3) := by decide +kernel
theorem dX8_keep_27 : decode cX8_keep 27 = .ok (.aload_n 0, 1) := by decide +kernel
theorem dX8_keep_28 : decode cX8_keep 28 = .ok (.getfield 56, 3) := by decide +kernel
theorem dX8_keep_31 : decode cX8_keep 31 = .ok (.getfield 170, 3) := by decide +kernel
theorem dX8_keep_34 : decode cX8_keep 34 = .ok (.ireturn, 1) := by decide +kernel
set_option maxRecDepth 20000 in
theorem ggX8_back_X2_takeLast : GoodIn wsX8_back wsX2_takeLast := goodIn_r _ [6, 7, 8, 42, 43] (by decide +kernel) (by decide +kernel)
set_option maxRecDepth 20000 in
theorem gX8_back_X2_takeLast_n173 : GoodIn wsX8_back (wsX2_takeLast) := ggX8_back_X2_takeLast
set_option maxRecDepth 20000 in
theorem ggX8_back_X8_restore : GoodIn wsX8_back wsX8_restore := goodIn_r _ [13, 14, 15, 16, 17, 18, 19, 20, 21, 22, 23, 24, 25, 29, 30, 31, 32, 33, 34, 35, 36, 37, 38, 39, 40, 41, 44, 45, 46, 47] (by decide +kernel) (by decide +kernel)
set_option maxRecDepth 20000 in
theorem gX8_back_X8_restore : GoodIn wsX8_back (wsV RX8 177 RX8 yX8_restore wsX8_restore) := goodIn_app (goodIn_of _ (by decide +kernel)) ggX8_back_X8_restore
set_option maxRecDepth 20000 in
theorem ggX8_back_X2_clear : GoodIn wsX8_back wsX2_clear := goodIn_r _ [28, 7, 42, 43] (by decide +kernel) (by decide +kernel)
set_option maxRecDepth 20000 in
theorem gX8_back_X2_clear_n260 : GoodIn wsX8_back (wsX2_clear) := ggX8_back_X2_clear
theorem dX8_back_0 : decode cX8_back 0 = .ok (.aload_n 0, 1) := by decide +kernel
theorem dX8_back_1 : decode cX8_back 1 = .ok (.getfield 56, 3) := by decide +kernel
theorem dX8_back_4 : decode cX8_back 4 = .ok (.getfield 170, 3) := by decide +kernel
theorem dX8_back_7 : decode cX8_back 7 = .ok (.iconst 1, 1) := by decide +kernel
theorem dX8_back_8 : decode cX8_back 8 = .ok (.if_icmp .ge 6, 3) := by decide +kernel
theorem dX8_back_11 : decode cX8_back 11 = .ok (.bipush (-2), 2) := by decide +kernel
theorem dX8_back_13 : decode cX8_back 13 = .ok (.ireturn, 1) := by decide +kernel
theorem dX8_back_14 : decode cX8_back 14 = .ok (.aload_n 0, 1) := by decide +kernel
theorem dX8_back_15 : decode cX8_back 15 = .ok (.aload_n 0, 1) := by decide +kernel
theorem dX8_back_16 : decode cX8_back 16 = .ok (.getfield 56, 3) := by decide +kernel
theorem dX8_back_19 : decode cX8_back 19 = .ok (.invokevirtual 173, 3) := by decide +kernel
theorem dX8_back_22 : decode cX8_back 22 = .ok (.invokevirtual 177, 3) := by decide +kernel
theorem dX8_back_25 : decode cX8_back 25 = .ok (.aload_n 0, 1) := by decide +kernel
theorem dX8_back_26 : decode cX8_back 26 = .ok (.getfield 52, 3) := by decide +kernel
theorem dX8_back_29 : decode cX8_back 29 = .ok (.invokevirtual 260, 3) := by decide +kernel
theorem dX8_back_32 : decode cX8_back 32 = .ok (.aload_n 0, 1) := by decide +kernel
theorem dX8_back_33 : decode cX8_back 33 = .ok (.getfield 56, 3) := by decide +kernel
theorem dX8_back_36 : decode cX8_back 36 = .ok (.getfield 170, 3) := by decide +kernel
theorem dX8_back_39 : decode cX8_back 39 = .ok (.ireturn, 1) := by decide +kernel
set_option maxRecDepth 20000 in
theorem ggX8_count_J6_bitCount_0f7a4 : GoodIn wsX8_count wsJ6_bitCount_0f7a4 := goodIn_r _ [10, 11, 12, 13] (by decide +kernel) (by decide +kernel)
set_option maxRecDepth 20000 in
theorem gX8_count_J6_bitCount_0f7a4 : GoodIn wsX8_count (va_wsS RX8 165 yJ6_bitCount_0f7a4 wsJ6_bitCount_0f7a4) := goodIn_app (goodIn_of _ (by decide +kernel)) ggX8_count_J6_bitCount_0f7a4
set_option maxRecDepth 20000 in
theorem ggX8_count_X1_standing : GoodIn wsX8_count wsX1_standing := goodIn_r _ [17, 18, 19, 20, 21, 15, 22, 23, 24, 25, 26, 27, 28, 29, 52, 53, 54, 55, 43, 44, 45, 46, 47, 48, 49, 50, 51] (by decide +kernel) (by decide +kernel)
set_option maxRecDepth 20000 in
theorem gX8_count_X1_standing_n264 : GoodIn wsX8_count (wsX1_standing) := ggX8_count_X1_standing
theorem dX8_count_0 : decode cX8_count 0 = .ok (.iload_n 1, 1) := by decide +kernel
theorem dX8_count_1 : decode cX8_count 1 = .ok (.tableswitch 144 0 9 #[55, 63, 74, 82, 93, 104, 112, 120, 128, 136], 55) := by decide +kernel
theorem dX8_count_56 : decode cX8_count 56 = .ok (.aload_n 0, 1) := by decide +kernel
theorem dX8_count_57 : decode cX8_count 57 = .ok (.getfield 32, 3) := by decide +kernel
theorem dX8_count_60 : decode cX8_count 60 = .ok (.getfield 112, 3) := by decide +kernel
theorem dX8_count_63 : decode cX8_count 63 = .ok (.ireturn, 1) := by decide +kernel
theorem dX8_count_64 : decode cX8_count 64 = .ok (.aload_n 0, 1) := by decide +kernel
theorem dX8_count_65 : decode cX8_count 65 = .ok (.getfield 40, 3) := by decide +kernel
theorem dX8_count_68 : decode cX8_count 68 = .ok (.getfield 129, 3) := by decide +kernel
theorem dX8_count_71 : decode cX8_count 71 = .ok (.invokestatic 165, 3) := by decide +kernel
theorem dX8_count_74 : decode cX8_count 74 = .ok (.ireturn, 1) := by decide +kernel
theorem dX8_count_75 : decode cX8_count 75 = .ok (.aload_n 0, 1) := by decide +kernel
theorem dX8_count_76 : decode cX8_count 76 = .ok (.getfield 32, 3) := by decide +kernel
theorem dX8_count_79 : decode cX8_count 79 = .ok (.getfield 261, 3) := by decide +kernel
theorem dX8_count_82 : decode cX8_count 82 = .ok (.ireturn, 1) := by decide +kernel
theorem dX8_count_83 : decode cX8_count 83 = .ok (.aload_n 0, 1) := by decide +kernel
theorem dX8_count_84 : decode cX8_count 84 = .ok (.getfield 40, 3) := by decide +kernel
theorem dX8_count_87 : decode cX8_count 87 = .ok (.invokevirtual 264, 3) := by decide +kernel
theorem dX8_count_90 : decode cX8_count 90 = .ok (.invokestatic 165, 3) := by decide +kernel
theorem dX8_count_93 : decode cX8_count 93 = .ok (.ireturn, 1) := by decide +kernel
theorem dX8_count_94 : decode cX8_count 94 = .ok (.aload_n 0, 1) := by decide +kernel
theorem dX8_count_95 : decode cX8_count 95 = .ok (.getfield 40, 3) := by decide +kernel
theorem dX8_count_98 : decode cX8_count 98 = .ok (.getfield 162, 3) := by decide +kernel
theorem dX8_count_101 : decode cX8_count 101 = .ok (.invokestatic 165, 3) := by decide +kernel
theorem dX8_count_104 : decode cX8_count 104 = .ok (.ireturn, 1) := by decide +kernel
theorem dX8_count_105 : decode cX8_count 105 = .ok (.aload_n 0, 1) := by decide +kernel
theorem dX8_count_106 : decode cX8_count 106 = .ok (.getfield 32, 3) := by decide +kernel
theorem dX8_count_109 : decode cX8_count 109 = .ok (.getfield 267, 3) := by decide +kernel
theorem dX8_count_112 : decode cX8_count 112 = .ok (.ireturn, 1) := by decide +kernel
theorem dX8_count_113 : decode cX8_count 113 = .ok (.aload_n 0, 1) := by decide +kernel
theorem dX8_count_114 : decode cX8_count 114 = .ok (.getfield 62, 3) := by decide +kernel
theorem dX8_count_117 : decode cX8_count 117 = .ok (.getfield 225, 3) := by decide +kernel
theorem dX8_count_120 : decode cX8_count 120 = .ok (.ireturn, 1) := by decide +kernel
theorem dX8_count_121 : decode cX8_count 121 = .ok (.aload_n 0, 1) := by decide +kernel
theorem dX8_count_122 : decode cX8_count 122 = .ok (.getfield 52, 3) := by decide +kernel
theorem dX8_count_125 : decode cX8_count 125 = .ok (.getfield 170, 3) := by decide +kernel
theorem dX8_count_128 : decode cX8_count 128 = .ok (.ireturn, 1) := by decide +kernel
theorem dX8_count_129 : decode cX8_count 129 = .ok (.aload_n 0, 1) := by decide +kernel
theorem dX8_count_130 : decode cX8_count 130 = .ok (.getfield 56, 3) := by decide +kernel
theorem dX8_count_133 : decode cX8_count 133 = .ok (.getfield 170, 3) := by decide +kernel
theorem dX8_count_136 : decode cX8_count 136 = .ok (.ireturn, 1) := by decide +kernel
theorem dX8_count_137 : decode cX8_count 137 = .ok (.aload_n 0, 1) := by decide +kernel
theorem dX8_count_138 : decode cX8_count 138 = .ok (.getfield 10, 3) := by decide +kernel
theorem dX8_count_141 : decode cX8_count 141 = .ok (.getfield 106, 3) := by decide +kernel
theorem dX8_count_144 : decode cX8_count 144 = .ok (.ireturn, 1) := by decide +kernel
theorem dX8_count_145 : decode cX8_count 145 = .ok (.iconst (-1), 1) := by decide +kernel
theorem dX8_count_146 : decode cX8_count 146 = .ok (.ireturn, 1) := by decide +kernel
set_option maxRecDepth 20000 in
theorem ggX8_layText_X3_readAll : GoodIn wsX8_layText wsX3_readAll := goodIn_r _ [12, 13, 14, 15, 16, 17, 18, 19, 20, 21, 22, 23, 24, 25, 10, 26, 27, 28, 29, 30, 31, 32, 33, 34, 35, 36, 37, 38, 39, 40, 41, 42, 43, 44, 45, 46, 47, 48, 49, 50, 51, 52, 53, 54, 55, 56, 57, 58, 59, 60, 61, 62, 63, 64, 65, 66, 67, 68, 69, 70, 116, 117, 118, 119, 120, 107, 108, 109, 110, 111, 112, 113, 114, 115] (by decide +kernel) (by decide +kernel)
set_option maxRecDepth 20000 in
theorem gX8_layText_X3_readAll_n109 : GoodIn wsX8_layText (wsX3_readAll) := ggX8_layText_X3_readAll
set_option maxRecDepth 20000 in
theorem ggX8_layText_X5_takeFrom : GoodIn wsX8_layText wsX5_takeFrom := goodIn_r _ [73, 52, 53, 61, 62, 63, 60, 20, 21, 22, 74, 55, 75, 107, 108, 109, 110, 111, 112, 113, 114, 115] (by decide +kernel) (by decide +kernel)
set_option maxRecDepth 20000 in
theorem gX8_layText_X5_takeFrom_n270 : GoodIn wsX8_layText (wsX5_takeFrom) := ggX8_layText_X5_takeFrom
set_option maxRecDepth 20000 in
theorem ggX8_layText_X1_begin : GoodIn wsX8_layText wsX1_begin := goodIn_r _ [79, 80, 81, 82, 83, 74, 55, 75, 121, 122, 123, 124, 107, 108, 109, 110, 111, 112, 113, 114, 115] (by decide +kernel) (by decide +kernel)
set_option maxRecDepth 20000 in
theorem gX8_layText_X1_begin_n273 : GoodIn wsX8_layText (wsX1_begin) := ggX8_layText_X1_begin
set_option maxRecDepth 20000 in
theorem ggX8_layText_X2_clear : GoodIn wsX8_layText wsX2_clear := goodIn_r _ [87, 88, 125, 126] (by decide +kernel) (by decide +kernel)
set_option maxRecDepth 20000 in
theorem gX8_layText_X2_clear_n260 : GoodIn wsX8_layText (wsX2_clear) := ggX8_layText_X2_clear
set_option maxRecDepth 20000 in
theorem ggX8_layText_X0_clear : GoodIn wsX8_layText wsX0_clear := goodIn_r _ [92, 93, 127, 128, 129] (by decide +kernel) (by decide +kernel)
set_option maxRecDepth 20000 in
theorem gX8_layText_X0_clear_n228 : GoodIn wsX8_layText (wsX0_clear) := ggX8_layText_X0_clear
theorem dX8_layText_0 : decode cX8_layText 0 = .ok (.aload_n 0, 1) := by decide +kernel
theorem dX8_layText_1 : decode cX8_layText 1 = .ok (.getfield 28, 3) := by decide +kernel
theorem dX8_layText_4 : decode cX8_layText 4 = .ok (.invokevirtual 109, 3) := by decide +kernel
theorem dX8_layText_7 : decode cX8_layText 7 = .ok (.bipush (-4), 2) := by decide +kernel
theorem dX8_layText_9 : decode cX8_layText 9 = .ok (.if_icmp .ne 14, 3) := by decide +kernel
theorem dX8_layText_12 : decode cX8_layText 12 = .ok (.aload_n 0, 1) := by decide +kernel
theorem dX8_layText_13 : decode cX8_layText 13 = .ok (.getfield 19, 3) := by decide +kernel
theorem dX8_layText_16 : decode cX8_layText 16 = .ok (.getfield 112, 3) := by decide +kernel
theorem dX8_layText_19 : decode cX8_layText 19 = .ok (.iconst 1, 1) := by decide +kernel
theorem dX8_layText_20 : decode cX8_layText 20 = .ok (.if_icmp .ge 5, 3) := by decide +kernel
theorem dX8_layText_23 : decode cX8_layText 23 = .ok (.iconst 0, 1) := by decide +kernel
theorem dX8_layText_24 : decode cX8_layText 24 = .ok (.ireturn, 1) := by decide +kernel
theorem dX8_layText_25 : decode cX8_layText 25 = .ok (.aload_n 0, 1) := by decide +kernel
theorem dX8_layText_26 : decode cX8_layText 26 = .ok (.getfield 32, 3) := by decide +kernel
theorem dX8_layText_29 : decode cX8_layText 29 = .ok (.aload_n 0, 1) := by decide +kernel
theorem dX8_layText_30 : decode cX8_layText 30 = .ok (.getfield 19, 3) := by decide +kernel
theorem dX8_layText_33 : decode cX8_layText 33 = .ok (.invokevirtual 270, 3) := by decide +kernel
theorem dX8_layText_36 : decode cX8_layText 36 = .ok (.aload_n 0, 1) := by decide +kernel
theorem dX8_layText_37 : decode cX8_layText 37 = .ok (.getfield 40, 3) := by decide +kernel
theorem dX8_layText_40 : decode cX8_layText 40 = .ok (.invokevirtual 273, 3) := by decide +kernel
theorem dX8_layText_43 : decode cX8_layText 43 = .ok (.aload_n 0, 1) := by decide +kernel
theorem dX8_layText_44 : decode cX8_layText 44 = .ok (.getfield 52, 3) := by decide +kernel
theorem dX8_layText_47 : decode cX8_layText 47 = .ok (.invokevirtual 260, 3) := by decide +kernel
theorem dX8_layText_50 : decode cX8_layText 50 = .ok (.aload_n 0, 1) := by decide +kernel
theorem dX8_layText_51 : decode cX8_layText 51 = .ok (.getfield 56, 3) := by decide +kernel
theorem dX8_layText_54 : decode cX8_layText 54 = .ok (.invokevirtual 260, 3) := by decide +kernel
theorem dX8_layText_57 : decode cX8_layText 57 = .ok (.aload_n 0, 1) := by decide +kernel
theorem dX8_layText_58 : decode cX8_layText 58 = .ok (.getfield 62, 3) := by decide +kernel
theorem dX8_layText_61 : decode cX8_layText 61 = .ok (.invokevirtual 228, 3) := by decide +kernel
theorem dX8_layText_64 : decode cX8_layText 64 = .ok (.aload_n 0, 1) := by decide +kernel
theorem dX8_layText_65 : decode cX8_layText 65 = .ok (.iconst 0, 1) := by decide +kernel
theorem dX8_layText_66 : decode cX8_layText 66 = .ok (.putfield 221, 3) := by decide +kernel
theorem dX8_layText_69 : decode cX8_layText 69 = .ok (.iconst 1, 1) := by decide +kernel
theorem dX8_layText_70 : decode cX8_layText 70 = .ok (.ireturn, 1) := by decide +kernel
set_option maxRecDepth 20000 in
theorem ggX8_rememberForUndo_X1_packed : GoodIn wsX8_rememberForUndo wsX1_packed := goodIn_r _ [7, 8, 9, 10, 38, 39, 40, 41] (by decide +kernel) (by decide +kernel)
set_option maxRecDepth 20000 in
theorem gX8_rememberForUndo_X1_packed_n255 : GoodIn wsX8_rememberForUndo (wsX1_packed) := ggX8_rememberForUndo_X1_packed
set_option maxRecDepth 20000 in
theorem ggX8_rememberForUndo_X2_add : GoodIn wsX8_rememberForUndo wsX2_add := goodIn_r _ [14, 15, 16, 17, 18, 19, 12, 20, 21, 22, 23, 24, 42, 43] (by decide +kernel) (by decide +kernel)
set_option maxRecDepth 20000 in
theorem gX8_rememberForUndo_X2_add_n258 : GoodIn wsX8_rememberForUndo (wsX2_add) := ggX8_rememberForUndo_X2_add
theorem dX8_rememberForUndo_0 : decode cX8_rememberForUndo 0 = .ok (.aload_n 0, 1) := by decide +kernel
theorem dX8_rememberForUndo_1 : decode cX8_rememberForUndo 1 = .ok (.getfield 52, 3) := by decide +kernel
theorem dX8_rememberForUndo_4 : decode cX8_rememberForUndo 4 = .ok (.aload_n 0, 1) := by decide +kernel
theorem dX8_rememberForUndo_5 : decode cX8_rememberForUndo 5 = .ok (.getfield 40, 3) := by decide +kernel
theorem dX8_rememberForUndo_8 : decode cX8_rememberForUndo 8 = .ok (.invokevirtual 255, 3) := by decide +kernel
theorem dX8_rememberForUndo_11 : decode cX8_rememberForUndo 11 = .ok (.invokevirtual 258, 3) := by decide +kernel
theorem dX8_rememberForUndo_14 : decode cX8_rememberForUndo 14 = .ok (.aload_n 0, 1) := by decide +kernel
theorem dX8_rememberForUndo_15 : decode cX8_rememberForUndo 15 = .ok (.iconst 0, 1) := by decide +kernel
theorem dX8_rememberForUndo_16 : decode cX8_rememberForUndo 16 = .ok (.putfield 221, 3) := by decide +kernel
theorem dX8_rememberForUndo_19 : decode cX8_rememberForUndo 19 = .ok (.return_, 1) := by decide +kernel
set_option maxRecDepth 20000 in
theorem ggX8_restore_X1_unpack : GoodIn wsX8_restore wsX1_unpack := goodIn_r _ [6, 7, 8, 9, 10, 11, 4, 12, 26, 27, 28, 29] (by decide +kernel) (by decide +kernel)
set_option maxRecDepth 20000 in
theorem gX8_restore_X1_unpack_n276 : GoodIn wsX8_restore (wsX1_unpack) := ggX8_restore_X1_unpack
theorem dX8_restore_0 : decode cX8_restore 0 = .ok (.aload_n 0, 1) := by decide +kernel
theorem dX8_restore_1 : decode cX8_restore 1 = .ok (.getfield 40, 3) := by decide +kernel
theorem dX8_restore_4 : decode cX8_restore 4 = .ok (.lload_n 1, 1) := by decide +kernel
theorem dX8_restore_5 : decode cX8_restore 5 = .ok (.invokevirtual 276, 3) := by decide +kernel
theorem dX8_restore_8 : decode cX8_restore 8 = .ok (.aload_n 0, 1) := by decide +kernel
theorem dX8_restore_9 : decode cX8_restore 9 = .ok (.iconst 0, 1) := by decide +kernel
theorem dX8_restore_10 : decode cX8_restore 10 = .ok (.putfield 221, 3) := by decide +kernel
theorem dX8_restore_13 : decode cX8_restore 13 = .ok (.return_, 1) := by decide +kernel
set_option maxRecDepth 20000 in
theorem ggX8_surveyIfChanged_X6_goThrough : GoodIn wsX8_surveyIfChanged wsX6_goThrough := goodIn_r _ [8, 9, 10, 11, 12, 13, 6, 14, 15, 16, 17, 18, 19, 20, 21, 22, 23, 24, 25, 26, 27, 28, 29, 30, 31, 32, 33, 34, 35, 36, 37, 38, 39, 40, 41, 42, 43, 44, 45, 46, 47, 48, 49, 50, 51, 52, 53, 54, 55, 56, 57, 58, 59, 60, 61, 62, 63, 64, 65, 66, 67, 68, 69, 70, 71, 72, 73, 74, 75, 76, 77, 78, 79, 80, 81, 82, 83, 84, 85, 86, 87, 88, 89, 90, 91, 92, 93, 94, 95, 96, 97, 98, 99, 100, 101, 102, 103, 104, 105, 106, 107, 108, 109, 110, 111, 112, 113, 127, 128, 129, 130, 131, 132, 133, 134, 135, 136, 137, 138, 139, 140, 141, 142, 143, 144, 145, 146, 147, 148, 149, 150, 151, 152, 153, 154, 155, 156, 157, 158, 159, 160, 161] (by decide +kernel) (by decide +kernel)
set_option maxRecDepth 20000 in
theorem gX8_surveyIfChanged_X6_goThrough_n279 : GoodIn wsX8_surveyIfChanged (wsX6_goThrough) := ggX8_surveyIfChanged_X6_goThrough
theorem dX8_surveyIfChanged_0 : decode cX8_surveyIfChanged 0 = .ok (.aload_n 0, 1) := by decide +kernel
theorem dX8_surveyIfChanged_1 : decode cX8_surveyIfChanged 1 = .ok (.getfield 221, 3) := by decide +kernel
theorem dX8_surveyIfChanged_4 : decode cX8_surveyIfChanged 4 = .ok (.ifCond .ne 23, 3) := by decide +kernel
theorem dX8_surveyIfChanged_7 : decode cX8_surveyIfChanged 7 = .ok (.aload_n 0, 1) := by decide +kernel
theorem dX8_surveyIfChanged_8 : decode cX8_surveyIfChanged 8 = .ok (.getfield 69, 3) := by decide +kernel
theorem dX8_surveyIfChanged_11 : decode cX8_surveyIfChanged 11 = .ok (.aload_n 0, 1) := by decide +kernel
theorem dX8_surveyIfChanged_12 : decode cX8_surveyIfChanged 12 = .ok (.getfield 40, 3) := by decide +kernel
theorem dX8_surveyIfChanged_15 : decode cX8_surveyIfChanged 15 = .ok (.aload_n 0, 1) := by decide +kernel
theorem dX8_surveyIfChanged_16 : decode cX8_surveyIfChanged 16 = .ok (.getfield 62, 3) := by decide +kernel
theorem dX8_surveyIfChanged_19 : decode cX8_surveyIfChanged 19 = .ok (.invokevirtual 279, 3) := by decide +kernel
theorem dX8_surveyIfChanged_22 : decode cX8_surveyIfChanged 22 = .ok (.aload_n 0, 1) := by decide +kernel
theorem dX8_surveyIfChanged_23 : decode cX8_surveyIfChanged 23 = .ok (.iconst 1, 1) := by decide +kernel
theorem dX8_surveyIfChanged_24 : decode cX8_surveyIfChanged 24 = .ok (.putfield 221, 3) := by decide +kernel
theorem dX8_surveyIfChanged_27 : decode cX8_surveyIfChanged 27 = .ok (.return_, 1) := by decide +kernel
set_option maxRecDepth 20000 in
theorem ggX8_guestOfGoodRound_J6_bitCount_0f7a4 : GoodIn wsX8_guestOfGoodRound wsJ6_bitCount_0f7a4 := goodIn_r _ [6, 7, 8, 9] (by decide +kernel) (by decide +kernel)
set_option maxRecDepth 20000 in
theorem gX8_guestOfGoodRound_J6_bitCount_0f7a4 : GoodIn wsX8_guestOfGoodRound (va_wsS RX8 165 yJ6_bitCount_0f7a4 wsJ6_bitCount_0f7a4) := goodIn_app (goodIn_of _ (by decide +kernel)) ggX8_guestOfGoodRound_J6_bitCount_0f7a4
set_option maxRecDepth 20000 in
theorem ggX8_guestOfGoodRound_X8_at : GoodIn wsX8_guestOfGoodRound wsX8_at := goodIn_r _ [13] (by decide +kernel) (by decide +kernel)
set_option maxRecDepth 20000 in
theorem gX8_guestOfGoodRound_X8_at : GoodIn wsX8_guestOfGoodRound (va_wsS RX8 122 yX8_at wsX8_at) := goodIn_app (goodIn_of _ (by decide +kernel)) ggX8_guestOfGoodRound_X8_at
theorem dX8_guestOfGoodRound_0 : decode cX8_guestOfGoodRound 0 = .ok (.aload_n 0, 1) := by decide +kernel
theorem dX8_guestOfGoodRound_1 : decode cX8_guestOfGoodRound 1 = .ok (.getfield 69, 3) := by decide +kernel
theorem dX8_guestOfGoodRound_4 : decode cX8_guestOfGoodRound 4 = .ok (.getfield 184, 3) := by decide +kernel
theorem dX8_guestOfGoodRound_7 : decode cX8_guestOfGoodRound 7 = .ok (.ifCond .le 21, 3) := by decide +kernel
theorem dX8_guestOfGoodRound_10 : decode cX8_guestOfGoodRound 10 = .ok (.iload_n 2, 1) := by decide +kernel
theorem dX8_guestOfGoodRound_11 : decode cX8_guestOfGoodRound 11 = .ok (.aload_n 0, 1) := by decide +kernel
theorem dX8_guestOfGoodRound_12 : decode cX8_guestOfGoodRound 12 = .ok (.getfield 40, 3) := by decide +kernel
theorem dX8_guestOfGoodRound_15 : decode cX8_guestOfGoodRound 15 = .ok (.getfield 129, 3) := by decide +kernel
theorem dX8_guestOfGoodRound_18 : decode cX8_guestOfGoodRound 18 = .ok (.invokestatic 165, 3) := by decide +kernel
theorem dX8_guestOfGoodRound_21 : decode cX8_guestOfGoodRound 21 = .ok (.if_icmp .gt 7, 3) := by decide +kernel
theorem dX8_guestOfGoodRound_24 : decode cX8_guestOfGoodRound 24 = .ok (.iconst 1, 1) := by decide +kernel
theorem dX8_guestOfGoodRound_25 : decode cX8_guestOfGoodRound 25 = .ok (.goto 4, 3) := by decide +kernel
theorem dX8_guestOfGoodRound_28 : decode cX8_guestOfGoodRound 28 = .ok (.iconst 0, 1) := by decide +kernel
theorem dX8_guestOfGoodRound_29 : decode cX8_guestOfGoodRound 29 = .ok (.istore_n 3, 1) := by decide +kernel
theorem dX8_guestOfGoodRound_30 : decode cX8_guestOfGoodRound 30 = .ok (.iload_n 3, 1) := by decide +kernel
theorem dX8_guestOfGoodRound_31 : decode cX8_guestOfGoodRound 31 = .ok (.ifCond .eq 13, 3) := by decide +kernel
theorem dX8_guestOfGoodRound_34 : decode cX8_guestOfGoodRound 34 = .ok (.aload_n 1, 1) := by decide +kernel
theorem dX8_guestOfGoodRound_35 : decode cX8_guestOfGoodRound 35 = .ok (.iload_n 2, 1) := by decide +kernel
theorem dX8_guestOfGoodRound_36 : decode cX8_guestOfGoodRound 36 = .ok (.iconst 1, 1) := by decide +kernel
theorem dX8_guestOfGoodRound_37 : decode cX8_guestOfGoodRound 37 = .ok (.isub, 1) := by decide +kernel
theorem dX8_guestOfGoodRound_38 : decode cX8_guestOfGoodRound 38 = .ok (.invokestatic 122, 3) := by decide +kernel
theorem dX8_guestOfGoodRound_41 : decode cX8_guestOfGoodRound 41 = .ok (.goto 5, 3) := by decide +kernel
theorem dX8_guestOfGoodRound_44 : decode cX8_guestOfGoodRound 44 = .ok (.bipush (-4), 2) := by decide +kernel
theorem dX8_guestOfGoodRound_46 : decode cX8_guestOfGoodRound 46 = .ok (.ireturn, 1) := by decide +kernel
set_option maxRecDepth 20000 in
theorem ggX8_othersHungOnBy_X8_has : GoodIn wsX8_othersHungOnBy wsX8_has := goodIn_r _ [6] (by decide +kernel) (by decide +kernel)
set_option maxRecDepth 20000 in
theorem gX8_othersHungOnBy_X8_has : GoodIn wsX8_othersHungOnBy (va_wsS RX8 132 yX8_has wsX8_has) := goodIn_app (goodIn_of _ (by decide +kernel)) ggX8_othersHungOnBy_X8_has
set_option maxRecDepth 20000 in
theorem ggX8_othersHungOnBy_X1_hangingOn : GoodIn wsX8_othersHungOnBy wsX1_hangingOn := goodIn_r _ [10, 11, 12, 13, 14, 8, 15, 16, 5, 17, 18, 19, 20, 21, 22, 23, 24, 25, 26, 4, 6, 49, 50, 51, 52, 40, 41, 42, 43, 44, 45, 46, 47, 48] (by decide +kernel) (by decide +kernel)
set_option maxRecDepth 20000 in
theorem gX8_othersHungOnBy_X1_hangingOn_n214 : GoodIn wsX8_othersHungOnBy (wsX1_hangingOn) := ggX8_othersHungOnBy_X1_hangingOn
theorem dX8_othersHungOnBy_0 : decode cX8_othersHungOnBy 0 = .ok (.iconst 0, 1) := by decide +kernel
theorem dX8_othersHungOnBy_1 : decode cX8_othersHungOnBy 1 = .ok (.istore_n 2, 1) := by decide +kernel
theorem dX8_othersHungOnBy_2 : decode cX8_othersHungOnBy 2 = .ok (.iconst 0, 1) := by decide +kernel
theorem dX8_othersHungOnBy_3 : decode cX8_othersHungOnBy 3 = .ok (.istore_n 3, 1) := by decide +kernel
theorem dX8_othersHungOnBy_4 : decode cX8_othersHungOnBy 4 = .ok (.iload_n 3, 1) := by decide +kernel
theorem dX8_othersHungOnBy_5 : decode cX8_othersHungOnBy 5 = .ok (.aload_n 0, 1) := by decide +kernel
theorem dX8_othersHungOnBy_6 : decode cX8_othersHungOnBy 6 = .ok (.getfield 32, 3) := by decide +kernel
theorem dX8_othersHungOnBy_9 : decode cX8_othersHungOnBy 9 = .ok (.getfield 112, 3) := by decide +kernel
theorem dX8_othersHungOnBy_12 : decode cX8_othersHungOnBy 12 = .ok (.if_icmp .ge 41, 3) := by decide +kernel
theorem dX8_othersHungOnBy_15 : decode cX8_othersHungOnBy 15 = .ok (.aload_n 0, 1) := by decide +kernel
theorem dX8_othersHungOnBy_16 : decode cX8_othersHungOnBy 16 = .ok (.getfield 40, 3) := by decide +kernel
theorem dX8_othersHungOnBy_19 : decode cX8_othersHungOnBy 19 = .ok (.getfield 129, 3) := by decide +kernel
theorem dX8_othersHungOnBy_22 : decode cX8_othersHungOnBy 22 = .ok (.iload_n 3, 1) := by decide +kernel
theorem dX8_othersHungOnBy_23 : decode cX8_othersHungOnBy 23 = .ok (.invokestatic 132, 3) := by decide +kernel
theorem dX8_othersHungOnBy_26 : decode cX8_othersHungOnBy 26 = .ok (.ifCond .eq 21, 3) := by decide +kernel
theorem dX8_othersHungOnBy_29 : decode cX8_othersHungOnBy 29 = .ok (.aload_n 0, 1) := by decide +kernel
theorem dX8_othersHungOnBy_30 : decode cX8_othersHungOnBy 30 = .ok (.getfield 40, 3) := by decide +kernel
theorem dX8_othersHungOnBy_33 : decode cX8_othersHungOnBy 33 = .ok (.iload_n 3, 1) := by decide +kernel
theorem dX8_othersHungOnBy_34 : decode cX8_othersHungOnBy 34 = .ok (.invokevirtual 214, 3) := by decide +kernel
theorem dX8_othersHungOnBy_37 : decode cX8_othersHungOnBy 37 = .ok (.iload_n 1, 1) := by decide +kernel
theorem dX8_othersHungOnBy_38 : decode cX8_othersHungOnBy 38 = .ok (.invokestatic 132, 3) := by decide +kernel
theorem dX8_othersHungOnBy_41 : decode cX8_othersHungOnBy 41 = .ok (.ifCond .eq 6, 3) := by decide +kernel
theorem dX8_othersHungOnBy_44 : decode cX8_othersHungOnBy 44 = .ok (.iinc 2 1, 3) := by decide +kernel
theorem dX8_othersHungOnBy_47 : decode cX8_othersHungOnBy 47 = .ok (.iinc 3 1, 3) := by decide +kernel
theorem dX8_othersHungOnBy_50 : decode cX8_othersHungOnBy 50 = .ok (.goto (-46), 3) := by decide +kernel
theorem dX8_othersHungOnBy_53 : decode cX8_othersHungOnBy 53 = .ok (.iload_n 2, 1) := by decide +kernel
theorem dX8_othersHungOnBy_54 : decode cX8_othersHungOnBy 54 = .ok (.ireturn, 1) := by decide +kernel
set_option maxRecDepth 20000 in
theorem ggX8_reckonEndsWithout_X1_packed : GoodIn wsX8_reckonEndsWithout wsX1_packed := goodIn_r _ [10, 11, 12, 13, 146, 147, 148, 149] (by decide +kernel) (by decide +kernel)
set_option maxRecDepth 20000 in
theorem gX8_reckonEndsWithout_X1_packed_n255 : GoodIn wsX8_reckonEndsWithout (wsX1_packed) := ggX8_reckonEndsWithout_X1_packed
set_option maxRecDepth 20000 in
theorem ggX8_reckonEndsWithout_X1_unpack : GoodIn wsX8_reckonEndsWithout wsX1_unpack := goodIn_r _ [16, 13, 12, 11, 17, 18, 8, 19, 146, 147, 148, 149] (by decide +kernel) (by decide +kernel)
set_option maxRecDepth 20000 in
theorem gX8_reckonEndsWithout_X1_unpack_n276 : GoodIn wsX8_reckonEndsWithout (wsX1_unpack) := ggX8_reckonEndsWithout_X1_unpack
set_option maxRecDepth 20000 in
theorem ggX8_reckonEndsWithout_X5_isGuest : GoodIn wsX8_reckonEndsWithout wsX5_isGuest := goodIn_r _ [23, 24, 150, 151, 152, 153, 154, 155, 156, 157, 158] (by decide +kernel) (by decide +kernel)
set_option maxRecDepth 20000 in
theorem gX8_reckonEndsWithout_X5_isGuest_n115 : GoodIn wsX8_reckonEndsWithout (wsX5_isGuest) := ggX8_reckonEndsWithout_X5_isGuest
set_option maxRecDepth 20000 in
theorem ggX8_reckonEndsWithout_X6_goThrough : GoodIn wsX8_reckonEndsWithout wsX6_goThrough := goodIn_r _ [28, 29, 30, 31, 32, 33, 26, 34, 35, 36, 37, 38, 39, 40, 41, 42, 43, 44, 8, 45, 46, 47, 48, 49, 50, 51, 13, 12, 52, 53, 54, 55, 56, 57, 58, 59, 60, 61, 62, 63, 64, 65, 66, 67, 68, 69, 70, 71, 72, 73, 74, 75, 76, 11, 77, 78, 79, 80, 81, 82, 83, 84, 85, 86, 87, 88, 89, 90, 91, 92, 93, 94, 95, 96, 97, 98, 99, 100, 101, 102, 103, 104, 105, 106, 107, 108, 109, 110, 111, 112, 113, 114, 115, 116, 117, 118, 119, 120, 121, 122, 123, 124, 125, 126, 127, 128, 129, 159, 160, 161, 162, 163, 164, 165, 166, 167, 168, 169, 170, 146, 147, 148, 149, 150, 151, 152, 153, 154, 155, 156, 157, 158, 171, 172, 173, 174, 175, 176, 177, 178, 179, 180] (by decide +kernel) (by decide +kernel)
set_option maxRecDepth 20000 in
theorem gX8_reckonEndsWithout_X6_goThrough_n279 : GoodIn wsX8_reckonEndsWithout (wsX6_goThrough) := ggX8_reckonEndsWithout_X6_goThrough
set_option maxRecDepth 20000 in
theorem ggX8_reckonEndsWithout_X6_endOrNone : GoodIn wsX8_reckonEndsWithout wsX6_endOrNone := goodIn_r _ [132, 38, 113, 159, 160, 161, 162, 163, 164, 165, 166, 167, 168, 169, 170] (by decide +kernel) (by decide +kernel)
set_option maxRecDepth 20000 in
theorem gX8_reckonEndsWithout_X6_endOrNone_n193 : GoodIn wsX8_reckonEndsWithout (wsX6_endOrNone) := ggX8_reckonEndsWithout_X6_endOrNone
theorem dX8_reckonEndsWithout_0 : decode cX8_reckonEndsWithout 0 = .ok (.iconst 0, 1) := by decide +kernel
theorem dX8_reckonEndsWithout_1 : decode cX8_reckonEndsWithout 1 = .ok (.istore_n 1, 1) := by decide +kernel
theorem dX8_reckonEndsWithout_2 : decode cX8_reckonEndsWithout 2 = .ok (.iload_n 1, 1) := by decide +kernel
theorem dX8_reckonEndsWithout_3 : decode cX8_reckonEndsWithout 3 = .ok (.aload_n 0, 1) := by decide +kernel
theorem dX8_reckonEndsWithout_4 : decode cX8_reckonEndsWithout 4 = .ok (.getfield 76, 3) := by decide +kernel
theorem dX8_reckonEndsWithout_7 : decode cX8_reckonEndsWithout 7 = .ok (.arraylength, 1) := by decide +kernel
theorem dX8_reckonEndsWithout_8 : decode cX8_reckonEndsWithout 8 = .ok (.if_icmp .ge 87, 3) := by decide +kernel
theorem dX8_reckonEndsWithout_11 : decode cX8_reckonEndsWithout 11 = .ok (.aload_n 0, 1) := by decide +kernel
theorem dX8_reckonEndsWithout_12 : decode cX8_reckonEndsWithout 12 = .ok (.getfield 44, 3) := by decide +kernel
theorem dX8_reckonEndsWithout_15 : decode cX8_reckonEndsWithout 15 = .ok (.aload_n 0, 1) := by decide +kernel
theorem dX8_reckonEndsWithout_16 : decode cX8_reckonEndsWithout 16 = .ok (.getfield 40, 3) := by decide +kernel
theorem dX8_reckonEndsWithout_19 : decode cX8_reckonEndsWithout 19 = .ok (.invokevirtual 255, 3) := by decide +kernel
theorem dX8_reckonEndsWithout_22 : decode cX8_reckonEndsWithout 22 = .ok (.invokevirtual 276, 3) := by decide +kernel
theorem dX8_reckonEndsWithout_25 : decode cX8_reckonEndsWithout 25 = .ok (.aload_n 0, 1) := by decide +kernel
theorem dX8_reckonEndsWithout_26 : decode cX8_reckonEndsWithout 26 = .ok (.getfield 44, 3) := by decide +kernel
theorem dX8_reckonEndsWithout_29 : decode cX8_reckonEndsWithout 29 = .ok (.dup, 1) := by decide +kernel
theorem dX8_reckonEndsWithout_30 : decode cX8_reckonEndsWithout 30 = .ok (.getfield 129, 3) := by decide +kernel
theorem dX8_reckonEndsWithout_33 : decode cX8_reckonEndsWithout 33 = .ok (.iconst 1, 1) := by decide +kernel
theorem dX8_reckonEndsWithout_34 : decode cX8_reckonEndsWithout 34 = .ok (.iload_n 1, 1) := by decide +kernel
theorem dX8_reckonEndsWithout_35 : decode cX8_reckonEndsWithout 35 = .ok (.ishl, 1) := by decide +kernel
theorem dX8_reckonEndsWithout_36 : decode cX8_reckonEndsWithout 36 = .ok (.iconst (-1), 1) := by decide +kernel
theorem dX8_reckonEndsWithout_37 : decode cX8_reckonEndsWithout 37 = .ok (.ixor, 1) := by decide +kernel
theorem dX8_reckonEndsWithout_38 : decode cX8_reckonEndsWithout 38 = .ok (.iand, 1) := by decide +kernel
theorem dX8_reckonEndsWithout_39 : decode cX8_reckonEndsWithout 39 = .ok (.putfield 129, 3) := by decide +kernel
theorem dX8_reckonEndsWithout_42 : decode cX8_reckonEndsWithout 42 = .ok (.aload_n 0, 1) := by decide +kernel
theorem dX8_reckonEndsWithout_43 : decode cX8_reckonEndsWithout 43 = .ok (.getfield 76, 3) := by decide +kernel
theorem dX8_reckonEndsWithout_46 : decode cX8_reckonEndsWithout 46 = .ok (.iload_n 1, 1) := by decide +kernel
theorem dX8_reckonEndsWithout_47 : decode cX8_reckonEndsWithout 47 = .ok (.bipush (-4), 2) := by decide +kernel
theorem dX8_reckonEndsWithout_49 : decode cX8_reckonEndsWithout 49 = .ok (.iastore, 1) := by decide +kernel
theorem dX8_reckonEndsWithout_50 : decode cX8_reckonEndsWithout 50 = .ok (.aload_n 0, 1) := by decide +kernel
theorem dX8_reckonEndsWithout_51 : decode cX8_reckonEndsWithout 51 = .ok (.getfield 32, 3) := by decide +kernel
theorem dX8_reckonEndsWithout_54 : decode cX8_reckonEndsWithout 54 = .ok (.iload_n 1, 1) := by decide +kernel
theorem dX8_reckonEndsWithout_55 : decode cX8_reckonEndsWithout 55 = .ok (.invokevirtual 115, 3) := by decide +kernel
theorem dX8_reckonEndsWithout_58 : decode cX8_reckonEndsWithout 58 = .ok (.ifCond .eq 31, 3) := by decide +kernel
theorem dX8_reckonEndsWithout_61 : decode cX8_reckonEndsWithout 61 = .ok (.aload_n 0, 1) := by decide +kernel
theorem dX8_reckonEndsWithout_62 : decode cX8_reckonEndsWithout 62 = .ok (.getfield 73, 3) := by decide +kernel
theorem dX8_reckonEndsWithout_65 : decode cX8_reckonEndsWithout 65 = .ok (.aload_n 0, 1) := by decide +kernel
theorem dX8_reckonEndsWithout_66 : decode cX8_reckonEndsWithout 66 = .ok (.getfield 44, 3) := by decide +kernel
theorem dX8_reckonEndsWithout_69 : decode cX8_reckonEndsWithout 69 = .ok (.aload_n 0, 1) := by decide +kernel
theorem dX8_reckonEndsWithout_70 : decode cX8_reckonEndsWithout 70 = .ok (.getfield 62, 3) := by decide +kernel
theorem dX8_reckonEndsWithout_73 : decode cX8_reckonEndsWithout 73 = .ok (.invokevirtual 279, 3) := by decide +kernel
theorem dX8_reckonEndsWithout_76 : decode cX8_reckonEndsWithout 76 = .ok (.aload_n 0, 1) := by decide +kernel
theorem dX8_reckonEndsWithout_77 : decode cX8_reckonEndsWithout 77 = .ok (.getfield 76, 3) := by decide +kernel
theorem dX8_reckonEndsWithout_80 : decode cX8_reckonEndsWithout 80 = .ok (.iload_n 1, 1) := by decide +kernel
theorem dX8_reckonEndsWithout_81 : decode cX8_reckonEndsWithout 81 = .ok (.aload_n 0, 1) := by decide +kernel
theorem dX8_reckonEndsWithout_82 : decode cX8_reckonEndsWithout 82 = .ok (.getfield 73, 3) := by decide +kernel
theorem dX8_reckonEndsWithout_85 : decode cX8_reckonEndsWithout 85 = .ok (.invokevirtual 193, 3) := by decide +kernel
theorem dX8_reckonEndsWithout_88 : decode cX8_reckonEndsWithout 88 = .ok (.iastore, 1) := by decide +kernel
theorem dX8_reckonEndsWithout_89 : decode cX8_reckonEndsWithout 89 = .ok (.iinc 1 1, 3) := by decide +kernel
theorem dX8_reckonEndsWithout_92 : decode cX8_reckonEndsWithout 92 = .ok (.goto (-90), 3) := by decide +kernel
theorem dX8_reckonEndsWithout_95 : decode cX8_reckonEndsWithout 95 = .ok (.return_, 1) := by decide +kernel
theorem dX8_drawnGuest_0 : decode cX8_drawnGuest 0 = .ok (.aload_n 0, 1) := by decide +kernel
theorem dX8_drawnGuest_1 : decode cX8_drawnGuest 1 = .ok (.getfield 32, 3) := by decide +kernel
theorem dX8_drawnGuest_4 : decode cX8_drawnGuest 4 = .ok (.getfield 112, 3) := by decide +kernel
theorem dX8_drawnGuest_7 : decode cX8_drawnGuest 7 = .ok (.iconst 1, 1) := by decide +kernel
theorem dX8_drawnGuest_8 : decode cX8_drawnGuest 8 = .ok (.if_icmp .ge 5, 3) := by decide +kernel
theorem dX8_drawnGuest_11 : decode cX8_drawnGuest 11 = .ok (.iconst 0, 1) := by decide +kernel
theorem dX8_drawnGuest_12 : decode cX8_drawnGuest 12 = .ok (.ireturn, 1) := by decide +kernel
theorem dX8_drawnGuest_13 : decode cX8_drawnGuest 13 = .ok (.ldc2_w 283, 3) := by decide +kernel
theorem dX8_drawnGuest_16 : decode cX8_drawnGuest 16 = .ok (.iload_n 1, 1) := by decide +kernel
theorem dX8_drawnGuest_17 : decode cX8_drawnGuest 17 = .ok (.i2l, 1) := by decide +kernel
theorem dX8_drawnGuest_18 : decode cX8_drawnGuest 18 = .ok (.lmul, 1) := by decide +kernel
theorem dX8_drawnGuest_19 : decode cX8_drawnGuest 19 = .ok (.ldc2_w 285, 3) := by decide +kernel
theorem dX8_drawnGuest_22 : decode cX8_drawnGuest 22 = .ok (.iload_n 2, 1) := by decide +kernel
theorem dX8_drawnGuest_23 : decode cX8_drawnGuest 23 = .ok (.i2l, 1) := by decide +kernel
theorem dX8_drawnGuest_24 : decode cX8_drawnGuest 24 = .ok (.lmul, 1) := by decide +kernel
theorem dX8_drawnGuest_25 : decode cX8_drawnGuest 25 = .ok (.ladd, 1) := by decide +kernel
theorem dX8_drawnGuest_26 : decode cX8_drawnGuest 26 = .ok (.lconst 1, 1) := by decide +kernel
theorem dX8_drawnGuest_27 : decode cX8_drawnGuest 27 = .ok (.ladd, 1) := by decide +kernel
theorem dX8_drawnGuest_28 : decode cX8_drawnGuest 28 = .ok (.lstore_n 3, 1) := by decide +kernel
theorem dX8_drawnGuest_29 : decode cX8_drawnGuest 29 = .ok (.lload_n 3, 1) := by decide +kernel
theorem dX8_drawnGuest_30 : decode cX8_drawnGuest 30 = .ok (.lload_n 3, 1) := by decide +kernel
theorem dX8_drawnGuest_31 : decode cX8_drawnGuest 31 = .ok (.lmul, 1) := by decide +kernel
theorem dX8_drawnGuest_32 : decode cX8_drawnGuest 32 = .ok (.ldc2_w 287, 3) := by decide +kernel
theorem dX8_drawnGuest_35 : decode cX8_drawnGuest 35 = .ok (.lrem, 1) := by decide +kernel
theorem dX8_drawnGuest_36 : decode cX8_drawnGuest 36 = .ok (.ldc2_w 289, 3) := by decide +kernel
theorem dX8_drawnGuest_39 : decode cX8_drawnGuest 39 = .ok (.ldiv, 1) := by decide +kernel
theorem dX8_drawnGuest_40 : decode cX8_drawnGuest 40 = .ok (.lstore 5, 2) := by decide +kernel
theorem dX8_drawnGuest_42 : decode cX8_drawnGuest 42 = .ok (.lload 5, 2) := by decide +kernel
theorem dX8_drawnGuest_44 : decode cX8_drawnGuest 44 = .ok (.aload_n 0, 1) := by decide +kernel
theorem dX8_drawnGuest_45 : decode cX8_drawnGuest 45 = .ok (.getfield 32, 3) := by decide +kernel
theorem dX8_drawnGuest_48 : decode cX8_drawnGuest 48 = .ok (.getfield 112, 3) := by decide +kernel
theorem dX8_drawnGuest_51 : decode cX8_drawnGuest 51 = .ok (.i2l, 1) := by decide +kernel
theorem dX8_drawnGuest_52 : decode cX8_drawnGuest 52 = .ok (.lrem, 1) := by decide +kernel
theorem dX8_drawnGuest_53 : decode cX8_drawnGuest 53 = .ok (.l2i, 1) := by decide +kernel
theorem dX8_drawnGuest_54 : decode cX8_drawnGuest 54 = .ok (.ireturn, 1) := by decide +kernel
theorem dX8_power_0 : decode cX8_power 0 = .ok (.iconst 1, 1) := by decide +kernel
theorem dX8_power_1 : decode cX8_power 1 = .ok (.istore_n 2, 1) := by decide +kernel
theorem dX8_power_2 : decode cX8_power 2 = .ok (.iconst 0, 1) := by decide +kernel
theorem dX8_power_3 : decode cX8_power 3 = .ok (.istore_n 3, 1) := by decide +kernel
theorem dX8_power_4 : decode cX8_power 4 = .ok (.iload_n 3, 1) := by decide +kernel
theorem dX8_power_5 : decode cX8_power 5 = .ok (.iload_n 1, 1) := by decide +kernel
theorem dX8_power_6 : decode cX8_power 6 = .ok (.if_icmp .ge 13, 3) := by decide +kernel
theorem dX8_power_9 : decode cX8_power 9 = .ok (.iload_n 2, 1) := by decide +kernel
theorem dX8_power_10 : decode cX8_power 10 = .ok (.iload_n 0, 1) := by decide +kernel
theorem dX8_power_11 : decode cX8_power 11 = .ok (.imul, 1) := by decide +kernel
theorem dX8_power_12 : decode cX8_power 12 = .ok (.istore_n 2, 1) := by decide +kernel
theorem dX8_power_13 : decode cX8_power 13 = .ok (.iinc 3 1, 3) := by decide +kernel
theorem dX8_power_16 : decode cX8_power 16 = .ok (.goto (-12), 3) := by decide +kernel
theorem dX8_power_19 : decode cX8_power 19 = .ok (.iload_n 2, 1) := by decide +kernel
theorem dX8_power_20 : decode cX8_power 20 = .ok (.ireturn, 1) := by decide +kernel
theorem dX8_at_0 : decode cX8_at 0 = .ok (.iload_n 1, 1) := by decide +kernel
theorem dX8_at_1 : decode cX8_at 1 = .ok (.ifCond .lt 15, 3) := by decide +kernel
theorem dX8_at_4 : decode cX8_at 4 = .ok (.iload_n 1, 1) := by decide +kernel
theorem dX8_at_5 : decode cX8_at 5 = .ok (.aload_n 0, 1) := by decide +kernel
theorem dX8_at_6 : decode cX8_at 6 = .ok (.arraylength, 1) := by decide +kernel
theorem dX8_at_7 : decode cX8_at 7 = .ok (.if_icmp .ge 9, 3) := by decide +kernel
theorem dX8_at_10 : decode cX8_at 10 = .ok (.aload_n 0, 1) := by decide +kernel
theorem dX8_at_11 : decode cX8_at 11 = .ok (.iload_n 1, 1) := by decide +kernel
theorem dX8_at_12 : decode cX8_at 12 = .ok (.iaload, 1) := by decide +kernel
theorem dX8_at_13 : decode cX8_at 13 = .ok (.goto 4, 3) := by decide +kernel
theorem dX8_at_16 : decode cX8_at 16 = .ok (.iconst 0, 1) := by decide +kernel
theorem dX8_at_17 : decode cX8_at 17 = .ok (.ireturn, 1) := by decide +kernel
theorem dX8_put_0 : decode cX8_put 0 = .ok (.iload_n 1, 1) := by decide +kernel
theorem dX8_put_1 : decode cX8_put 1 = .ok (.ifCond .lt 13, 3) := by decide +kernel
theorem dX8_put_4 : decode cX8_put 4 = .ok (.iload_n 1, 1) := by decide +kernel
theorem dX8_put_5 : decode cX8_put 5 = .ok (.aload_n 0, 1) := by decide +kernel
theorem dX8_put_6 : decode cX8_put 6 = .ok (.arraylength, 1) := by decide +kernel
theorem dX8_put_7 : decode cX8_put 7 = .ok (.if_icmp .ge 7, 3) := by decide +kernel
theorem dX8_put_10 : decode cX8_put 10 = .ok (.aload_n 0, 1) := by decide +kernel
theorem dX8_put_11 : decode cX8_put 11 = .ok (.iload_n 1, 1) := by decide +kernel
theorem dX8_put_12 : decode cX8_put 12 = .ok (.iload_n 2, 1) := by decide +kernel
theorem dX8_put_13 : decode cX8_put 13 = .ok (.iastore, 1) := by decide +kernel
theorem dX8_put_14 : decode cX8_put 14 = .ok (.return_, 1) := by decide +kernel
theorem dX8_copy_0 : decode cX8_copy 0 = .ok (.iconst 0, 1) := by decide +kernel
theorem dX8_copy_1 : decode cX8_copy 1 = .ok (.istore_n 2, 1) := by decide +kernel
theorem dX8_copy_2 : decode cX8_copy 2 = .ok (.iload_n 2, 1) := by decide +kernel
theorem dX8_copy_3 : decode cX8_copy 3 = .ok (.aload_n 0, 1) := by decide +kernel
theorem dX8_copy_4 : decode cX8_copy 4 = .ok (.arraylength, 1) := by decide +kernel
theorem dX8_copy_5 : decode cX8_copy 5 = .ok (.if_icmp .ge 21, 3) := by decide +kernel
theorem dX8_copy_8 : decode cX8_copy 8 = .ok (.iload_n 2, 1) := by decide +kernel
theorem dX8_copy_9 : decode cX8_copy 9 = .ok (.aload_n 1, 1) := by decide +kernel
theorem dX8_copy_10 : decode cX8_copy 10 = .ok (.arraylength, 1) := by decide +kernel
theorem dX8_copy_11 : decode cX8_copy 11 = .ok (.if_icmp .ge 15, 3) := by decide +kernel
theorem dX8_copy_14 : decode cX8_copy 14 = .ok (.aload_n 1, 1) := by decide +kernel
theorem dX8_copy_15 : decode cX8_copy 15 = .ok (.iload_n 2, 1) := by decide +kernel
theorem dX8_copy_16 : decode cX8_copy 16 = .ok (.aload_n 0, 1) := by decide +kernel
theorem dX8_copy_17 : decode cX8_copy 17 = .ok (.iload_n 2, 1) := by decide +kernel
theorem dX8_copy_18 : decode cX8_copy 18 = .ok (.iaload, 1) := by decide +kernel
theorem dX8_copy_19 : decode cX8_copy 19 = .ok (.iastore, 1) := by decide +kernel
theorem dX8_copy_20 : decode cX8_copy 20 = .ok (.iinc 2 1, 3) := by decide +kernel
theorem dX8_copy_23 : decode cX8_copy 23 = .ok (.goto (-21), 3) := by decide +kernel
theorem dX8_copy_26 : decode cX8_copy 26 = .ok (.return_, 1) := by decide +kernel
theorem dX8_has_0 : decode cX8_has 0 = .ok (.iload_n 0, 1) := by decide +kernel
theorem dX8_has_1 : decode cX8_has 1 = .ok (.iload_n 1, 1) := by decide +kernel
theorem dX8_has_2 : decode cX8_has 2 = .ok (.ishr, 1) := by decide +kernel
theorem dX8_has_3 : decode cX8_has 3 = .ok (.iconst 1, 1) := by decide +kernel
theorem dX8_has_4 : decode cX8_has 4 = .ok (.iand, 1) := by decide +kernel
theorem dX8_has_5 : decode cX8_has 5 = .ok (.iconst 1, 1) := by decide +kernel
theorem dX8_has_6 : decode cX8_has 6 = .ok (.if_icmp .ne 7, 3) := by decide +kernel
theorem dX8_has_9 : decode cX8_has 9 = .ok (.iconst 1, 1) := by decide +kernel
theorem dX8_has_10 : decode cX8_has 10 = .ok (.goto 4, 3) := by decide +kernel
theorem dX8_has_13 : decode cX8_has 13 = .ok (.iconst 0, 1) := by decide +kernel
theorem dX8_has_14 : decode cX8_has 14 = .ok (.ireturn, 1) := by decide +kernel
