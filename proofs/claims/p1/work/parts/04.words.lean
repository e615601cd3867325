set_option maxRecDepth 20000 in
theorem ggX0_init_X4_init : GoodIn wsX0_init wsX4_init := goodIn_r _ [27, 28, 2, 3, 4, 29, 30, 31, 75, 76, 77] (by decide +kernel) (by decide +kernel)
set_option maxRecDepth 20000 in
theorem gX0_init_X4_init_n15 : GoodIn wsX0_init (wsX4_init) := ggX0_init_X4_init
set_option maxRecDepth 20000 in
theorem ggX0_init_X7_init : GoodIn wsX0_init wsX7_init := goodIn_r _ [33, 34, 2, 3, 35, 36, 78, 79] (by decide +kernel) (by decide +kernel)
set_option maxRecDepth 20000 in
theorem gX0_init_X7_init_n22 : GoodIn wsX0_init (wsX7_init) := ggX0_init_X7_init
set_option maxRecDepth 20000 in
theorem ggX0_init_X2_init : GoodIn wsX0_init wsX2_init := goodIn_r _ [38, 39, 40, 41, 42, 43, 2, 3, 44, 45, 80, 81, 82, 90, 91, 92, 93, 94, 95, 96, 97, 98, 99, 83, 84, 85, 86, 87, 88, 89] (by decide +kernel) (by decide +kernel)
set_option maxRecDepth 20000 in
theorem gX0_init_X2_init_n29 : GoodIn wsX0_init (wsX2_init) := ggX0_init_X2_init
set_option maxRecDepth 20000 in
theorem ggX0_init_X5_init : GoodIn wsX0_init wsX5_init := goodIn_r _ [48, 4, 49, 50, 51, 52, 53, 54, 55, 40, 41, 42, 43, 2, 3, 44, 45, 83, 84, 85, 86, 87, 88, 89, 90, 91, 92, 93, 94, 95, 96, 97, 98, 99, 80, 81, 82] (by decide +kernel) (by decide +kernel)
set_option maxRecDepth 20000 in
theorem gX0_init_X5_init : GoodIn wsX0_init (wsX5_init) := ggX0_init_X5_init
set_option maxRecDepth 20000 in
theorem ggX0_init_X1_init : GoodIn wsX0_init wsX1_init := goodIn_r _ [58, 4, 59, 60, 61, 62, 63, 64, 65, 66, 67, 68, 40, 41, 42, 43, 2, 3, 44, 45, 90, 91, 92, 93, 94, 95, 96, 97, 98, 99, 80, 81, 82, 83, 84, 85, 86, 87, 88, 89] (by decide +kernel) (by decide +kernel)
set_option maxRecDepth 20000 in
theorem gX0_init_X1_init : GoodIn wsX0_init (wsX1_init) := ggX0_init_X1_init
theorem dX0_init_0 : decode cX0_init 0 = .ok (.aload_n 0, 1) := by decide +kernel
theorem dX0_init_1 : decode cX0_init 1 = .ok (.invokespecial 1, 3) := by decide +kernel
theorem dX0_init_4 : decode cX0_init 4 = .ok (.aload_n 0, 1) := by decide +kernel
theorem dX0_init_5 : decode cX0_init 5 = .ok (.sipush 512, 3) := by decide +kernel
theorem dX0_init_8 : decode cX0_init 8 = .ok (.newarray .int, 2) := by decide +kernel
theorem dX0_init_10 : decode cX0_init 10 = .ok (.putfield 9, 3) := by decide +kernel
theorem dX0_init_13 : decode cX0_init 13 = .ok (.aload_n 0, 1) := by decide +kernel
theorem dX0_init_14 : decode cX0_init 14 = .ok (.new 13, 3) := by decide +kernel
theorem dX0_init_17 : decode cX0_init 17 = .ok (.dup, 1) := by decide +kernel
theorem dX0_init_18 : decode cX0_init 18 = .ok (.invokespecial 15, 3) := by decide +kernel
theorem dX0_init_21 : decode cX0_init 21 = .ok (.putfield 16, 3) := by decide +kernel
theorem dX0_init_24 : decode cX0_init 24 = .ok (.aload_n 0, 1) := by decide +kernel
theorem dX0_init_25 : decode cX0_init 25 = .ok (.new 20, 3) := by decide +kernel
theorem dX0_init_28 : decode cX0_init 28 = .ok (.dup, 1) := by decide +kernel
theorem dX0_init_29 : decode cX0_init 29 = .ok (.invokespecial 22, 3) := by decide +kernel
theorem dX0_init_32 : decode cX0_init 32 = .ok (.putfield 23, 3) := by decide +kernel
theorem dX0_init_35 : decode cX0_init 35 = .ok (.aload_n 0, 1) := by decide +kernel
theorem dX0_init_36 : decode cX0_init 36 = .ok (.new 27, 3) := by decide +kernel
theorem dX0_init_39 : decode cX0_init 39 = .ok (.dup, 1) := by decide +kernel
theorem dX0_init_40 : decode cX0_init 40 = .ok (.invokespecial 29, 3) := by decide +kernel
theorem dX0_init_43 : decode cX0_init 43 = .ok (.putfield 30, 3) := by decide +kernel
theorem dX0_init_46 : decode cX0_init 46 = .ok (.aload_n 0, 1) := by decide +kernel
theorem dX0_init_47 : decode cX0_init 47 = .ok (.new 34, 3) := by decide +kernel
theorem dX0_init_50 : decode cX0_init 50 = .ok (.dup, 1) := by decide +kernel
theorem dX0_init_51 : decode cX0_init 51 = .ok (.invokespecial 36, 3) := by decide +kernel
theorem dX0_init_54 : decode cX0_init 54 = .ok (.putfield 37, 3) := by decide +kernel
theorem dX0_init_57 : decode cX0_init 57 = .ok (.aload_n 0, 1) := by decide +kernel
theorem dX0_init_58 : decode cX0_init 58 = .ok (.new 41, 3) := by decide +kernel
theorem dX0_init_61 : decode cX0_init 61 = .ok (.dup, 1) := by decide +kernel
theorem dX0_init_62 : decode cX0_init 62 = .ok (.invokespecial 43, 3) := by decide +kernel
theorem dX0_init_65 : decode cX0_init 65 = .ok (.putfield 44, 3) := by decide +kernel
theorem dX0_init_68 : decode cX0_init 68 = .ok (.return_, 1) := by decide +kernel
theorem dX0_peek_0 : decode cX0_peek 0 = .ok (.iload_n 1, 1) := by decide +kernel
theorem dX0_peek_1 : decode cX0_peek 1 = .ok (.iconst 1, 1) := by decide +kernel
theorem dX0_peek_2 : decode cX0_peek 2 = .ok (.iand, 1) := by decide +kernel
theorem dX0_peek_3 : decode cX0_peek 3 = .ok (.ifCond .eq 5, 3) := by decide +kernel
theorem dX0_peek_6 : decode cX0_peek 6 = .ok (.iconst (-1), 1) := by decide +kernel
theorem dX0_peek_7 : decode cX0_peek 7 = .ok (.ireturn, 1) := by decide +kernel
theorem dX0_peek_8 : decode cX0_peek 8 = .ok (.iload_n 1, 1) := by decide +kernel
theorem dX0_peek_9 : decode cX0_peek 9 = .ok (.ifCond .lt 19, 3) := by decide +kernel
theorem dX0_peek_12 : decode cX0_peek 12 = .ok (.iload_n 1, 1) := by decide +kernel
theorem dX0_peek_13 : decode cX0_peek 13 = .ok (.sipush 1024, 3) := by decide +kernel
theorem dX0_peek_16 : decode cX0_peek 16 = .ok (.if_icmp .ge 12, 3) := by decide +kernel
theorem dX0_peek_19 : decode cX0_peek 19 = .ok (.aload_n 0, 1) := by decide +kernel
theorem dX0_peek_20 : decode cX0_peek 20 = .ok (.getfield 9, 3) := by decide +kernel
theorem dX0_peek_23 : decode cX0_peek 23 = .ok (.iload_n 1, 1) := by decide +kernel
theorem dX0_peek_24 : decode cX0_peek 24 = .ok (.iconst 1, 1) := by decide +kernel
theorem dX0_peek_25 : decode cX0_peek 25 = .ok (.ishr, 1) := by decide +kernel
theorem dX0_peek_26 : decode cX0_peek 26 = .ok (.iaload, 1) := by decide +kernel
theorem dX0_peek_27 : decode cX0_peek 27 = .ok (.ireturn, 1) := by decide +kernel
theorem dX0_peek_28 : decode cX0_peek 28 = .ok (.iload_n 1, 1) := by decide +kernel
theorem dX0_peek_29 : decode cX0_peek 29 = .ok (.ldc 48, 2) := by decide +kernel
theorem dX0_peek_31 : decode cX0_peek 31 = .ok (.if_icmp .lt 24, 3) := by decide +kernel
theorem dX0_peek_34 : decode cX0_peek 34 = .ok (.iload_n 1, 1) := by decide +kernel
theorem dX0_peek_35 : decode cX0_peek 35 = .ok (.ldc 49, 2) := by decide +kernel
theorem dX0_peek_37 : decode cX0_peek 37 = .ok (.if_icmp .ge 18, 3) := by decide +kernel
theorem dX0_peek_40 : decode cX0_peek 40 = .ok (.aload_n 0, 1) := by decide +kernel
theorem dX0_peek_41 : decode cX0_peek 41 = .ok (.getfield 16, 3) := by decide +kernel
theorem dX0_peek_44 : decode cX0_peek 44 = .ok (.getfield 50, 3) := by decide +kernel
theorem dX0_peek_47 : decode cX0_peek 47 = .ok (.iload_n 1, 1) := by decide +kernel
theorem dX0_peek_48 : decode cX0_peek 48 = .ok (.ldc 48, 2) := by decide +kernel
theorem dX0_peek_50 : decode cX0_peek 50 = .ok (.isub, 1) := by decide +kernel
theorem dX0_peek_51 : decode cX0_peek 51 = .ok (.iconst 1, 1) := by decide +kernel
theorem dX0_peek_52 : decode cX0_peek 52 = .ok (.ishr, 1) := by decide +kernel
theorem dX0_peek_53 : decode cX0_peek 53 = .ok (.iaload, 1) := by decide +kernel
theorem dX0_peek_54 : decode cX0_peek 54 = .ok (.ireturn, 1) := by decide +kernel
theorem dX0_peek_55 : decode cX0_peek 55 = .ok (.iload_n 1, 1) := by decide +kernel
theorem dX0_peek_56 : decode cX0_peek 56 = .ok (.ldc 49, 2) := by decide +kernel
theorem dX0_peek_58 : decode cX0_peek 58 = .ok (.if_icmp .lt 24, 3) := by decide +kernel
theorem dX0_peek_61 : decode cX0_peek 61 = .ok (.iload_n 1, 1) := by decide +kernel
theorem dX0_peek_62 : decode cX0_peek 62 = .ok (.ldc 53, 2) := by decide +kernel
theorem dX0_peek_64 : decode cX0_peek 64 = .ok (.if_icmp .ge 18, 3) := by decide +kernel
theorem dX0_peek_67 : decode cX0_peek 67 = .ok (.aload_n 0, 1) := by decide +kernel
theorem dX0_peek_68 : decode cX0_peek 68 = .ok (.getfield 16, 3) := by decide +kernel
theorem dX0_peek_71 : decode cX0_peek 71 = .ok (.getfield 54, 3) := by decide +kernel
theorem dX0_peek_74 : decode cX0_peek 74 = .ok (.iload_n 1, 1) := by decide +kernel
theorem dX0_peek_75 : decode cX0_peek 75 = .ok (.ldc 49, 2) := by decide +kernel
theorem dX0_peek_77 : decode cX0_peek 77 = .ok (.isub, 1) := by decide +kernel
theorem dX0_peek_78 : decode cX0_peek 78 = .ok (.iconst 1, 1) := by decide +kernel
theorem dX0_peek_79 : decode cX0_peek 79 = .ok (.ishr, 1) := by decide +kernel
theorem dX0_peek_80 : decode cX0_peek 80 = .ok (.iaload, 1) := by decide +kernel
theorem dX0_peek_81 : decode cX0_peek 81 = .ok (.ireturn, 1) := by decide +kernel
theorem dX0_peek_82 : decode cX0_peek 82 = .ok (.iload_n 1, 1) := by decide +kernel
theorem dX0_peek_83 : decode cX0_peek 83 = .ok (.lookupswitch 179 #[(57408, 89), (57424, 97), (57426, 105), (57428, 113), (57430, 121), (57440, 123), (57442, 147), (57444, 155), (57446, 163), (57470, 171)], 89) := by decide +kernel
theorem dX0_peek_172 : decode cX0_peek 172 = .ok (.aload_n 0, 1) := by decide +kernel
theorem dX0_peek_173 : decode cX0_peek 173 = .ok (.getfield 16, 3) := by decide +kernel
theorem dX0_peek_176 : decode cX0_peek 176 = .ok (.getfield 57, 3) := by decide +kernel
theorem dX0_peek_179 : decode cX0_peek 179 = .ok (.ireturn, 1) := by decide +kernel
theorem dX0_peek_180 : decode cX0_peek 180 = .ok (.aload_n 0, 1) := by decide +kernel
theorem dX0_peek_181 : decode cX0_peek 181 = .ok (.getfield 30, 3) := by decide +kernel
theorem dX0_peek_184 : decode cX0_peek 184 = .ok (.getfield 61, 3) := by decide +kernel
theorem dX0_peek_187 : decode cX0_peek 187 = .ok (.ireturn, 1) := by decide +kernel
theorem dX0_peek_188 : decode cX0_peek 188 = .ok (.aload_n 0, 1) := by decide +kernel
theorem dX0_peek_189 : decode cX0_peek 189 = .ok (.getfield 30, 3) := by decide +kernel
theorem dX0_peek_192 : decode cX0_peek 192 = .ok (.getfield 64, 3) := by decide +kernel
theorem dX0_peek_195 : decode cX0_peek 195 = .ok (.ireturn, 1) := by decide +kernel
theorem dX0_peek_196 : decode cX0_peek 196 = .ok (.aload_n 0, 1) := by decide +kernel
theorem dX0_peek_197 : decode cX0_peek 197 = .ok (.getfield 37, 3) := by decide +kernel
theorem dX0_peek_200 : decode cX0_peek 200 = .ok (.getfield 67, 3) := by decide +kernel
theorem dX0_peek_203 : decode cX0_peek 203 = .ok (.ireturn, 1) := by decide +kernel
theorem dX0_peek_204 : decode cX0_peek 204 = .ok (.iconst 0, 1) := by decide +kernel
theorem dX0_peek_205 : decode cX0_peek 205 = .ok (.ireturn, 1) := by decide +kernel
theorem dX0_peek_206 : decode cX0_peek 206 = .ok (.aload_n 0, 1) := by decide +kernel
theorem dX0_peek_207 : decode cX0_peek 207 = .ok (.getfield 44, 3) := by decide +kernel
theorem dX0_peek_210 : decode cX0_peek 210 = .ok (.getfield 68, 3) := by decide +kernel
theorem dX0_peek_213 : decode cX0_peek 213 = .ok (.aload_n 0, 1) := by decide +kernel
theorem dX0_peek_214 : decode cX0_peek 214 = .ok (.getfield 44, 3) := by decide +kernel
theorem dX0_peek_217 : decode cX0_peek 217 = .ok (.getfield 69, 3) := by decide +kernel
theorem dX0_peek_220 : decode cX0_peek 220 = .ok (.ior, 1) := by decide +kernel
theorem dX0_peek_221 : decode cX0_peek 221 = .ok (.aload_n 0, 1) := by decide +kernel
theorem dX0_peek_222 : decode cX0_peek 222 = .ok (.getfield 44, 3) := by decide +kernel
theorem dX0_peek_225 : decode cX0_peek 225 = .ok (.getfield 72, 3) := by decide +kernel
theorem dX0_peek_228 : decode cX0_peek 228 = .ok (.ior, 1) := by decide +kernel
theorem dX0_peek_229 : decode cX0_peek 229 = .ok (.ireturn, 1) := by decide +kernel
theorem dX0_peek_230 : decode cX0_peek 230 = .ok (.aload_n 0, 1) := by decide +kernel
theorem dX0_peek_231 : decode cX0_peek 231 = .ok (.getfield 44, 3) := by decide +kernel
theorem dX0_peek_234 : decode cX0_peek 234 = .ok (.getfield 75, 3) := by decide +kernel
theorem dX0_peek_237 : decode cX0_peek 237 = .ok (.ireturn, 1) := by decide +kernel
theorem dX0_peek_238 : decode cX0_peek 238 = .ok (.aload_n 0, 1) := by decide +kernel
theorem dX0_peek_239 : decode cX0_peek 239 = .ok (.getfield 44, 3) := by decide +kernel
theorem dX0_peek_242 : decode cX0_peek 242 = .ok (.getfield 78, 3) := by decide +kernel
theorem dX0_peek_245 : decode cX0_peek 245 = .ok (.ireturn, 1) := by decide +kernel
theorem dX0_peek_246 : decode cX0_peek 246 = .ok (.aload_n 0, 1) := by decide +kernel
theorem dX0_peek_247 : decode cX0_peek 247 = .ok (.getfield 44, 3) := by decide +kernel
theorem dX0_peek_250 : decode cX0_peek 250 = .ok (.getfield 81, 3) := by decide +kernel
theorem dX0_peek_253 : decode cX0_peek 253 = .ok (.ireturn, 1) := by decide +kernel
theorem dX0_peek_254 : decode cX0_peek 254 = .ok (.aload_n 0, 1) := by decide +kernel
theorem dX0_peek_255 : decode cX0_peek 255 = .ok (.getfield 23, 3) := by decide +kernel
theorem dX0_peek_258 : decode cX0_peek 258 = .ok (.getfield 84, 3) := by decide +kernel
theorem dX0_peek_261 : decode cX0_peek 261 = .ok (.ireturn, 1) := by decide +kernel
theorem dX0_peek_262 : decode cX0_peek 262 = .ok (.iconst (-1), 1) := by decide +kernel
theorem dX0_peek_263 : decode cX0_peek 263 = .ok (.ireturn, 1) := by decide +kernel
set_option maxRecDepth 20000 in
theorem ggX1_init_X3_init : GoodIn wsX1_init wsX3_init := goodIn_r _ [14, 15, 16, 17, 18, 19, 20, 21, 22, 23, 24, 25, 26, 27, 28, 29, 30, 31, 32, 33, 34, 35, 36, 37, 38, 39] (by decide +kernel) (by decide +kernel)
set_option maxRecDepth 20000 in
theorem gX1_init_X3_init_n1 : GoodIn wsX1_init (wsX3_init) := ggX1_init_X3_init
theorem dX1_init_0 : decode cX1_init 0 = .ok (.aload_n 0, 1) := by decide +kernel
theorem dX1_init_1 : decode cX1_init 1 = .ok (.invokespecial 1, 3) := by decide +kernel
theorem dX1_init_4 : decode cX1_init 4 = .ok (.aload_n 0, 1) := by decide +kernel
theorem dX1_init_5 : decode cX1_init 5 = .ok (.sipush 128, 3) := by decide +kernel
theorem dX1_init_8 : decode cX1_init 8 = .ok (.newarray .int, 2) := by decide +kernel
theorem dX1_init_10 : decode cX1_init 10 = .ok (.putfield 9, 3) := by decide +kernel
theorem dX1_init_13 : decode cX1_init 13 = .ok (.aload_n 0, 1) := by decide +kernel
theorem dX1_init_14 : decode cX1_init 14 = .ok (.iconst 0, 1) := by decide +kernel
theorem dX1_init_15 : decode cX1_init 15 = .ok (.putfield 13, 3) := by decide +kernel
theorem dX1_init_18 : decode cX1_init 18 = .ok (.aload_n 0, 1) := by decide +kernel
theorem dX1_init_19 : decode cX1_init 19 = .ok (.iconst 0, 1) := by decide +kernel
theorem dX1_init_20 : decode cX1_init 20 = .ok (.putfield 17, 3) := by decide +kernel
theorem dX1_init_23 : decode cX1_init 23 = .ok (.aload_n 0, 1) := by decide +kernel
theorem dX1_init_24 : decode cX1_init 24 = .ok (.iconst 0, 1) := by decide +kernel
theorem dX1_init_25 : decode cX1_init 25 = .ok (.putfield 20, 3) := by decide +kernel
theorem dX1_init_28 : decode cX1_init 28 = .ok (.aload_n 0, 1) := by decide +kernel
theorem dX1_init_29 : decode cX1_init 29 = .ok (.iconst 0, 1) := by decide +kernel
theorem dX1_init_30 : decode cX1_init 30 = .ok (.putfield 23, 3) := by decide +kernel
theorem dX1_init_33 : decode cX1_init 33 = .ok (.aload_n 0, 1) := by decide +kernel
theorem dX1_init_34 : decode cX1_init 34 = .ok (.iconst 0, 1) := by decide +kernel
theorem dX1_init_35 : decode cX1_init 35 = .ok (.putfield 26, 3) := by decide +kernel
theorem dX1_init_38 : decode cX1_init 38 = .ok (.aload_n 0, 1) := by decide +kernel
theorem dX1_init_39 : decode cX1_init 39 = .ok (.iconst 0, 1) := by decide +kernel
theorem dX1_init_40 : decode cX1_init 40 = .ok (.putfield 29, 3) := by decide +kernel
theorem dX1_init_43 : decode cX1_init 43 = .ok (.aload_n 0, 1) := by decide +kernel
theorem dX1_init_44 : decode cX1_init 44 = .ok (.iconst 0, 1) := by decide +kernel
theorem dX1_init_45 : decode cX1_init 45 = .ok (.putfield 32, 3) := by decide +kernel
theorem dX1_init_48 : decode cX1_init 48 = .ok (.aload_n 0, 1) := by decide +kernel
theorem dX1_init_49 : decode cX1_init 49 = .ok (.sipush 128, 3) := by decide +kernel
theorem dX1_init_52 : decode cX1_init 52 = .ok (.putfield 36, 3) := by decide +kernel
theorem dX1_init_55 : decode cX1_init 55 = .ok (.return_, 1) := by decide +kernel
set_option maxRecDepth 20000 in
theorem ggX2_init_X3_init : GoodIn wsX2_init wsX3_init := goodIn_r _ [4, 5, 6, 7, 8, 9, 13, 14, 15, 16, 17, 18, 19, 20, 21, 22, 10, 11, 12, 23, 24, 25, 26, 27, 28, 29] (by decide +kernel) (by decide +kernel)
set_option maxRecDepth 20000 in
theorem gX2_init_X3_init_n1 : GoodIn wsX2_init (wsX3_init) := ggX2_init_X3_init
theorem dX2_init_0 : decode cX2_init 0 = .ok (.aload_n 0, 1) := by decide +kernel
theorem dX2_init_1 : decode cX2_init 1 = .ok (.invokespecial 1, 3) := by decide +kernel
theorem dX2_init_4 : decode cX2_init 4 = .ok (.aload_n 0, 1) := by decide +kernel
theorem dX2_init_5 : decode cX2_init 5 = .ok (.iconst 0, 1) := by decide +kernel
theorem dX2_init_6 : decode cX2_init 6 = .ok (.putfield 7, 3) := by decide +kernel
theorem dX2_init_9 : decode cX2_init 9 = .ok (.return_, 1) := by decide +kernel
set_option maxRecDepth 20000 in
theorem ggX2_type_X3_become : GoodIn wsX2_type wsX3_become := goodIn_r _ [9, 10, 11, 15, 16, 17, 18, 19, 20, 21, 22, 23, 24, 12, 13, 14, 25, 26, 27, 28, 29, 30, 31] (by decide +kernel) (by decide +kernel)
set_option maxRecDepth 20000 in
theorem gX2_type_X3_become_u16X2 : GoodIn wsX2_type (va_wsU RX2 16 RX2 "UnibusMachine$Line" ⟨"UnibusMachine$Keyboard", "become", "(I)V"⟩ yX3_become wsX3_become) := goodIn_app (goodIn_of _ (by decide +kernel)) ggX2_type_X3_become
theorem dX2_type_0 : decode cX2_type 0 = .ok (.aload_n 0, 1) := by decide +kernel
theorem dX2_type_1 : decode cX2_type 1 = .ok (.iload_n 1, 1) := by decide +kernel
theorem dX2_type_2 : decode cX2_type 2 = .ok (.putfield 7, 3) := by decide +kernel
theorem dX2_type_5 : decode cX2_type 5 = .ok (.aload_n 0, 1) := by decide +kernel
theorem dX2_type_6 : decode cX2_type 6 = .ok (.aload_n 0, 1) := by decide +kernel
theorem dX2_type_7 : decode cX2_type 7 = .ok (.getfield 13, 3) := by decide +kernel
theorem dX2_type_10 : decode cX2_type 10 = .ok (.sipush 128, 3) := by decide +kernel
theorem dX2_type_13 : decode cX2_type 13 = .ok (.ior, 1) := by decide +kernel
theorem dX2_type_14 : decode cX2_type 14 = .ok (.invokevirtual 16, 3) := by decide +kernel
theorem dX2_type_17 : decode cX2_type 17 = .ok (.return_, 1) := by decide +kernel
theorem dX3_init_0 : decode cX3_init 0 = .ok (.aload_n 0, 1) := by decide +kernel
theorem dX3_init_1 : decode cX3_init 1 = .ok (.invokespecial 3, 3) := by decide +kernel
theorem dX3_init_4 : decode cX3_init 4 = .ok (.aload_n 0, 1) := by decide +kernel
theorem dX3_init_5 : decode cX3_init 5 = .ok (.iconst 0, 1) := by decide +kernel
theorem dX3_init_6 : decode cX3_init 6 = .ok (.putfield 9, 3) := by decide +kernel
theorem dX3_init_9 : decode cX3_init 9 = .ok (.aload_n 0, 1) := by decide +kernel
theorem dX3_init_10 : decode cX3_init 10 = .ok (.iconst 0, 1) := by decide +kernel
theorem dX3_init_11 : decode cX3_init 11 = .ok (.putfield 13, 3) := by decide +kernel
theorem dX3_init_14 : decode cX3_init 14 = .ok (.return_, 1) := by decide +kernel
theorem dX3_become_0 : decode cX3_become 0 = .ok (.aload_n 0, 1) := by decide +kernel
theorem dX3_become_1 : decode cX3_become 1 = .ok (.iload_n 1, 1) := by decide +kernel
theorem dX3_become_2 : decode cX3_become 2 = .ok (.sipush 192, 3) := by decide +kernel
theorem dX3_become_5 : decode cX3_become 5 = .ok (.if_icmp .ne 24, 3) := by decide +kernel
theorem dX3_become_8 : decode cX3_become 8 = .ok (.aload_n 0, 1) := by decide +kernel
theorem dX3_become_9 : decode cX3_become 9 = .ok (.getfield 13, 3) := by decide +kernel
theorem dX3_become_12 : decode cX3_become 12 = .ok (.ifCond .ne 13, 3) := by decide +kernel
theorem dX3_become_15 : decode cX3_become 15 = .ok (.aload_n 0, 1) := by decide +kernel
theorem dX3_become_16 : decode cX3_become 16 = .ok (.getfield 9, 3) := by decide +kernel
theorem dX3_become_19 : decode cX3_become 19 = .ok (.sipush 192, 3) := by decide +kernel
theorem dX3_become_22 : decode cX3_become 22 = .ok (.if_icmp .eq 7, 3) := by decide +kernel
theorem dX3_become_25 : decode cX3_become 25 = .ok (.iconst 1, 1) := by decide +kernel
theorem dX3_become_26 : decode cX3_become 26 = .ok (.goto 4, 3) := by decide +kernel
theorem dX3_become_29 : decode cX3_become 29 = .ok (.iconst 0, 1) := by decide +kernel
theorem dX3_become_30 : decode cX3_become 30 = .ok (.putfield 13, 3) := by decide +kernel
theorem dX3_become_33 : decode cX3_become 33 = .ok (.aload_n 0, 1) := by decide +kernel
theorem dX3_become_34 : decode cX3_become 34 = .ok (.iload_n 1, 1) := by decide +kernel
theorem dX3_become_35 : decode cX3_become 35 = .ok (.putfield 9, 3) := by decide +kernel
theorem dX3_become_38 : decode cX3_become 38 = .ok (.return_, 1) := by decide +kernel
theorem dX4_init_0 : decode cX4_init 0 = .ok (.aload_n 0, 1) := by decide +kernel
theorem dX4_init_1 : decode cX4_init 1 = .ok (.invokespecial 3, 3) := by decide +kernel
theorem dX4_init_4 : decode cX4_init 4 = .ok (.aload_n 0, 1) := by decide +kernel
theorem dX4_init_5 : decode cX4_init 5 = .ok (.bipush 16, 2) := by decide +kernel
theorem dX4_init_7 : decode cX4_init 7 = .ok (.newarray .int, 2) := by decide +kernel
theorem dX4_init_9 : decode cX4_init 9 = .ok (.putfield 9, 3) := by decide +kernel
theorem dX4_init_12 : decode cX4_init 12 = .ok (.aload_n 0, 1) := by decide +kernel
theorem dX4_init_13 : decode cX4_init 13 = .ok (.bipush 16, 2) := by decide +kernel
theorem dX4_init_15 : decode cX4_init 15 = .ok (.newarray .int, 2) := by decide +kernel
theorem dX4_init_17 : decode cX4_init 17 = .ok (.putfield 13, 3) := by decide +kernel
theorem dX4_init_20 : decode cX4_init 20 = .ok (.aload_n 0, 1) := by decide +kernel
theorem dX4_init_21 : decode cX4_init 21 = .ok (.iconst 0, 1) := by decide +kernel
theorem dX4_init_22 : decode cX4_init 22 = .ok (.putfield 16, 3) := by decide +kernel
theorem dX4_init_25 : decode cX4_init 25 = .ok (.return_, 1) := by decide +kernel
set_option maxRecDepth 20000 in
theorem ggX5_init_X3_init : GoodIn wsX5_init wsX3_init := goodIn_r _ [11, 12, 13, 14, 15, 16, 24, 25, 26, 27, 28, 29, 30, 31, 32, 33, 34, 35, 36, 17, 18, 19, 20, 21, 22, 23] (by decide +kernel) (by decide +kernel)
set_option maxRecDepth 20000 in
theorem gX5_init_X3_init_n1 : GoodIn wsX5_init (wsX3_init) := ggX5_init_X3_init
theorem dX5_init_0 : decode cX5_init 0 = .ok (.aload_n 0, 1) := by decide +kernel
theorem dX5_init_1 : decode cX5_init 1 = .ok (.invokespecial 1, 3) := by decide +kernel
theorem dX5_init_4 : decode cX5_init 4 = .ok (.aload_n 0, 1) := by decide +kernel
theorem dX5_init_5 : decode cX5_init 5 = .ok (.bipush 32, 2) := by decide +kernel
theorem dX5_init_7 : decode cX5_init 7 = .ok (.newarray .int, 2) := by decide +kernel
theorem dX5_init_9 : decode cX5_init 9 = .ok (.putfield 9, 3) := by decide +kernel
theorem dX5_init_12 : decode cX5_init 12 = .ok (.aload_n 0, 1) := by decide +kernel
theorem dX5_init_13 : decode cX5_init 13 = .ok (.iconst 0, 1) := by decide +kernel
theorem dX5_init_14 : decode cX5_init 14 = .ok (.putfield 13, 3) := by decide +kernel
theorem dX5_init_17 : decode cX5_init 17 = .ok (.aload_n 0, 1) := by decide +kernel
theorem dX5_init_18 : decode cX5_init 18 = .ok (.iconst 0, 1) := by decide +kernel
theorem dX5_init_19 : decode cX5_init 19 = .ok (.putfield 17, 3) := by decide +kernel
theorem dX5_init_22 : decode cX5_init 22 = .ok (.aload_n 0, 1) := by decide +kernel
theorem dX5_init_23 : decode cX5_init 23 = .ok (.iconst 0, 1) := by decide +kernel
theorem dX5_init_24 : decode cX5_init 24 = .ok (.putfield 20, 3) := by decide +kernel
theorem dX5_init_27 : decode cX5_init 27 = .ok (.aload_n 0, 1) := by decide +kernel
theorem dX5_init_28 : decode cX5_init 28 = .ok (.iconst 0, 1) := by decide +kernel
theorem dX5_init_29 : decode cX5_init 29 = .ok (.putfield 23, 3) := by decide +kernel
theorem dX5_init_32 : decode cX5_init 32 = .ok (.aload_n 0, 1) := by decide +kernel
theorem dX5_init_33 : decode cX5_init 33 = .ok (.sipush 128, 3) := by decide +kernel
theorem dX5_init_36 : decode cX5_init 36 = .ok (.putfield 27, 3) := by decide +kernel
theorem dX5_init_39 : decode cX5_init 39 = .ok (.return_, 1) := by decide +kernel
theorem dX6_init_0 : decode cX6_init 0 = .ok (.aload_n 0, 1) := by decide +kernel
theorem dX6_init_1 : decode cX6_init 1 = .ok (.invokespecial 1, 3) := by decide +kernel
theorem dX6_init_4 : decode cX6_init 4 = .ok (.aload_n 0, 1) := by decide +kernel
theorem dX6_init_5 : decode cX6_init 5 = .ok (.bipush 8, 2) := by decide +kernel
theorem dX6_init_7 : decode cX6_init 7 = .ok (.newarray .int, 2) := by decide +kernel
theorem dX6_init_9 : decode cX6_init 9 = .ok (.putfield 7, 3) := by decide +kernel
theorem dX6_init_12 : decode cX6_init 12 = .ok (.aload_n 0, 1) := by decide +kernel
theorem dX6_init_13 : decode cX6_init 13 = .ok (.iconst 0, 1) := by decide +kernel
theorem dX6_init_14 : decode cX6_init 14 = .ok (.putfield 13, 3) := by decide +kernel
theorem dX6_init_17 : decode cX6_init 17 = .ok (.aload_n 0, 1) := by decide +kernel
theorem dX6_init_18 : decode cX6_init 18 = .ok (.iconst 2, 1) := by decide +kernel
theorem dX6_init_19 : decode cX6_init 19 = .ok (.putfield 17, 3) := by decide +kernel
theorem dX6_init_22 : decode cX6_init 22 = .ok (.aload_n 0, 1) := by decide +kernel
theorem dX6_init_23 : decode cX6_init 23 = .ok (.iconst 0, 1) := by decide +kernel
theorem dX6_init_24 : decode cX6_init 24 = .ok (.putfield 20, 3) := by decide +kernel
theorem dX6_init_27 : decode cX6_init 27 = .ok (.aload_n 0, 1) := by decide +kernel
theorem dX6_init_28 : decode cX6_init 28 = .ok (.iconst 0, 1) := by decide +kernel
theorem dX6_init_29 : decode cX6_init 29 = .ok (.putfield 24, 3) := by decide +kernel
theorem dX6_init_32 : decode cX6_init 32 = .ok (.aload_n 0, 1) := by decide +kernel
theorem dX6_init_33 : decode cX6_init 33 = .ok (.iconst 0, 1) := by decide +kernel
theorem dX6_init_34 : decode cX6_init 34 = .ok (.putfield 27, 3) := by decide +kernel
theorem dX6_init_37 : decode cX6_init 37 = .ok (.aload_n 0, 1) := by decide +kernel
theorem dX6_init_38 : decode cX6_init 38 = .ok (.iconst 0, 1) := by decide +kernel
theorem dX6_init_39 : decode cX6_init 39 = .ok (.putfield 30, 3) := by decide +kernel
theorem dX6_init_42 : decode cX6_init 42 = .ok (.aload_n 0, 1) := by decide +kernel
theorem dX6_init_43 : decode cX6_init 43 = .ok (.aload_n 1, 1) := by decide +kernel
theorem dX6_init_44 : decode cX6_init 44 = .ok (.putfield 33, 3) := by decide +kernel
theorem dX6_init_47 : decode cX6_init 47 = .ok (.aload_n 0, 1) := by decide +kernel
theorem dX6_init_48 : decode cX6_init 48 = .ok (.aload_n 1, 1) := by decide +kernel
theorem dX6_init_49 : decode cX6_init 49 = .ok (.getfield 37, 3) := by decide +kernel
theorem dX6_init_52 : decode cX6_init 52 = .ok (.putfield 43, 3) := by decide +kernel
theorem dX6_init_55 : decode cX6_init 55 = .ok (.return_, 1) := by decide +kernel
theorem dX6_mode_0 : decode cX6_mode 0 = .ok (.aload_n 0, 1) := by decide +kernel
theorem dX6_mode_1 : decode cX6_mode 1 = .ok (.getfield 43, 3) := by decide +kernel
theorem dX6_mode_4 : decode cX6_mode 4 = .ok (.getfield 44, 3) := by decide +kernel
theorem dX6_mode_7 : decode cX6_mode 7 = .ok (.bipush 14, 2) := by decide +kernel
theorem dX6_mode_9 : decode cX6_mode 9 = .ok (.ishr, 1) := by decide +kernel
theorem dX6_mode_10 : decode cX6_mode 10 = .ok (.iconst 1, 1) := by decide +kernel
theorem dX6_mode_11 : decode cX6_mode 11 = .ok (.iand, 1) := by decide +kernel
theorem dX6_mode_12 : decode cX6_mode 12 = .ok (.ireturn, 1) := by decide +kernel
theorem dX6_takeStatus_0 : decode cX6_takeStatus 0 = .ok (.iload_n 1, 1) := by decide +kernel
theorem dX6_takeStatus_1 : decode cX6_takeStatus 1 = .ok (.aload_n 0, 1) := by decide +kernel
theorem dX6_takeStatus_2 : decode cX6_takeStatus 2 = .ok (.getfield 43, 3) := by decide +kernel
theorem dX6_takeStatus_5 : decode cX6_takeStatus 5 = .ok (.getfield 44, 3) := by decide +kernel
theorem dX6_takeStatus_8 : decode cX6_takeStatus 8 = .ok (.ixor, 1) := by decide +kernel
theorem dX6_takeStatus_9 : decode cX6_takeStatus 9 = .ok (.sipush 16384, 3) := by decide +kernel
theorem dX6_takeStatus_12 : decode cX6_takeStatus 12 = .ok (.iand, 1) := by decide +kernel
theorem dX6_takeStatus_13 : decode cX6_takeStatus 13 = .ok (.ifCond .eq 27, 3) := by decide +kernel
theorem dX6_takeStatus_16 : decode cX6_takeStatus 16 = .ok (.aload_n 0, 1) := by decide +kernel
theorem dX6_takeStatus_17 : decode cX6_takeStatus 17 = .ok (.getfield 7, 3) := by decide +kernel
theorem dX6_takeStatus_20 : decode cX6_takeStatus 20 = .ok (.bipush 6, 2) := by decide +kernel
theorem dX6_takeStatus_22 : decode cX6_takeStatus 22 = .ok (.iaload, 1) := by decide +kernel
theorem dX6_takeStatus_23 : decode cX6_takeStatus 23 = .ok (.istore_n 2, 1) := by decide +kernel
theorem dX6_takeStatus_24 : decode cX6_takeStatus 24 = .ok (.aload_n 0, 1) := by decide +kernel
theorem dX6_takeStatus_25 : decode cX6_takeStatus 25 = .ok (.getfield 7, 3) := by decide +kernel
theorem dX6_takeStatus_28 : decode cX6_takeStatus 28 = .ok (.bipush 6, 2) := by decide +kernel
theorem dX6_takeStatus_30 : decode cX6_takeStatus 30 = .ok (.aload_n 0, 1) := by decide +kernel
theorem dX6_takeStatus_31 : decode cX6_takeStatus 31 = .ok (.getfield 13, 3) := by decide +kernel
theorem dX6_takeStatus_34 : decode cX6_takeStatus 34 = .ok (.iastore, 1) := by decide +kernel
theorem dX6_takeStatus_35 : decode cX6_takeStatus 35 = .ok (.aload_n 0, 1) := by decide +kernel
theorem dX6_takeStatus_36 : decode cX6_takeStatus 36 = .ok (.iload_n 2, 1) := by decide +kernel
theorem dX6_takeStatus_37 : decode cX6_takeStatus 37 = .ok (.putfield 13, 3) := by decide +kernel
theorem dX6_takeStatus_40 : decode cX6_takeStatus 40 = .ok (.aload_n 0, 1) := by decide +kernel
theorem dX6_takeStatus_41 : decode cX6_takeStatus 41 = .ok (.getfield 43, 3) := by decide +kernel
theorem dX6_takeStatus_44 : decode cX6_takeStatus 44 = .ok (.iload_n 1, 1) := by decide +kernel
theorem dX6_takeStatus_45 : decode cX6_takeStatus 45 = .ok (.putfield 44, 3) := by decide +kernel
theorem dX6_takeStatus_48 : decode cX6_takeStatus 48 = .ok (.return_, 1) := by decide +kernel
theorem dX7_init_0 : decode cX7_init 0 = .ok (.aload_n 0, 1) := by decide +kernel
theorem dX7_init_1 : decode cX7_init 1 = .ok (.invokespecial 1, 3) := by decide +kernel
theorem dX7_init_4 : decode cX7_init 4 = .ok (.aload_n 0, 1) := by decide +kernel
theorem dX7_init_5 : decode cX7_init 5 = .ok (.iconst 0, 1) := by decide +kernel
theorem dX7_init_6 : decode cX7_init 6 = .ok (.putfield 7, 3) := by decide +kernel
theorem dX7_init_9 : decode cX7_init 9 = .ok (.aload_n 0, 1) := by decide +kernel
theorem dX7_init_10 : decode cX7_init 10 = .ok (.iconst (-1), 1) := by decide +kernel
theorem dX7_init_11 : decode cX7_init 11 = .ok (.putfield 13, 3) := by decide +kernel
theorem dX7_init_14 : decode cX7_init 14 = .ok (.return_, 1) := by decide +kernel
set_option maxRecDepth 20000 in
theorem ggX8_init_X0_init : GoodIn wsX8_init wsX0_init := goodIn_r _ [13, 14, 2, 3, 15, 16, 17, 18, 19, 20, 21, 22, 23, 24, 25, 26, 27, 28, 29, 30, 31, 32, 33, 34, 35, 36, 37, 38, 39, 40, 41, 42, 43, 44, 45, 46, 47, 48, 49, 50, 51, 52, 53, 54, 55, 56, 57, 58, 59, 60, 61, 62, 63, 64, 65, 66, 67, 68, 69, 70, 71, 72, 73, 74, 75, 76, 77, 78, 79, 94, 95, 96, 97, 98, 99, 111, 112, 113, 114, 115, 116, 117, 118, 119, 120, 121, 122, 123, 124, 125, 126, 127, 128, 129, 130, 131, 132, 133, 134, 135] (by decide +kernel) (by decide +kernel)
set_option maxRecDepth 20000 in
theorem gX8_init_X0_init_n9 : GoodIn wsX8_init (wsX0_init) := ggX8_init_X0_init
set_option maxRecDepth 20000 in
theorem ggX8_init_X6_init : GoodIn wsX8_init wsX6_init := goodIn_r _ [82, 83, 2, 3, 15, 84, 85, 86, 87, 88, 89, 90, 91, 92, 93, 102, 103, 104, 105, 106, 107, 108, 109, 110, 94, 95, 96, 97, 98, 99] (by decide +kernel) (by decide +kernel)
set_option maxRecDepth 20000 in
theorem gX8_init_X6_init : GoodIn wsX8_init (wsX6_init) := ggX8_init_X6_init
theorem dX8_init_0 : decode cX8_init 0 = .ok (.aload_n 0, 1) := by decide +kernel
theorem dX8_init_1 : decode cX8_init 1 = .ok (.invokespecial 1, 3) := by decide +kernel
theorem dX8_init_4 : decode cX8_init 4 = .ok (.aload_n 0, 1) := by decide +kernel
theorem dX8_init_5 : decode cX8_init 5 = .ok (.new 7, 3) := by decide +kernel
theorem dX8_init_8 : decode cX8_init 8 = .ok (.dup, 1) := by decide +kernel
theorem dX8_init_9 : decode cX8_init 9 = .ok (.invokespecial 9, 3) := by decide +kernel
theorem dX8_init_12 : decode cX8_init 12 = .ok (.putfield 10, 3) := by decide +kernel
theorem dX8_init_15 : decode cX8_init 15 = .ok (.aload_n 0, 1) := by decide +kernel
theorem dX8_init_16 : decode cX8_init 16 = .ok (.new 16, 3) := by decide +kernel
theorem dX8_init_19 : decode cX8_init 19 = .ok (.dup, 1) := by decide +kernel
theorem dX8_init_20 : decode cX8_init 20 = .ok (.aload_n 0, 1) := by decide +kernel
theorem dX8_init_21 : decode cX8_init 21 = .ok (.getfield 10, 3) := by decide +kernel
theorem dX8_init_24 : decode cX8_init 24 = .ok (.invokespecial 18, 3) := by decide +kernel
theorem dX8_init_27 : decode cX8_init 27 = .ok (.putfield 21, 3) := by decide +kernel
theorem dX8_init_30 : decode cX8_init 30 = .ok (.return_, 1) := by decide +kernel
set_option maxRecDepth 20000 in
theorem ggX8_deposit_X8_isMemory : GoodIn wsX8_deposit wsX8_isMemory := goodIn_r _ [8] (by decide +kernel) (by decide +kernel)
set_option maxRecDepth 20000 in
theorem gX8_deposit_X8_isMemory : GoodIn wsX8_deposit (va_wsS RX8 25 yX8_isMemory wsX8_isMemory) := goodIn_app (goodIn_of _ (by decide +kernel)) ggX8_deposit_X8_isMemory
set_option maxRecDepth 20000 in
theorem ggX8_deposit_X8_isWord : GoodIn wsX8_deposit wsX8_isWord := goodIn_r _ [11, 12] (by decide +kernel) (by decide +kernel)
set_option maxRecDepth 20000 in
theorem gX8_deposit_X8_isWord : GoodIn wsX8_deposit (va_wsS RX8 29 yX8_isWord wsX8_isWord) := goodIn_app (goodIn_of _ (by decide +kernel)) ggX8_deposit_X8_isWord
theorem dX8_deposit_0 : decode cX8_deposit 0 = .ok (.iload_n 1, 1) := by decide +kernel
theorem dX8_deposit_1 : decode cX8_deposit 1 = .ok (.invokestatic 25, 3) := by decide +kernel
theorem dX8_deposit_4 : decode cX8_deposit 4 = .ok (.ifCond .eq 10, 3) := by decide +kernel
theorem dX8_deposit_7 : decode cX8_deposit 7 = .ok (.iload_n 2, 1) := by decide +kernel
theorem dX8_deposit_8 : decode cX8_deposit 8 = .ok (.invokestatic 29, 3) := by decide +kernel
theorem dX8_deposit_11 : decode cX8_deposit 11 = .ok (.ifCond .ne 11, 3) := by decide +kernel
theorem dX8_deposit_14 : decode cX8_deposit 14 = .ok (.new 32, 3) := by decide +kernel
theorem dX8_deposit_17 : decode cX8_deposit 17 = .ok (.dup, 1) := by decide +kernel
theorem dX8_deposit_18 : decode cX8_deposit 18 = .ok (.invokespecial 34, 3) := by decide +kernel
theorem dX8_deposit_21 : decode cX8_deposit 21 = .ok (.athrow, 1) := by decide +kernel
theorem dX8_deposit_22 : decode cX8_deposit 22 = .ok (.aload_n 0, 1) := by decide +kernel
theorem dX8_deposit_23 : decode cX8_deposit 23 = .ok (.getfield 10, 3) := by decide +kernel
theorem dX8_deposit_26 : decode cX8_deposit 26 = .ok (.getfield 35, 3) := by decide +kernel
theorem dX8_deposit_29 : decode cX8_deposit 29 = .ok (.iload_n 1, 1) := by decide +kernel
theorem dX8_deposit_30 : decode cX8_deposit 30 = .ok (.iconst 1, 1) := by decide +kernel
theorem dX8_deposit_31 : decode cX8_deposit 31 = .ok (.ishr, 1) := by decide +kernel
theorem dX8_deposit_32 : decode cX8_deposit 32 = .ok (.iload_n 2, 1) := by decide +kernel
theorem dX8_deposit_33 : decode cX8_deposit 33 = .ok (.iastore, 1) := by decide +kernel
theorem dX8_deposit_34 : decode cX8_deposit 34 = .ok (.return_, 1) := by decide +kernel
set_option maxRecDepth 20000 in
theorem ggX8_examine_X8_isMemory : GoodIn wsX8_examine wsX8_isMemory := goodIn_r _ [8] (by decide +kernel) (by decide +kernel)
set_option maxRecDepth 20000 in
theorem gX8_examine_X8_isMemory : GoodIn wsX8_examine (va_wsS RX8 25 yX8_isMemory wsX8_isMemory) := goodIn_app (goodIn_of _ (by decide +kernel)) ggX8_examine_X8_isMemory
theorem dX8_examine_0 : decode cX8_examine 0 = .ok (.iload_n 1, 1) := by decide +kernel
theorem dX8_examine_1 : decode cX8_examine 1 = .ok (.invokestatic 25, 3) := by decide +kernel
theorem dX8_examine_4 : decode cX8_examine 4 = .ok (.ifCond .ne 11, 3) := by decide +kernel
theorem dX8_examine_7 : decode cX8_examine 7 = .ok (.new 32, 3) := by decide +kernel
theorem dX8_examine_10 : decode cX8_examine 10 = .ok (.dup, 1) := by decide +kernel
theorem dX8_examine_11 : decode cX8_examine 11 = .ok (.invokespecial 34, 3) := by decide +kernel
theorem dX8_examine_14 : decode cX8_examine 14 = .ok (.athrow, 1) := by decide +kernel
theorem dX8_examine_15 : decode cX8_examine 15 = .ok (.aload_n 0, 1) := by decide +kernel
theorem dX8_examine_16 : decode cX8_examine 16 = .ok (.getfield 10, 3) := by decide +kernel
theorem dX8_examine_19 : decode cX8_examine 19 = .ok (.getfield 35, 3) := by decide +kernel
theorem dX8_examine_22 : decode cX8_examine 22 = .ok (.iload_n 1, 1) := by decide +kernel
theorem dX8_examine_23 : decode cX8_examine 23 = .ok (.iconst 1, 1) := by decide +kernel
theorem dX8_examine_24 : decode cX8_examine 24 = .ok (.ishr, 1) := by decide +kernel
theorem dX8_examine_25 : decode cX8_examine 25 = .ok (.iaload, 1) := by decide +kernel
theorem dX8_examine_26 : decode cX8_examine 26 = .ok (.ireturn, 1) := by decide +kernel
set_option maxRecDepth 20000 in
theorem ggX8_set_X8_isWord : GoodIn wsX8_set wsX8_isWord := goodIn_r _ [9, 10] (by decide +kernel) (by decide +kernel)
set_option maxRecDepth 20000 in
theorem gX8_set_X8_isWord : GoodIn wsX8_set (va_wsS RX8 29 yX8_isWord wsX8_isWord) := goodIn_app (goodIn_of _ (by decide +kernel)) ggX8_set_X8_isWord
set_option maxRecDepth 20000 in
theorem ggX8_set_X6_mode : GoodIn wsX8_set wsX6_mode := goodIn_r _ [15, 16, 17, 20, 21, 22, 23, 24, 25, 26, 27, 28, 29, 30] (by decide +kernel) (by decide +kernel)
set_option maxRecDepth 20000 in
theorem gX8_set_X6_mode : GoodIn wsX8_set (wsV RX8 39 RX6 yX6_mode wsX6_mode) := goodIn_app (goodIn_of _ (by decide +kernel)) ggX8_set_X6_mode
theorem dX8_set_0 : decode cX8_set 0 = .ok (.iload_n 1, 1) := by decide +kernel
theorem dX8_set_1 : decode cX8_set 1 = .ok (.ifCond .lt 16, 3) := by decide +kernel
theorem dX8_set_4 : decode cX8_set 4 = .ok (.iload_n 1, 1) := by decide +kernel
theorem dX8_set_5 : decode cX8_set 5 = .ok (.bipush 7, 2) := by decide +kernel
theorem dX8_set_7 : decode cX8_set 7 = .ok (.if_icmp .gt 10, 3) := by decide +kernel
theorem dX8_set_10 : decode cX8_set 10 = .ok (.iload_n 2, 1) := by decide +kernel
theorem dX8_set_11 : decode cX8_set 11 = .ok (.invokestatic 29, 3) := by decide +kernel
theorem dX8_set_14 : decode cX8_set 14 = .ok (.ifCond .ne 11, 3) := by decide +kernel
theorem dX8_set_17 : decode cX8_set 17 = .ok (.new 32, 3) := by decide +kernel
theorem dX8_set_20 : decode cX8_set 20 = .ok (.dup, 1) := by decide +kernel
theorem dX8_set_21 : decode cX8_set 21 = .ok (.invokespecial 34, 3) := by decide +kernel
theorem dX8_set_24 : decode cX8_set 24 = .ok (.athrow, 1) := by decide +kernel
theorem dX8_set_25 : decode cX8_set 25 = .ok (.iload_n 1, 1) := by decide +kernel
theorem dX8_set_26 : decode cX8_set 26 = .ok (.bipush 6, 2) := by decide +kernel
theorem dX8_set_28 : decode cX8_set 28 = .ok (.if_icmp .ne 24, 3) := by decide +kernel
theorem dX8_set_31 : decode cX8_set 31 = .ok (.aload_n 0, 1) := by decide +kernel
theorem dX8_set_32 : decode cX8_set 32 = .ok (.getfield 21, 3) := by decide +kernel
theorem dX8_set_35 : decode cX8_set 35 = .ok (.invokevirtual 39, 3) := by decide +kernel
theorem dX8_set_38 : decode cX8_set 38 = .ok (.ifCond .eq 14, 3) := by decide +kernel
theorem dX8_set_41 : decode cX8_set 41 = .ok (.aload_n 0, 1) := by decide +kernel
theorem dX8_set_42 : decode cX8_set 42 = .ok (.getfield 21, 3) := by decide +kernel
theorem dX8_set_45 : decode cX8_set 45 = .ok (.iload_n 2, 1) := by decide +kernel
theorem dX8_set_46 : decode cX8_set 46 = .ok (.putfield 43, 3) := by decide +kernel
theorem dX8_set_49 : decode cX8_set 49 = .ok (.goto 13, 3) := by decide +kernel
theorem dX8_set_52 : decode cX8_set 52 = .ok (.aload_n 0, 1) := by decide +kernel
theorem dX8_set_53 : decode cX8_set 53 = .ok (.getfield 21, 3) := by decide +kernel
theorem dX8_set_56 : decode cX8_set 56 = .ok (.getfield 47, 3) := by decide +kernel
theorem dX8_set_59 : decode cX8_set 59 = .ok (.iload_n 1, 1) := by decide +kernel
theorem dX8_set_60 : decode cX8_set 60 = .ok (.iload_n 2, 1) := by decide +kernel
theorem dX8_set_61 : decode cX8_set 61 = .ok (.iastore, 1) := by decide +kernel
theorem dX8_set_62 : decode cX8_set 62 = .ok (.return_, 1) := by decide +kernel
theorem dX8_register_0 : decode cX8_register 0 = .ok (.iload_n 1, 1) := by decide +kernel
theorem dX8_register_1 : decode cX8_register 1 = .ok (.ifCond .lt 9, 3) := by decide +kernel
theorem dX8_register_4 : decode cX8_register 4 = .ok (.iload_n 1, 1) := by decide +kernel
theorem dX8_register_5 : decode cX8_register 5 = .ok (.bipush 9, 2) := by decide +kernel
theorem dX8_register_7 : decode cX8_register 7 = .ok (.if_icmp .le 11, 3) := by decide +kernel
theorem dX8_register_10 : decode cX8_register 10 = .ok (.new 32, 3) := by decide +kernel
theorem dX8_register_13 : decode cX8_register 13 = .ok (.dup, 1) := by decide +kernel
theorem dX8_register_14 : decode cX8_register 14 = .ok (.invokespecial 34, 3) := by decide +kernel
theorem dX8_register_17 : decode cX8_register 17 = .ok (.athrow, 1) := by decide +kernel
theorem dX8_register_18 : decode cX8_register 18 = .ok (.iload_n 1, 1) := by decide +kernel
theorem dX8_register_19 : decode cX8_register 19 = .ok (.bipush 8, 2) := by decide +kernel
theorem dX8_register_21 : decode cX8_register 21 = .ok (.if_icmp .ne 14, 3) := by decide +kernel
theorem dX8_register_24 : decode cX8_register 24 = .ok (.aload_n 0, 1) := by decide +kernel
theorem dX8_register_25 : decode cX8_register 25 = .ok (.getfield 10, 3) := by decide +kernel
theorem dX8_register_28 : decode cX8_register 28 = .ok (.getfield 50, 3) := by decide +kernel
theorem dX8_register_31 : decode cX8_register 31 = .ok (.getfield 54, 3) := by decide +kernel
theorem dX8_register_34 : decode cX8_register 34 = .ok (.ireturn, 1) := by decide +kernel
theorem dX8_register_35 : decode cX8_register 35 = .ok (.iload_n 1, 1) := by decide +kernel
theorem dX8_register_36 : decode cX8_register 36 = .ok (.bipush 9, 2) := by decide +kernel
theorem dX8_register_38 : decode cX8_register 38 = .ok (.if_icmp .ne 13, 3) := by decide +kernel
theorem dX8_register_41 : decode cX8_register 41 = .ok (.aload_n 0, 1) := by decide +kernel
theorem dX8_register_42 : decode cX8_register 42 = .ok (.getfield 21, 3) := by decide +kernel
theorem dX8_register_45 : decode cX8_register 45 = .ok (.getfield 43, 3) := by decide +kernel
theorem dX8_register_48 : decode cX8_register 48 = .ok (.goto 12, 3) := by decide +kernel
theorem dX8_register_51 : decode cX8_register 51 = .ok (.aload_n 0, 1) := by decide +kernel
theorem dX8_register_52 : decode cX8_register 52 = .ok (.getfield 21, 3) := by decide +kernel
theorem dX8_register_55 : decode cX8_register 55 = .ok (.getfield 47, 3) := by decide +kernel
theorem dX8_register_58 : decode cX8_register 58 = .ok (.iload_n 1, 1) := by decide +kernel
theorem dX8_register_59 : decode cX8_register 59 = .ok (.iaload, 1) := by decide +kernel
theorem dX8_register_60 : decode cX8_register 60 = .ok (.ireturn, 1) := by decide +kernel
set_option maxRecDepth 20000 in
theorem ggX8_start_X8_isWord : GoodIn wsX8_start wsX8_isWord := goodIn_r _ [10, 11] (by decide +kernel) (by decide +kernel)
set_option maxRecDepth 20000 in
theorem gX8_start_X8_isWord : GoodIn wsX8_start (va_wsS RX8 29 yX8_isWord wsX8_isWord) := goodIn_app (goodIn_of _ (by decide +kernel)) ggX8_start_X8_isWord
set_option maxRecDepth 20000 in
theorem ggX8_start_X6_takeStatus : GoodIn wsX8_start wsX6_takeStatus := goodIn_r _ [16, 17, 18, 19, 20, 23, 24, 25, 26, 27, 28, 29, 30, 31, 32, 33] (by decide +kernel) (by decide +kernel)
set_option maxRecDepth 20000 in
theorem gX8_start_X6_takeStatus : GoodIn wsX8_start (wsV RX8 59 RX6 yX6_takeStatus wsX6_takeStatus) := goodIn_app (goodIn_of _ (by decide +kernel)) ggX8_start_X6_takeStatus
theorem dX8_start_0 : decode cX8_start 0 = .ok (.iload_n 1, 1) := by decide +kernel
theorem dX8_start_1 : decode cX8_start 1 = .ok (.invokestatic 29, 3) := by decide +kernel
theorem dX8_start_4 : decode cX8_start 4 = .ok (.ifCond .ne 11, 3) := by decide +kernel
theorem dX8_start_7 : decode cX8_start 7 = .ok (.new 32, 3) := by decide +kernel
theorem dX8_start_10 : decode cX8_start 10 = .ok (.dup, 1) := by decide +kernel
theorem dX8_start_11 : decode cX8_start 11 = .ok (.invokespecial 34, 3) := by decide +kernel
theorem dX8_start_14 : decode cX8_start 14 = .ok (.athrow, 1) := by decide +kernel
theorem dX8_start_15 : decode cX8_start 15 = .ok (.aload_n 0, 1) := by decide +kernel
theorem dX8_start_16 : decode cX8_start 16 = .ok (.getfield 21, 3) := by decide +kernel
theorem dX8_start_19 : decode cX8_start 19 = .ok (.sipush 224, 3) := by decide +kernel
theorem dX8_start_22 : decode cX8_start 22 = .ok (.invokevirtual 59, 3) := by decide +kernel
theorem dX8_start_25 : decode cX8_start 25 = .ok (.aload_n 0, 1) := by decide +kernel
theorem dX8_start_26 : decode cX8_start 26 = .ok (.getfield 21, 3) := by decide +kernel
theorem dX8_start_29 : decode cX8_start 29 = .ok (.getfield 47, 3) := by decide +kernel
theorem dX8_start_32 : decode cX8_start 32 = .ok (.bipush 7, 2) := by decide +kernel
theorem dX8_start_34 : decode cX8_start 34 = .ok (.iload_n 1, 1) := by decide +kernel
theorem dX8_start_35 : decode cX8_start 35 = .ok (.iastore, 1) := by decide +kernel
theorem dX8_start_36 : decode cX8_start 36 = .ok (.aload_n 0, 1) := by decide +kernel
theorem dX8_start_37 : decode cX8_start 37 = .ok (.getfield 21, 3) := by decide +kernel
theorem dX8_start_40 : decode cX8_start 40 = .ok (.iconst 0, 1) := by decide +kernel
theorem dX8_start_41 : decode cX8_start 41 = .ok (.putfield 63, 3) := by decide +kernel
theorem dX8_start_44 : decode cX8_start 44 = .ok (.aload_n 0, 1) := by decide +kernel
theorem dX8_start_45 : decode cX8_start 45 = .ok (.getfield 21, 3) := by decide +kernel
theorem dX8_start_48 : decode cX8_start 48 = .ok (.iconst 0, 1) := by decide +kernel
theorem dX8_start_49 : decode cX8_start 49 = .ok (.putfield 66, 3) := by decide +kernel
theorem dX8_start_52 : decode cX8_start 52 = .ok (.return_, 1) := by decide +kernel
theorem dX8_run_0 : decode cX8_run 0 = .ok (.iload_n 1, 1) := by decide +kernel
theorem dX8_run_1 : decode cX8_run 1 = .ok (.iconst 1, 1) := by decide +kernel
theorem dX8_run_2 : decode cX8_run 2 = .ok (.if_icmp .lt 9, 3) := by decide +kernel
theorem dX8_run_5 : decode cX8_run 5 = .ok (.iload_n 1, 1) := by decide +kernel
theorem dX8_run_6 : decode cX8_run 6 = .ok (.bipush 40, 2) := by decide +kernel
theorem dX8_run_8 : decode cX8_run 8 = .ok (.if_icmp .le 11, 3) := by decide +kernel
theorem dX8_run_11 : decode cX8_run 11 = .ok (.new 32, 3) := by decide +kernel
theorem dX8_run_14 : decode cX8_run 14 = .ok (.dup, 1) := by decide +kernel
theorem dX8_run_15 : decode cX8_run 15 = .ok (.invokespecial 34, 3) := by decide +kernel
theorem dX8_run_18 : decode cX8_run 18 = .ok (.athrow, 1) := by decide +kernel
theorem dX8_run_19 : decode cX8_run 19 = .ok (.aload_n 0, 1) := by decide +kernel
theorem dX8_run_20 : decode cX8_run 20 = .ok (.getfield 21, 3) := by decide +kernel
theorem dX8_run_23 : decode cX8_run 23 = .ok (.getfield 63, 3) := by decide +kernel
theorem dX8_run_26 : decode cX8_run 26 = .ok (.ifCond .eq 11, 3) := by decide +kernel
theorem dX8_run_29 : decode cX8_run 29 = .ok (.new 70, 3) := by decide +kernel
theorem dX8_run_32 : decode cX8_run 32 = .ok (.dup, 1) := by decide +kernel
theorem dX8_run_33 : decode cX8_run 33 = .ok (.invokespecial 72, 3) := by decide +kernel
theorem dX8_run_36 : decode cX8_run 36 = .ok (.athrow, 1) := by decide +kernel
theorem dX8_run_37 : decode cX8_run 37 = .ok (.iconst 1, 1) := by decide +kernel
theorem dX8_run_38 : decode cX8_run 38 = .ok (.istore_n 2, 1) := by decide +kernel
theorem dX8_run_39 : decode cX8_run 39 = .ok (.iload_n 2, 1) := by decide +kernel
theorem dX8_run_40 : decode cX8_run 40 = .ok (.iload_n 1, 1) := by decide +kernel
theorem dX8_run_41 : decode cX8_run 41 = .ok (.if_icmp .gt 52, 3) := by decide +kernel
theorem dX8_run_44 : decode cX8_run 44 = .ok (.aload_n 0, 1) := by decide +kernel
theorem dX8_run_45 : decode cX8_run 45 = .ok (.getfield 21, 3) := by decide +kernel
theorem dX8_run_48 : decode cX8_run 48 = .ok (.invokevirtual 73, 3) := by decide +kernel
theorem dX8_run_51 : decode cX8_run 51 = .ok (.aload_n 0, 1) := by decide +kernel
theorem dX8_run_52 : decode cX8_run 52 = .ok (.getfield 21, 3) := by decide +kernel
theorem dX8_run_55 : decode cX8_run 55 = .ok (.getfield 63, 3) := by decide +kernel
theorem dX8_run_58 : decode cX8_run 58 = .ok (.ifCond .ne 17, 3) := by decide +kernel
theorem dX8_run_61 : decode cX8_run 61 = .ok (.aload_n 0, 1) := by decide +kernel
theorem dX8_run_62 : decode cX8_run 62 = .ok (.getfield 10, 3) := by decide +kernel
theorem dX8_run_65 : decode cX8_run 65 = .ok (.invokevirtual 76, 3) := by decide +kernel
theorem dX8_run_68 : decode cX8_run 68 = .ok (.aload_n 0, 1) := by decide +kernel
theorem dX8_run_69 : decode cX8_run 69 = .ok (.getfield 21, 3) := by decide +kernel
theorem dX8_run_72 : decode cX8_run 72 = .ok (.invokevirtual 79, 3) := by decide +kernel
theorem dX8_run_75 : decode cX8_run 75 = .ok (.aload_n 0, 1) := by decide +kernel
theorem dX8_run_76 : decode cX8_run 76 = .ok (.getfield 21, 3) := by decide +kernel
theorem dX8_run_79 : decode cX8_run 79 = .ok (.getfield 63, 3) := by decide +kernel
theorem dX8_run_82 : decode cX8_run 82 = .ok (.ifCond .eq 5, 3) := by decide +kernel
theorem dX8_run_85 : decode cX8_run 85 = .ok (.iload_n 2, 1) := by decide +kernel
theorem dX8_run_86 : decode cX8_run 86 = .ok (.ireturn, 1) := by decide +kernel
theorem dX8_run_87 : decode cX8_run 87 = .ok (.iinc 2 1, 3) := by decide +kernel
theorem dX8_run_90 : decode cX8_run 90 = .ok (.goto (-51), 3) := by decide +kernel
theorem dX8_run_93 : decode cX8_run 93 = .ok (.iload_n 1, 1) := by decide +kernel
theorem dX8_run_94 : decode cX8_run 94 = .ok (.ireturn, 1) := by decide +kernel
set_option maxRecDepth 20000 in
theorem ggX8_key_X2_type : GoodIn wsX8_key wsX2_type := goodIn_r _ [9, 10, 11, 12, 13, 14, 15, 16, 17, 18, 19, 20, 29, 30, 31, 32, 33, 34, 35, 36, 37, 38, 39, 40, 41, 42, 43, 44, 45, 46, 47, 48] (by decide +kernel) (by decide +kernel)
set_option maxRecDepth 20000 in
theorem gX8_key_X2_type : GoodIn wsX8_key (wsV RX8 86 RX2 yX2_type wsX2_type) := goodIn_app (goodIn_of _ (by decide +kernel)) ggX8_key_X2_type
theorem dX8_key_0 : decode cX8_key 0 = .ok (.iload_n 1, 1) := by decide +kernel
theorem dX8_key_1 : decode cX8_key 1 = .ok (.ifCond .lt 10, 3) := by decide +kernel
theorem dX8_key_4 : decode cX8_key 4 = .ok (.iload_n 1, 1) := by decide +kernel
theorem dX8_key_5 : decode cX8_key 5 = .ok (.sipush 255, 3) := by decide +kernel
theorem dX8_key_8 : decode cX8_key 8 = .ok (.if_icmp .le 11, 3) := by decide +kernel
theorem dX8_key_11 : decode cX8_key 11 = .ok (.new 32, 3) := by decide +kernel
theorem dX8_key_14 : decode cX8_key 14 = .ok (.dup, 1) := by decide +kernel
theorem dX8_key_15 : decode cX8_key 15 = .ok (.invokespecial 34, 3) := by decide +kernel
theorem dX8_key_18 : decode cX8_key 18 = .ok (.athrow, 1) := by decide +kernel
theorem dX8_key_19 : decode cX8_key 19 = .ok (.aload_n 0, 1) := by decide +kernel
theorem dX8_key_20 : decode cX8_key 20 = .ok (.getfield 10, 3) := by decide +kernel
theorem dX8_key_23 : decode cX8_key 23 = .ok (.getfield 82, 3) := by decide +kernel
theorem dX8_key_26 : decode cX8_key 26 = .ok (.iload_n 1, 1) := by decide +kernel
theorem dX8_key_27 : decode cX8_key 27 = .ok (.invokevirtual 86, 3) := by decide +kernel
theorem dX8_key_30 : decode cX8_key 30 = .ok (.return_, 1) := by decide +kernel
theorem dX8_printed_0 : decode cX8_printed 0 = .ok (.aload_n 0, 1) := by decide +kernel
theorem dX8_printed_1 : decode cX8_printed 1 = .ok (.getfield 10, 3) := by decide +kernel
theorem dX8_printed_4 : decode cX8_printed 4 = .ok (.getfield 91, 3) := by decide +kernel
theorem dX8_printed_7 : decode cX8_printed 7 = .ok (.astore_n 2, 1) := by decide +kernel
theorem dX8_printed_8 : decode cX8_printed 8 = .ok (.iload_n 1, 1) := by decide +kernel
theorem dX8_printed_9 : decode cX8_printed 9 = .ok (.iconst (-1), 1) := by decide +kernel
theorem dX8_printed_10 : decode cX8_printed 10 = .ok (.if_icmp .lt 17, 3) := by decide +kernel
theorem dX8_printed_13 : decode cX8_printed 13 = .ok (.iload_n 1, 1) := by decide +kernel
theorem dX8_printed_14 : decode cX8_printed 14 = .ok (.bipush 32, 2) := by decide +kernel
theorem dX8_printed_16 : decode cX8_printed 16 = .ok (.if_icmp .ge 11, 3) := by decide +kernel
theorem dX8_printed_19 : decode cX8_printed 19 = .ok (.iload_n 1, 1) := by decide +kernel
theorem dX8_printed_20 : decode cX8_printed 20 = .ok (.aload_n 2, 1) := by decide +kernel
theorem dX8_printed_21 : decode cX8_printed 21 = .ok (.getfield 97, 3) := by decide +kernel
theorem dX8_printed_24 : decode cX8_printed 24 = .ok (.if_icmp .lt 11, 3) := by decide +kernel
theorem dX8_printed_27 : decode cX8_printed 27 = .ok (.new 100, 3) := by decide +kernel
theorem dX8_printed_30 : decode cX8_printed 30 = .ok (.dup, 1) := by decide +kernel
theorem dX8_printed_31 : decode cX8_printed 31 = .ok (.invokespecial 102, 3) := by decide +kernel
theorem dX8_printed_34 : decode cX8_printed 34 = .ok (.athrow, 1) := by decide +kernel
theorem dX8_printed_35 : decode cX8_printed 35 = .ok (.iload_n 1, 1) := by decide +kernel
theorem dX8_printed_36 : decode cX8_printed 36 = .ok (.iconst (-1), 1) := by decide +kernel
theorem dX8_printed_37 : decode cX8_printed 37 = .ok (.if_icmp .ne 10, 3) := by decide +kernel
theorem dX8_printed_40 : decode cX8_printed 40 = .ok (.aload_n 2, 1) := by decide +kernel
theorem dX8_printed_41 : decode cX8_printed 41 = .ok (.getfield 97, 3) := by decide +kernel
theorem dX8_printed_44 : decode cX8_printed 44 = .ok (.goto 19, 3) := by decide +kernel
theorem dX8_printed_47 : decode cX8_printed 47 = .ok (.aload_n 2, 1) := by decide +kernel
theorem dX8_printed_48 : decode cX8_printed 48 = .ok (.getfield 103, 3) := by decide +kernel
theorem dX8_printed_51 : decode cX8_printed 51 = .ok (.aload_n 2, 1) := by decide +kernel
theorem dX8_printed_52 : decode cX8_printed 52 = .ok (.getfield 97, 3) := by decide +kernel
theorem dX8_printed_55 : decode cX8_printed 55 = .ok (.iconst 1, 1) := by decide +kernel
theorem dX8_printed_56 : decode cX8_printed 56 = .ok (.isub, 1) := by decide +kernel
theorem dX8_printed_57 : decode cX8_printed 57 = .ok (.iload_n 1, 1) := by decide +kernel
theorem dX8_printed_58 : decode cX8_printed 58 = .ok (.isub, 1) := by decide +kernel
theorem dX8_printed_59 : decode cX8_printed 59 = .ok (.bipush 32, 2) := by decide +kernel
theorem dX8_printed_61 : decode cX8_printed 61 = .ok (.irem, 1) := by decide +kernel
theorem dX8_printed_62 : decode cX8_printed 62 = .ok (.iaload, 1) := by decide +kernel
theorem dX8_printed_63 : decode cX8_printed 63 = .ok (.ireturn, 1) := by decide +kernel
set_option maxRecDepth 20000 in
theorem ggX8_load_X8_isDiskWord : GoodIn wsX8_load wsX8_isDiskWord := goodIn_r _ [9] (by decide +kernel) (by decide +kernel)
set_option maxRecDepth 20000 in
theorem gX8_load_X8_isDiskWord : GoodIn wsX8_load (va_wsS RX8 106 yX8_isDiskWord wsX8_isDiskWord) := goodIn_app (goodIn_of _ (by decide +kernel)) ggX8_load_X8_isDiskWord
set_option maxRecDepth 20000 in
theorem ggX8_load_X8_isWord : GoodIn wsX8_load wsX8_isWord := goodIn_r _ [12, 13] (by decide +kernel) (by decide +kernel)
set_option maxRecDepth 20000 in
theorem gX8_load_X8_isWord : GoodIn wsX8_load (va_wsS RX8 29 yX8_isWord wsX8_isWord) := goodIn_app (goodIn_of _ (by decide +kernel)) ggX8_load_X8_isWord
theorem dX8_load_0 : decode cX8_load 0 = .ok (.iload_n 1, 1) := by decide +kernel
theorem dX8_load_1 : decode cX8_load 1 = .ok (.iload_n 2, 1) := by decide +kernel
theorem dX8_load_2 : decode cX8_load 2 = .ok (.invokestatic 106, 3) := by decide +kernel
theorem dX8_load_5 : decode cX8_load 5 = .ok (.ifCond .eq 10, 3) := by decide +kernel
theorem dX8_load_8 : decode cX8_load 8 = .ok (.iload_n 3, 1) := by decide +kernel
theorem dX8_load_9 : decode cX8_load 9 = .ok (.invokestatic 29, 3) := by decide +kernel
theorem dX8_load_12 : decode cX8_load 12 = .ok (.ifCond .ne 11, 3) := by decide +kernel
theorem dX8_load_15 : decode cX8_load 15 = .ok (.new 32, 3) := by decide +kernel
theorem dX8_load_18 : decode cX8_load 18 = .ok (.dup, 1) := by decide +kernel
theorem dX8_load_19 : decode cX8_load 19 = .ok (.invokespecial 34, 3) := by decide +kernel
theorem dX8_load_22 : decode cX8_load 22 = .ok (.athrow, 1) := by decide +kernel
theorem dX8_load_23 : decode cX8_load 23 = .ok (.aload_n 0, 1) := by decide +kernel
theorem dX8_load_24 : decode cX8_load 24 = .ok (.getfield 10, 3) := by decide +kernel
theorem dX8_load_27 : decode cX8_load 27 = .ok (.getfield 110, 3) := by decide +kernel
theorem dX8_load_30 : decode cX8_load 30 = .ok (.getfield 114, 3) := by decide +kernel
theorem dX8_load_33 : decode cX8_load 33 = .ok (.bipush 16, 2) := by decide +kernel
theorem dX8_load_35 : decode cX8_load 35 = .ok (.iload_n 1, 1) := by decide +kernel
theorem dX8_load_36 : decode cX8_load 36 = .ok (.imul, 1) := by decide +kernel
theorem dX8_load_37 : decode cX8_load 37 = .ok (.iload_n 2, 1) := by decide +kernel
theorem dX8_load_38 : decode cX8_load 38 = .ok (.iadd, 1) := by decide +kernel
theorem dX8_load_39 : decode cX8_load 39 = .ok (.iload_n 3, 1) := by decide +kernel
theorem dX8_load_40 : decode cX8_load 40 = .ok (.iastore, 1) := by decide +kernel
theorem dX8_load_41 : decode cX8_load 41 = .ok (.return_, 1) := by decide +kernel
set_option maxRecDepth 20000 in
theorem ggX8_disk_X8_isDiskWord : GoodIn wsX8_disk wsX8_isDiskWord := goodIn_r _ [9] (by decide +kernel) (by decide +kernel)
set_option maxRecDepth 20000 in
theorem gX8_disk_X8_isDiskWord : GoodIn wsX8_disk (va_wsS RX8 106 yX8_isDiskWord wsX8_isDiskWord) := goodIn_app (goodIn_of _ (by decide +kernel)) ggX8_disk_X8_isDiskWord
theorem dX8_disk_0 : decode cX8_disk 0 = .ok (.iload_n 1, 1) := by decide +kernel
theorem dX8_disk_1 : decode cX8_disk 1 = .ok (.iload_n 2, 1) := by decide +kernel
theorem dX8_disk_2 : decode cX8_disk 2 = .ok (.invokestatic 106, 3) := by decide +kernel
theorem dX8_disk_5 : decode cX8_disk 5 = .ok (.ifCond .ne 11, 3) := by decide +kernel
theorem dX8_disk_8 : decode cX8_disk 8 = .ok (.new 32, 3) := by decide +kernel
theorem dX8_disk_11 : decode cX8_disk 11 = .ok (.dup, 1) := by decide +kernel
theorem dX8_disk_12 : decode cX8_disk 12 = .ok (.invokespecial 34, 3) := by decide +kernel
theorem dX8_disk_15 : decode cX8_disk 15 = .ok (.athrow, 1) := by decide +kernel
theorem dX8_disk_16 : decode cX8_disk 16 = .ok (.aload_n 0, 1) := by decide +kernel
theorem dX8_disk_17 : decode cX8_disk 17 = .ok (.getfield 10, 3) := by decide +kernel
theorem dX8_disk_20 : decode cX8_disk 20 = .ok (.getfield 110, 3) := by decide +kernel
theorem dX8_disk_23 : decode cX8_disk 23 = .ok (.getfield 114, 3) := by decide +kernel
theorem dX8_disk_26 : decode cX8_disk 26 = .ok (.bipush 16, 2) := by decide +kernel
theorem dX8_disk_28 : decode cX8_disk 28 = .ok (.iload_n 1, 1) := by decide +kernel
theorem dX8_disk_29 : decode cX8_disk 29 = .ok (.imul, 1) := by decide +kernel
theorem dX8_disk_30 : decode cX8_disk 30 = .ok (.iload_n 2, 1) := by decide +kernel
theorem dX8_disk_31 : decode cX8_disk 31 = .ok (.iadd, 1) := by decide +kernel
theorem dX8_disk_32 : decode cX8_disk 32 = .ok (.iaload, 1) := by decide +kernel
theorem dX8_disk_33 : decode cX8_disk 33 = .ok (.ireturn, 1) := by decide +kernel
set_option maxRecDepth 20000 in
theorem ggX8_device_X0_peek : GoodIn wsX8_device wsX0_peek := goodIn_r _ [7, 8, 9, 10, 11, 12, 13, 14, 15, 16, 17, 18, 19, 20, 21, 22, 23, 24, 25, 26, 27, 28, 29, 30, 31, 32, 35, 36, 37, 38, 39, 40, 41, 42, 43, 44, 45, 46, 47, 48, 49, 50, 51, 52, 53, 54, 55, 56, 57, 58, 59, 60, 61, 62, 63, 64, 65] (by decide +kernel) (by decide +kernel)
set_option maxRecDepth 20000 in
theorem gX8_device_X0_peek : GoodIn wsX8_device (wsV RX8 120 RX0 yX0_peek wsX0_peek) := goodIn_app (goodIn_of _ (by decide +kernel)) ggX8_device_X0_peek
theorem dX8_device_0 : decode cX8_device 0 = .ok (.iload_n 1, 1) := by decide +kernel
theorem dX8_device_1 : decode cX8_device 1 = .ok (.ldc 119, 2) := by decide +kernel
theorem dX8_device_3 : decode cX8_device 3 = .ok (.if_icmp .ge 7, 3) := by decide +kernel
theorem dX8_device_6 : decode cX8_device 6 = .ok (.iconst (-1), 1) := by decide +kernel
theorem dX8_device_7 : decode cX8_device 7 = .ok (.goto 11, 3) := by decide +kernel
theorem dX8_device_10 : decode cX8_device 10 = .ok (.aload_n 0, 1) := by decide +kernel
theorem dX8_device_11 : decode cX8_device 11 = .ok (.getfield 10, 3) := by decide +kernel
theorem dX8_device_14 : decode cX8_device 14 = .ok (.iload_n 1, 1) := by decide +kernel
theorem dX8_device_15 : decode cX8_device 15 = .ok (.invokevirtual 120, 3) := by decide +kernel
theorem dX8_device_18 : decode cX8_device 18 = .ok (.ireturn, 1) := by decide +kernel
theorem dX8_state_0 : decode cX8_state 0 = .ok (.aload_n 0, 1) := by decide +kernel
theorem dX8_state_1 : decode cX8_state 1 = .ok (.getfield 21, 3) := by decide +kernel
theorem dX8_state_4 : decode cX8_state 4 = .ok (.getfield 63, 3) := by decide +kernel
theorem dX8_state_7 : decode cX8_state 7 = .ok (.ifCond .eq 11, 3) := by decide +kernel
theorem dX8_state_10 : decode cX8_state 10 = .ok (.aload_n 0, 1) := by decide +kernel
theorem dX8_state_11 : decode cX8_state 11 = .ok (.getfield 21, 3) := by decide +kernel
theorem dX8_state_14 : decode cX8_state 14 = .ok (.getfield 63, 3) := by decide +kernel
theorem dX8_state_17 : decode cX8_state 17 = .ok (.ireturn, 1) := by decide +kernel
theorem dX8_state_18 : decode cX8_state 18 = .ok (.aload_n 0, 1) := by decide +kernel
theorem dX8_state_19 : decode cX8_state 19 = .ok (.getfield 21, 3) := by decide +kernel
theorem dX8_state_22 : decode cX8_state 22 = .ok (.getfield 66, 3) := by decide +kernel
theorem dX8_state_25 : decode cX8_state 25 = .ok (.ifCond .eq 7, 3) := by decide +kernel
theorem dX8_state_28 : decode cX8_state 28 = .ok (.iconst 1, 1) := by decide +kernel
theorem dX8_state_29 : decode cX8_state 29 = .ok (.goto 4, 3) := by decide +kernel
theorem dX8_state_32 : decode cX8_state 32 = .ok (.iconst 0, 1) := by decide +kernel
theorem dX8_state_33 : decode cX8_state 33 = .ok (.ireturn, 1) := by decide +kernel
theorem dX8_isWord_0 : decode cX8_isWord 0 = .ok (.iload_n 0, 1) := by decide +kernel
theorem dX8_isWord_1 : decode cX8_isWord 1 = .ok (.ifCond .lt 13, 3) := by decide +kernel
theorem dX8_isWord_4 : decode cX8_isWord 4 = .ok (.iload_n 0, 1) := by decide +kernel
theorem dX8_isWord_5 : decode cX8_isWord 5 = .ok (.ldc 124, 2) := by decide +kernel
theorem dX8_isWord_7 : decode cX8_isWord 7 = .ok (.if_icmp .gt 7, 3) := by decide +kernel
theorem dX8_isWord_10 : decode cX8_isWord 10 = .ok (.iconst 1, 1) := by decide +kernel
theorem dX8_isWord_11 : decode cX8_isWord 11 = .ok (.goto 4, 3) := by decide +kernel
theorem dX8_isWord_14 : decode cX8_isWord 14 = .ok (.iconst 0, 1) := by decide +kernel
theorem dX8_isWord_15 : decode cX8_isWord 15 = .ok (.ireturn, 1) := by decide +kernel
theorem dX8_isMemory_0 : decode cX8_isMemory 0 = .ok (.iload_n 0, 1) := by decide +kernel
theorem dX8_isMemory_1 : decode cX8_isMemory 1 = .ok (.ifCond .lt 20, 3) := by decide +kernel
theorem dX8_isMemory_4 : decode cX8_isMemory 4 = .ok (.iload_n 0, 1) := by decide +kernel
theorem dX8_isMemory_5 : decode cX8_isMemory 5 = .ok (.sipush 1024, 3) := by decide +kernel
theorem dX8_isMemory_8 : decode cX8_isMemory 8 = .ok (.if_icmp .ge 13, 3) := by decide +kernel
theorem dX8_isMemory_11 : decode cX8_isMemory 11 = .ok (.iload_n 0, 1) := by decide +kernel
theorem dX8_isMemory_12 : decode cX8_isMemory 12 = .ok (.iconst 1, 1) := by decide +kernel
theorem dX8_isMemory_13 : decode cX8_isMemory 13 = .ok (.iand, 1) := by decide +kernel
theorem dX8_isMemory_14 : decode cX8_isMemory 14 = .ok (.ifCond .ne 7, 3) := by decide +kernel
theorem dX8_isMemory_17 : decode cX8_isMemory 17 = .ok (.iconst 1, 1) := by decide +kernel
theorem dX8_isMemory_18 : decode cX8_isMemory 18 = .ok (.goto 4, 3) := by decide +kernel
theorem dX8_isMemory_21 : decode cX8_isMemory 21 = .ok (.iconst 0, 1) := by decide +kernel
theorem dX8_isMemory_22 : decode cX8_isMemory 22 = .ok (.ireturn, 1) := by decide +kernel
theorem dX8_isDiskWord_0 : decode cX8_isDiskWord 0 = .ok (.iload_n 0, 1) := by decide +kernel
theorem dX8_isDiskWord_1 : decode cX8_isDiskWord 1 = .ok (.ifCond .lt 23, 3) := by decide +kernel
theorem dX8_isDiskWord_4 : decode cX8_isDiskWord 4 = .ok (.iload_n 0, 1) := by decide +kernel
theorem dX8_isDiskWord_5 : decode cX8_isDiskWord 5 = .ok (.bipush 8, 2) := by decide +kernel
theorem dX8_isDiskWord_7 : decode cX8_isDiskWord 7 = .ok (.if_icmp .ge 17, 3) := by decide +kernel
theorem dX8_isDiskWord_10 : decode cX8_isDiskWord 10 = .ok (.iload_n 1, 1) := by decide +kernel
theorem dX8_isDiskWord_11 : decode cX8_isDiskWord 11 = .ok (.ifCond .lt 13, 3) := by decide +kernel
theorem dX8_isDiskWord_14 : decode cX8_isDiskWord 14 = .ok (.iload_n 1, 1) := by decide +kernel
theorem dX8_isDiskWord_15 : decode cX8_isDiskWord 15 = .ok (.bipush 16, 2) := by decide +kernel
theorem dX8_isDiskWord_17 : decode cX8_isDiskWord 17 = .ok (.if_icmp .ge 7, 3) := by decide +kernel
theorem dX8_isDiskWord_20 : decode cX8_isDiskWord 20 = .ok (.iconst 1, 1) := by decide +kernel
theorem dX8_isDiskWord_21 : decode cX8_isDiskWord 21 = .ok (.goto 4, 3) := by decide +kernel
theorem dX8_isDiskWord_24 : decode cX8_isDiskWord 24 = .ok (.iconst 0, 1) := by decide +kernel
theorem dX8_isDiskWord_25 : decode cX8_isDiskWord 25 = .ok (.ireturn, 1) := by decide +kernel
theorem dX9_init_0 : decode cX9_init 0 = .ok (.aload_n 0, 1) := by decide +kernel
theorem dX9_init_1 : decode cX9_init 1 = .ok (.invokespecial 1, 3) := by decide +kernel
theorem dX9_init_4 : decode cX9_init 4 = .ok (.aload_n 0, 1) := by decide +kernel
theorem dX9_init_5 : decode cX9_init 5 = .ok (.sipush 512, 3) := by decide +kernel
theorem dX9_init_8 : decode cX9_init 8 = .ok (.newarray .int, 2) := by decide +kernel
theorem dX9_init_10 : decode cX9_init 10 = .ok (.putfield 7, 3) := by decide +kernel
theorem dX9_init_13 : decode cX9_init 13 = .ok (.aload_n 0, 1) := by decide +kernel
theorem dX9_init_14 : decode cX9_init 14 = .ok (.bipush 16, 2) := by decide +kernel
theorem dX9_init_16 : decode cX9_init 16 = .ok (.newarray .int, 2) := by decide +kernel
theorem dX9_init_18 : decode cX9_init 18 = .ok (.putfield 13, 3) := by decide +kernel
theorem dX9_init_21 : decode cX9_init 21 = .ok (.aload_n 0, 1) := by decide +kernel
theorem dX9_init_22 : decode cX9_init 22 = .ok (.bipush 16, 2) := by decide +kernel
theorem dX9_init_24 : decode cX9_init 24 = .ok (.newarray .int, 2) := by decide +kernel
theorem dX9_init_26 : decode cX9_init 26 = .ok (.putfield 16, 3) := by decide +kernel
theorem dX9_init_29 : decode cX9_init 29 = .ok (.aload_n 0, 1) := by decide +kernel
theorem dX9_init_30 : decode cX9_init 30 = .ok (.bipush 8, 2) := by decide +kernel
theorem dX9_init_32 : decode cX9_init 32 = .ok (.newarray .int, 2) := by decide +kernel
theorem dX9_init_34 : decode cX9_init 34 = .ok (.putfield 19, 3) := by decide +kernel
theorem dX9_init_37 : decode cX9_init 37 = .ok (.aload_n 0, 1) := by decide +kernel
theorem dX9_init_38 : decode cX9_init 38 = .ok (.iconst 2, 1) := by decide +kernel
theorem dX9_init_39 : decode cX9_init 39 = .ok (.putfield 22, 3) := by decide +kernel
theorem dX9_init_42 : decode cX9_init 42 = .ok (.aload_n 0, 1) := by decide +kernel
theorem dX9_init_43 : decode cX9_init 43 = .ok (.iconst 3, 1) := by decide +kernel
theorem dX9_init_44 : decode cX9_init 44 = .ok (.newarray .boolean, 2) := by decide +kernel
theorem dX9_init_46 : decode cX9_init 46 = .ok (.putfield 26, 3) := by decide +kernel
theorem dX9_init_49 : decode cX9_init 49 = .ok (.aload_n 0, 1) := by decide +kernel
theorem dX9_init_50 : decode cX9_init 50 = .ok (.iconst 3, 1) := by decide +kernel
theorem dX9_init_51 : decode cX9_init 51 = .ok (.newarray .boolean, 2) := by decide +kernel
theorem dX9_init_53 : decode cX9_init 53 = .ok (.putfield 30, 3) := by decide +kernel
theorem dX9_init_56 : decode cX9_init 56 = .ok (.aload_n 0, 1) := by decide +kernel
theorem dX9_init_57 : decode cX9_init 57 = .ok (.iconst 3, 1) := by decide +kernel
theorem dX9_init_58 : decode cX9_init 58 = .ok (.newarray .boolean, 2) := by decide +kernel
theorem dX9_init_60 : decode cX9_init 60 = .ok (.putfield 33, 3) := by decide +kernel
theorem dX9_init_63 : decode cX9_init 63 = .ok (.aload_n 0, 1) := by decide +kernel
theorem dX9_init_64 : decode cX9_init 64 = .ok (.iconst 3, 1) := by decide +kernel
theorem dX9_init_65 : decode cX9_init 65 = .ok (.newarray .boolean, 2) := by decide +kernel
theorem dX9_init_67 : decode cX9_init 67 = .ok (.putfield 36, 3) := by decide +kernel
theorem dX9_init_70 : decode cX9_init 70 = .ok (.aload_n 0, 1) := by decide +kernel
theorem dX9_init_71 : decode cX9_init 71 = .ok (.iconst 3, 1) := by decide +kernel
theorem dX9_init_72 : decode cX9_init 72 = .ok (.newarray .int, 2) := by decide +kernel
theorem dX9_init_74 : decode cX9_init 74 = .ok (.putfield 39, 3) := by decide +kernel
theorem dX9_init_77 : decode cX9_init 77 = .ok (.aload_n 0, 1) := by decide +kernel
theorem dX9_init_78 : decode cX9_init 78 = .ok (.bipush 32, 2) := by decide +kernel
theorem dX9_init_80 : decode cX9_init 80 = .ok (.newarray .int, 2) := by decide +kernel
theorem dX9_init_82 : decode cX9_init 82 = .ok (.putfield 42, 3) := by decide +kernel
theorem dX9_init_85 : decode cX9_init 85 = .ok (.aload_n 0, 1) := by decide +kernel
theorem dX9_init_86 : decode cX9_init 86 = .ok (.sipush 128, 3) := by decide +kernel
theorem dX9_init_89 : decode cX9_init 89 = .ok (.newarray .int, 2) := by decide +kernel
theorem dX9_init_91 : decode cX9_init 91 = .ok (.putfield 45, 3) := by decide +kernel
theorem dX9_init_94 : decode cX9_init 94 = .ok (.aload_n 0, 1) := by decide +kernel
theorem dX9_init_95 : decode cX9_init 95 = .ok (.getfield 26, 3) := by decide +kernel
theorem dX9_init_98 : decode cX9_init 98 = .ok (.iconst 0, 1) := by decide +kernel
theorem dX9_init_99 : decode cX9_init 99 = .ok (.iconst 1, 1) := by decide +kernel
theorem dX9_init_100 : decode cX9_init 100 = .ok (.bastore, 1) := by decide +kernel
theorem dX9_init_101 : decode cX9_init 101 = .ok (.aload_n 0, 1) := by decide +kernel
theorem dX9_init_102 : decode cX9_init 102 = .ok (.getfield 26, 3) := by decide +kernel
theorem dX9_init_105 : decode cX9_init 105 = .ok (.iconst 2, 1) := by decide +kernel
theorem dX9_init_106 : decode cX9_init 106 = .ok (.iconst 1, 1) := by decide +kernel
theorem dX9_init_107 : decode cX9_init 107 = .ok (.bastore, 1) := by decide +kernel
theorem dX9_init_108 : decode cX9_init 108 = .ok (.return_, 1) := by decide +kernel
theorem dX9_thrown_0 : decode cX9_thrown 0 = .ok (.aload_n 0, 1) := by decide +kernel
theorem dX9_thrown_1 : decode cX9_thrown 1 = .ok (.getfield 48, 3) := by decide +kernel
theorem dX9_thrown_4 : decode cX9_thrown 4 = .ok (.ireturn, 1) := by decide +kernel
theorem dX9_out_0 : decode cX9_out 0 = .ok (.iload_n 0, 1) := by decide +kernel
theorem dX9_out_1 : decode cX9_out 1 = .ok (.ifCond .lt 8, 3) := by decide +kernel
theorem dX9_out_4 : decode cX9_out 4 = .ok (.iload_n 0, 1) := by decide +kernel
theorem dX9_out_5 : decode cX9_out 5 = .ok (.iload_n 1, 1) := by decide +kernel
theorem dX9_out_6 : decode cX9_out 6 = .ok (.if_icmp .lt 7, 3) := by decide +kernel
theorem dX9_out_9 : decode cX9_out 9 = .ok (.iconst 1, 1) := by decide +kernel
theorem dX9_out_10 : decode cX9_out 10 = .ok (.goto 4, 3) := by decide +kernel
theorem dX9_out_13 : decode cX9_out 13 = .ok (.iconst 0, 1) := by decide +kernel
theorem dX9_out_14 : decode cX9_out 14 = .ok (.ireturn, 1) := by decide +kernel
theorem dX9_fail_0 : decode cX9_fail 0 = .ok (.aload_n 0, 1) := by decide +kernel
theorem dX9_fail_1 : decode cX9_fail 1 = .ok (.iload_n 1, 1) := by decide +kernel
theorem dX9_fail_2 : decode cX9_fail 2 = .ok (.putfield 48, 3) := by decide +kernel
theorem dX9_fail_5 : decode cX9_fail 5 = .ok (.iconst 0, 1) := by decide +kernel
theorem dX9_fail_6 : decode cX9_fail 6 = .ok (.ireturn, 1) := by decide +kernel
theorem dX9_bit_0 : decode cX9_bit 0 = .ok (.iload_n 0, 1) := by decide +kernel
theorem dX9_bit_1 : decode cX9_bit 1 = .ok (.ifCond .eq 7, 3) := by decide +kernel
theorem dX9_bit_4 : decode cX9_bit 4 = .ok (.iload_n 1, 1) := by decide +kernel
theorem dX9_bit_5 : decode cX9_bit 5 = .ok (.goto 4, 3) := by decide +kernel
theorem dX9_bit_8 : decode cX9_bit 8 = .ok (.iconst 0, 1) := by decide +kernel
theorem dX9_bit_9 : decode cX9_bit 9 = .ok (.ireturn, 1) := by decide +kernel
set_option maxRecDepth 20000 in
theorem ggX9_statusOf_X9_bit : GoodIn wsX9_statusOf wsX9_bit := goodIn_r _ [9] (by decide +kernel) (by decide +kernel)
set_option maxRecDepth 20000 in
theorem gX9_statusOf_X9_bit : GoodIn wsX9_statusOf (va_wsS RX9 52 yX9_bit wsX9_bit) := goodIn_app (goodIn_of _ (by decide +kernel)) ggX9_statusOf_X9_bit
theorem dX9_statusOf_0 : decode cX9_statusOf 0 = .ok (.aload_n 0, 1) := by decide +kernel
theorem dX9_statusOf_1 : decode cX9_statusOf 1 = .ok (.getfield 26, 3) := by decide +kernel
theorem dX9_statusOf_4 : decode cX9_statusOf 4 = .ok (.iload_n 1, 1) := by decide +kernel
theorem dX9_statusOf_5 : decode cX9_statusOf 5 = .ok (.baload, 1) := by decide +kernel
theorem dX9_statusOf_6 : decode cX9_statusOf 6 = .ok (.sipush 128, 3) := by decide +kernel
theorem dX9_statusOf_9 : decode cX9_statusOf 9 = .ok (.invokestatic 52, 3) := by decide +kernel
theorem dX9_statusOf_12 : decode cX9_statusOf 12 = .ok (.aload_n 0, 1) := by decide +kernel
theorem dX9_statusOf_13 : decode cX9_statusOf 13 = .ok (.getfield 30, 3) := by decide +kernel
theorem dX9_statusOf_16 : decode cX9_statusOf 16 = .ok (.iload_n 1, 1) := by decide +kernel
theorem dX9_statusOf_17 : decode cX9_statusOf 17 = .ok (.baload, 1) := by decide +kernel
theorem dX9_statusOf_18 : decode cX9_statusOf 18 = .ok (.bipush 64, 2) := by decide +kernel
theorem dX9_statusOf_20 : decode cX9_statusOf 20 = .ok (.invokestatic 52, 3) := by decide +kernel
theorem dX9_statusOf_23 : decode cX9_statusOf 23 = .ok (.iadd, 1) := by decide +kernel
theorem dX9_statusOf_24 : decode cX9_statusOf 24 = .ok (.iload_n 1, 1) := by decide +kernel
theorem dX9_statusOf_25 : decode cX9_statusOf 25 = .ok (.ifCond .ne 24, 3) := by decide +kernel
theorem dX9_statusOf_28 : decode cX9_statusOf 28 = .ok (.aload_n 0, 1) := by decide +kernel
theorem dX9_statusOf_29 : decode cX9_statusOf 29 = .ok (.getfield 56, 3) := by decide +kernel
theorem dX9_statusOf_32 : decode cX9_statusOf 32 = .ok (.iconst 2, 1) := by decide +kernel
theorem dX9_statusOf_33 : decode cX9_statusOf 33 = .ok (.invokestatic 52, 3) := by decide +kernel
theorem dX9_statusOf_36 : decode cX9_statusOf 36 = .ok (.aload_n 0, 1) := by decide +kernel
theorem dX9_statusOf_37 : decode cX9_statusOf 37 = .ok (.getfield 60, 3) := by decide +kernel
theorem dX9_statusOf_40 : decode cX9_statusOf 40 = .ok (.ldc 63, 2) := by decide +kernel
theorem dX9_statusOf_42 : decode cX9_statusOf 42 = .ok (.invokestatic 52, 3) := by decide +kernel
theorem dX9_statusOf_45 : decode cX9_statusOf 45 = .ok (.iadd, 1) := by decide +kernel
theorem dX9_statusOf_46 : decode cX9_statusOf 46 = .ok (.goto 4, 3) := by decide +kernel
theorem dX9_statusOf_49 : decode cX9_statusOf 49 = .ok (.iconst 0, 1) := by decide +kernel
theorem dX9_statusOf_50 : decode cX9_statusOf 50 = .ok (.iadd, 1) := by decide +kernel
theorem dX9_statusOf_51 : decode cX9_statusOf 51 = .ok (.ireturn, 1) := by decide +kernel
set_option maxRecDepth 20000 in
theorem ggX9_at_X9_statusOf : GoodIn wsX9_at wsX9_statusOf := goodIn_r _ [15, 16, 17, 18, 19, 20, 21, 22, 14, 23, 24, 25, 26, 27, 28, 29, 30, 31, 32, 33, 34, 35, 36, 37, 38, 39, 40, 41, 42, 43, 44, 45, 46, 47, 48, 49, 50, 51] (by decide +kernel) (by decide +kernel)
set_option maxRecDepth 20000 in
theorem gX9_at_X9_statusOf : GoodIn wsX9_at (wsV RX9 68 RX9 yX9_statusOf wsX9_statusOf) := goodIn_app (goodIn_of _ (by decide +kernel)) ggX9_at_X9_statusOf
theorem dX9_at_0 : decode cX9_at 0 = .ok (.iload_n 1, 1) := by decide +kernel
theorem dX9_at_1 : decode cX9_at 1 = .ok (.sipush 1024, 3) := by decide +kernel
theorem dX9_at_4 : decode cX9_at 4 = .ok (.if_icmp .ge 12, 3) := by decide +kernel
theorem dX9_at_7 : decode cX9_at 7 = .ok (.aload_n 0, 1) := by decide +kernel
theorem dX9_at_8 : decode cX9_at 8 = .ok (.getfield 7, 3) := by decide +kernel
theorem dX9_at_11 : decode cX9_at 11 = .ok (.iload_n 1, 1) := by decide +kernel
theorem dX9_at_12 : decode cX9_at 12 = .ok (.iconst 2, 1) := by decide +kernel
theorem dX9_at_13 : decode cX9_at 13 = .ok (.idiv, 1) := by decide +kernel
theorem dX9_at_14 : decode cX9_at 14 = .ok (.iaload, 1) := by decide +kernel
theorem dX9_at_15 : decode cX9_at 15 = .ok (.ireturn, 1) := by decide +kernel
theorem dX9_at_16 : decode cX9_at 16 = .ok (.iload_n 1, 1) := by decide +kernel
theorem dX9_at_17 : decode cX9_at 17 = .ok (.ldc 64, 2) := by decide +kernel
theorem dX9_at_19 : decode cX9_at 19 = .ok (.isub, 1) := by decide +kernel
theorem dX9_at_20 : decode cX9_at 20 = .ok (.istore_n 2, 1) := by decide +kernel
theorem dX9_at_21 : decode cX9_at 21 = .ok (.iload_n 2, 1) := by decide +kernel
theorem dX9_at_22 : decode cX9_at 22 = .ok (.ifCond .ge 5, 3) := by decide +kernel
theorem dX9_at_25 : decode cX9_at 25 = .ok (.iconst (-1), 1) := by decide +kernel
theorem dX9_at_26 : decode cX9_at 26 = .ok (.ireturn, 1) := by decide +kernel
theorem dX9_at_27 : decode cX9_at 27 = .ok (.iload_n 2, 1) := by decide +kernel
theorem dX9_at_28 : decode cX9_at 28 = .ok (.bipush 32, 2) := by decide +kernel
theorem dX9_at_30 : decode cX9_at 30 = .ok (.if_icmp .ge 12, 3) := by decide +kernel
theorem dX9_at_33 : decode cX9_at 33 = .ok (.aload_n 0, 1) := by decide +kernel
theorem dX9_at_34 : decode cX9_at 34 = .ok (.getfield 13, 3) := by decide +kernel
theorem dX9_at_37 : decode cX9_at 37 = .ok (.iload_n 2, 1) := by decide +kernel
theorem dX9_at_38 : decode cX9_at 38 = .ok (.iconst 2, 1) := by decide +kernel
theorem dX9_at_39 : decode cX9_at 39 = .ok (.idiv, 1) := by decide +kernel
theorem dX9_at_40 : decode cX9_at 40 = .ok (.iaload, 1) := by decide +kernel
theorem dX9_at_41 : decode cX9_at 41 = .ok (.ireturn, 1) := by decide +kernel
theorem dX9_at_42 : decode cX9_at 42 = .ok (.iload_n 2, 1) := by decide +kernel
theorem dX9_at_43 : decode cX9_at 43 = .ok (.bipush 64, 2) := by decide +kernel
theorem dX9_at_45 : decode cX9_at 45 = .ok (.if_icmp .ge 15, 3) := by decide +kernel
theorem dX9_at_48 : decode cX9_at 48 = .ok (.aload_n 0, 1) := by decide +kernel
theorem dX9_at_49 : decode cX9_at 49 = .ok (.getfield 16, 3) := by decide +kernel
theorem dX9_at_52 : decode cX9_at 52 = .ok (.iload_n 2, 1) := by decide +kernel
theorem dX9_at_53 : decode cX9_at 53 = .ok (.iconst 2, 1) := by decide +kernel
theorem dX9_at_54 : decode cX9_at 54 = .ok (.idiv, 1) := by decide +kernel
theorem dX9_at_55 : decode cX9_at 55 = .ok (.bipush 16, 2) := by decide +kernel
theorem dX9_at_57 : decode cX9_at 57 = .ok (.isub, 1) := by decide +kernel
theorem dX9_at_58 : decode cX9_at 58 = .ok (.iaload, 1) := by decide +kernel
theorem dX9_at_59 : decode cX9_at 59 = .ok (.ireturn, 1) := by decide +kernel
theorem dX9_at_60 : decode cX9_at 60 = .ok (.iload_n 2, 1) := by decide +kernel
theorem dX9_at_61 : decode cX9_at 61 = .ok (.bipush 64, 2) := by decide +kernel
theorem dX9_at_63 : decode cX9_at 63 = .ok (.if_icmp .ne 8, 3) := by decide +kernel
theorem dX9_at_66 : decode cX9_at 66 = .ok (.aload_n 0, 1) := by decide +kernel
theorem dX9_at_67 : decode cX9_at 67 = .ok (.getfield 65, 3) := by decide +kernel
theorem dX9_at_70 : decode cX9_at 70 = .ok (.ireturn, 1) := by decide +kernel
theorem dX9_at_71 : decode cX9_at 71 = .ok (.iload_n 2, 1) := by decide +kernel
theorem dX9_at_72 : decode cX9_at 72 = .ok (.bipush 80, 2) := by decide +kernel
theorem dX9_at_74 : decode cX9_at 74 = .ok (.if_icmp .ne 9, 3) := by decide +kernel
theorem dX9_at_77 : decode cX9_at 77 = .ok (.aload_n 0, 1) := by decide +kernel
theorem dX9_at_78 : decode cX9_at 78 = .ok (.iconst 1, 1) := by decide +kernel
theorem dX9_at_79 : decode cX9_at 79 = .ok (.invokevirtual 68, 3) := by decide +kernel
theorem dX9_at_82 : decode cX9_at 82 = .ok (.ireturn, 1) := by decide +kernel
theorem dX9_at_83 : decode cX9_at 83 = .ok (.iload_n 2, 1) := by decide +kernel
theorem dX9_at_84 : decode cX9_at 84 = .ok (.bipush 82, 2) := by decide +kernel
theorem dX9_at_86 : decode cX9_at 86 = .ok (.if_icmp .ne 8, 3) := by decide +kernel
theorem dX9_at_89 : decode cX9_at 89 = .ok (.aload_n 0, 1) := by decide +kernel
theorem dX9_at_90 : decode cX9_at 90 = .ok (.getfield 72, 3) := by decide +kernel
theorem dX9_at_93 : decode cX9_at 93 = .ok (.ireturn, 1) := by decide +kernel
theorem dX9_at_94 : decode cX9_at 94 = .ok (.iload_n 2, 1) := by decide +kernel
theorem dX9_at_95 : decode cX9_at 95 = .ok (.bipush 84, 2) := by decide +kernel
theorem dX9_at_97 : decode cX9_at 97 = .ok (.if_icmp .ne 9, 3) := by decide +kernel
theorem dX9_at_100 : decode cX9_at 100 = .ok (.aload_n 0, 1) := by decide +kernel
theorem dX9_at_101 : decode cX9_at 101 = .ok (.iconst 2, 1) := by decide +kernel
theorem dX9_at_102 : decode cX9_at 102 = .ok (.invokevirtual 68, 3) := by decide +kernel
theorem dX9_at_105 : decode cX9_at 105 = .ok (.ireturn, 1) := by decide +kernel
theorem dX9_at_106 : decode cX9_at 106 = .ok (.iload_n 2, 1) := by decide +kernel
theorem dX9_at_107 : decode cX9_at 107 = .ok (.bipush 86, 2) := by decide +kernel
theorem dX9_at_109 : decode cX9_at 109 = .ok (.if_icmp .ne 5, 3) := by decide +kernel
theorem dX9_at_112 : decode cX9_at 112 = .ok (.iconst 0, 1) := by decide +kernel
theorem dX9_at_113 : decode cX9_at 113 = .ok (.ireturn, 1) := by decide +kernel
theorem dX9_at_114 : decode cX9_at 114 = .ok (.iload_n 2, 1) := by decide +kernel
theorem dX9_at_115 : decode cX9_at 115 = .ok (.bipush 96, 2) := by decide +kernel
theorem dX9_at_117 : decode cX9_at 117 = .ok (.if_icmp .ne 9, 3) := by decide +kernel
theorem dX9_at_120 : decode cX9_at 120 = .ok (.aload_n 0, 1) := by decide +kernel
theorem dX9_at_121 : decode cX9_at 121 = .ok (.iconst 0, 1) := by decide +kernel
theorem dX9_at_122 : decode cX9_at 122 = .ok (.invokevirtual 68, 3) := by decide +kernel
theorem dX9_at_125 : decode cX9_at 125 = .ok (.ireturn, 1) := by decide +kernel
theorem dX9_at_126 : decode cX9_at 126 = .ok (.iload_n 2, 1) := by decide +kernel
theorem dX9_at_127 : decode cX9_at 127 = .ok (.bipush 98, 2) := by decide +kernel
theorem dX9_at_129 : decode cX9_at 129 = .ok (.if_icmp .ne 8, 3) := by decide +kernel
theorem dX9_at_132 : decode cX9_at 132 = .ok (.aload_n 0, 1) := by decide +kernel
theorem dX9_at_133 : decode cX9_at 133 = .ok (.getfield 75, 3) := by decide +kernel
theorem dX9_at_136 : decode cX9_at 136 = .ok (.ireturn, 1) := by decide +kernel
theorem dX9_at_137 : decode cX9_at 137 = .ok (.iload_n 2, 1) := by decide +kernel
theorem dX9_at_138 : decode cX9_at 138 = .ok (.bipush 100, 2) := by decide +kernel
theorem dX9_at_140 : decode cX9_at 140 = .ok (.if_icmp .ne 8, 3) := by decide +kernel
theorem dX9_at_143 : decode cX9_at 143 = .ok (.aload_n 0, 1) := by decide +kernel
theorem dX9_at_144 : decode cX9_at 144 = .ok (.getfield 78, 3) := by decide +kernel
theorem dX9_at_147 : decode cX9_at 147 = .ok (.ireturn, 1) := by decide +kernel
theorem dX9_at_148 : decode cX9_at 148 = .ok (.iload_n 2, 1) := by decide +kernel
theorem dX9_at_149 : decode cX9_at 149 = .ok (.bipush 102, 2) := by decide +kernel
theorem dX9_at_151 : decode cX9_at 151 = .ok (.if_icmp .ne 8, 3) := by decide +kernel
theorem dX9_at_154 : decode cX9_at 154 = .ok (.aload_n 0, 1) := by decide +kernel
theorem dX9_at_155 : decode cX9_at 155 = .ok (.getfield 81, 3) := by decide +kernel
theorem dX9_at_158 : decode cX9_at 158 = .ok (.ireturn, 1) := by decide +kernel
theorem dX9_at_159 : decode cX9_at 159 = .ok (.iload_n 2, 1) := by decide +kernel
theorem dX9_at_160 : decode cX9_at 160 = .ok (.bipush 126, 2) := by decide +kernel
theorem dX9_at_162 : decode cX9_at 162 = .ok (.if_icmp .ne 10, 3) := by decide +kernel
theorem dX9_at_165 : decode cX9_at 165 = .ok (.aload_n 0, 1) := by decide +kernel
theorem dX9_at_166 : decode cX9_at 166 = .ok (.getfield 84, 3) := by decide +kernel
theorem dX9_at_169 : decode cX9_at 169 = .ok (.goto 4, 3) := by decide +kernel
theorem dX9_at_172 : decode cX9_at 172 = .ok (.iconst (-1), 1) := by decide +kernel
theorem dX9_at_173 : decode cX9_at 173 = .ok (.ireturn, 1) := by decide +kernel
theorem dX9_settle_0 : decode cX9_settle 0 = .ok (.aload_n 0, 1) := by decide +kernel
theorem dX9_settle_1 : decode cX9_settle 1 = .ok (.getfield 84, 3) := by decide +kernel
theorem dX9_settle_4 : decode cX9_settle 4 = .ok (.sipush 16384, 3) := by decide +kernel
theorem dX9_settle_7 : decode cX9_settle 7 = .ok (.idiv, 1) := by decide +kernel
theorem dX9_settle_8 : decode cX9_settle 8 = .ok (.iconst 2, 1) := by decide +kernel
theorem dX9_settle_9 : decode cX9_settle 9 = .ok (.irem, 1) := by decide +kernel
theorem dX9_settle_10 : decode cX9_settle 10 = .ok (.istore_n 1, 1) := by decide +kernel
theorem dX9_settle_11 : decode cX9_settle 11 = .ok (.iload_n 1, 1) := by decide +kernel
theorem dX9_settle_12 : decode cX9_settle 12 = .ok (.aload_n 0, 1) := by decide +kernel
theorem dX9_settle_13 : decode cX9_settle 13 = .ok (.getfield 116, 3) := by decide +kernel
theorem dX9_settle_16 : decode cX9_settle 16 = .ok (.if_icmp .ne 4, 3) := by decide +kernel
theorem dX9_settle_19 : decode cX9_settle 19 = .ok (.return_, 1) := by decide +kernel
theorem dX9_settle_20 : decode cX9_settle 20 = .ok (.aload_n 0, 1) := by decide +kernel
theorem dX9_settle_21 : decode cX9_settle 21 = .ok (.getfield 19, 3) := by decide +kernel
theorem dX9_settle_24 : decode cX9_settle 24 = .ok (.bipush 6, 2) := by decide +kernel
theorem dX9_settle_26 : decode cX9_settle 26 = .ok (.iaload, 1) := by decide +kernel
theorem dX9_settle_27 : decode cX9_settle 27 = .ok (.istore_n 2, 1) := by decide +kernel
theorem dX9_settle_28 : decode cX9_settle 28 = .ok (.aload_n 0, 1) := by decide +kernel
theorem dX9_settle_29 : decode cX9_settle 29 = .ok (.getfield 19, 3) := by decide +kernel
theorem dX9_settle_32 : decode cX9_settle 32 = .ok (.bipush 6, 2) := by decide +kernel
theorem dX9_settle_34 : decode cX9_settle 34 = .ok (.aload_n 0, 1) := by decide +kernel
theorem dX9_settle_35 : decode cX9_settle 35 = .ok (.getfield 119, 3) := by decide +kernel
theorem dX9_settle_38 : decode cX9_settle 38 = .ok (.iastore, 1) := by decide +kernel
theorem dX9_settle_39 : decode cX9_settle 39 = .ok (.aload_n 0, 1) := by decide +kernel
theorem dX9_settle_40 : decode cX9_settle 40 = .ok (.iload_n 2, 1) := by decide +kernel
theorem dX9_settle_41 : decode cX9_settle 41 = .ok (.putfield 119, 3) := by decide +kernel
theorem dX9_settle_44 : decode cX9_settle 44 = .ok (.aload_n 0, 1) := by decide +kernel
theorem dX9_settle_45 : decode cX9_settle 45 = .ok (.iload_n 1, 1) := by decide +kernel
theorem dX9_settle_46 : decode cX9_settle 46 = .ok (.putfield 116, 3) := by decide +kernel
theorem dX9_settle_49 : decode cX9_settle 49 = .ok (.return_, 1) := by decide +kernel
theorem dX9_isWord_0 : decode cX9_isWord 0 = .ok (.iload_n 0, 1) := by decide +kernel
theorem dX9_isWord_1 : decode cX9_isWord 1 = .ok (.ifCond .lt 13, 3) := by decide +kernel
theorem dX9_isWord_4 : decode cX9_isWord 4 = .ok (.iload_n 0, 1) := by decide +kernel
theorem dX9_isWord_5 : decode cX9_isWord 5 = .ok (.ldc 51, 2) := by decide +kernel
theorem dX9_isWord_7 : decode cX9_isWord 7 = .ok (.if_icmp .ge 7, 3) := by decide +kernel
theorem dX9_isWord_10 : decode cX9_isWord 10 = .ok (.iconst 1, 1) := by decide +kernel
theorem dX9_isWord_11 : decode cX9_isWord 11 = .ok (.goto 4, 3) := by decide +kernel
theorem dX9_isWord_14 : decode cX9_isWord 14 = .ok (.iconst 0, 1) := by decide +kernel
theorem dX9_isWord_15 : decode cX9_isWord 15 = .ok (.ireturn, 1) := by decide +kernel
theorem dX9_cell_0 : decode cX9_cell 0 = .ok (.iload_n 0, 1) := by decide +kernel
theorem dX9_cell_1 : decode cX9_cell 1 = .ok (.ifCond .lt 20, 3) := by decide +kernel
theorem dX9_cell_4 : decode cX9_cell 4 = .ok (.iload_n 0, 1) := by decide +kernel
theorem dX9_cell_5 : decode cX9_cell 5 = .ok (.sipush 1024, 3) := by decide +kernel
theorem dX9_cell_8 : decode cX9_cell 8 = .ok (.if_icmp .ge 13, 3) := by decide +kernel
theorem dX9_cell_11 : decode cX9_cell 11 = .ok (.iload_n 0, 1) := by decide +kernel
theorem dX9_cell_12 : decode cX9_cell 12 = .ok (.iconst 2, 1) := by decide +kernel
theorem dX9_cell_13 : decode cX9_cell 13 = .ok (.irem, 1) := by decide +kernel
theorem dX9_cell_14 : decode cX9_cell 14 = .ok (.ifCond .ne 7, 3) := by decide +kernel
theorem dX9_cell_17 : decode cX9_cell 17 = .ok (.iconst 1, 1) := by decide +kernel
theorem dX9_cell_18 : decode cX9_cell 18 = .ok (.goto 4, 3) := by decide +kernel
theorem dX9_cell_21 : decode cX9_cell 21 = .ok (.iconst 0, 1) := by decide +kernel
theorem dX9_cell_22 : decode cX9_cell 22 = .ok (.ireturn, 1) := by decide +kernel
set_option maxRecDepth 20000 in
theorem ggX9_deposit_X9_cell : GoodIn wsX9_deposit wsX9_cell := goodIn_r _ [6] (by decide +kernel) (by decide +kernel)
set_option maxRecDepth 20000 in
theorem gX9_deposit_X9_cell : GoodIn wsX9_deposit (va_wsS RX9 257 yX9_cell wsX9_cell) := goodIn_app (goodIn_of _ (by decide +kernel)) ggX9_deposit_X9_cell
set_option maxRecDepth 20000 in
theorem ggX9_deposit_X9_isWord : GoodIn wsX9_deposit wsX9_isWord := goodIn_r _ [9, 10] (by decide +kernel) (by decide +kernel)
set_option maxRecDepth 20000 in
theorem gX9_deposit_X9_isWord : GoodIn wsX9_deposit (va_wsS RX9 260 yX9_isWord wsX9_isWord) := goodIn_app (goodIn_of _ (by decide +kernel)) ggX9_deposit_X9_isWord
theorem dX9_deposit_0 : decode cX9_deposit 0 = .ok (.aload_n 0, 1) := by decide +kernel
theorem dX9_deposit_1 : decode cX9_deposit 1 = .ok (.iload_n 1, 1) := by decide +kernel
theorem dX9_deposit_2 : decode cX9_deposit 2 = .ok (.invokestatic 257, 3) := by decide +kernel
theorem dX9_deposit_5 : decode cX9_deposit 5 = .ok (.ifCond .eq 14, 3) := by decide +kernel
theorem dX9_deposit_8 : decode cX9_deposit 8 = .ok (.iload_n 2, 1) := by decide +kernel
theorem dX9_deposit_9 : decode cX9_deposit 9 = .ok (.invokestatic 260, 3) := by decide +kernel
theorem dX9_deposit_12 : decode cX9_deposit 12 = .ok (.ifCond .eq 7, 3) := by decide +kernel
theorem dX9_deposit_15 : decode cX9_deposit 15 = .ok (.iconst 0, 1) := by decide +kernel
theorem dX9_deposit_16 : decode cX9_deposit 16 = .ok (.goto 4, 3) := by decide +kernel
theorem dX9_deposit_19 : decode cX9_deposit 19 = .ok (.iconst 1, 1) := by decide +kernel
theorem dX9_deposit_20 : decode cX9_deposit 20 = .ok (.putfield 48, 3) := by decide +kernel
theorem dX9_deposit_23 : decode cX9_deposit 23 = .ok (.aload_n 0, 1) := by decide +kernel
theorem dX9_deposit_24 : decode cX9_deposit 24 = .ok (.getfield 48, 3) := by decide +kernel
theorem dX9_deposit_27 : decode cX9_deposit 27 = .ok (.ifCond .ne 12, 3) := by decide +kernel
theorem dX9_deposit_30 : decode cX9_deposit 30 = .ok (.aload_n 0, 1) := by decide +kernel
theorem dX9_deposit_31 : decode cX9_deposit 31 = .ok (.getfield 7, 3) := by decide +kernel
theorem dX9_deposit_34 : decode cX9_deposit 34 = .ok (.iload_n 1, 1) := by decide +kernel
theorem dX9_deposit_35 : decode cX9_deposit 35 = .ok (.iconst 2, 1) := by decide +kernel
theorem dX9_deposit_36 : decode cX9_deposit 36 = .ok (.idiv, 1) := by decide +kernel
theorem dX9_deposit_37 : decode cX9_deposit 37 = .ok (.iload_n 2, 1) := by decide +kernel
theorem dX9_deposit_38 : decode cX9_deposit 38 = .ok (.iastore, 1) := by decide +kernel
theorem dX9_deposit_39 : decode cX9_deposit 39 = .ok (.return_, 1) := by decide +kernel
set_option maxRecDepth 20000 in
theorem ggX9_examine_X9_cell : GoodIn wsX9_examine wsX9_cell := goodIn_r _ [6] (by decide +kernel) (by decide +kernel)
set_option maxRecDepth 20000 in
theorem gX9_examine_X9_cell : GoodIn wsX9_examine (va_wsS RX9 257 yX9_cell wsX9_cell) := goodIn_app (goodIn_of _ (by decide +kernel)) ggX9_examine_X9_cell
set_option maxRecDepth 20000 in
theorem ggX9_examine_X9_fail : GoodIn wsX9_examine wsX9_fail := goodIn_r _ [10, 1, 11, 12, 13, 14, 15, 16, 17, 18, 19, 20, 21, 22, 23, 24, 25, 26, 27, 28, 29, 30, 31, 32, 33, 34, 35, 36, 37, 38] (by decide +kernel) (by decide +kernel)
set_option maxRecDepth 20000 in
theorem gX9_examine_X9_fail : GoodIn wsX9_examine (wsV RX9 263 RX9 yX9_fail wsX9_fail) := goodIn_app (goodIn_of _ (by decide +kernel)) ggX9_examine_X9_fail
theorem dX9_examine_0 : decode cX9_examine 0 = .ok (.aload_n 0, 1) := by decide +kernel
theorem dX9_examine_1 : decode cX9_examine 1 = .ok (.iconst 0, 1) := by decide +kernel
theorem dX9_examine_2 : decode cX9_examine 2 = .ok (.putfield 48, 3) := by decide +kernel
theorem dX9_examine_5 : decode cX9_examine 5 = .ok (.iload_n 1, 1) := by decide +kernel
theorem dX9_examine_6 : decode cX9_examine 6 = .ok (.invokestatic 257, 3) := by decide +kernel
theorem dX9_examine_9 : decode cX9_examine 9 = .ok (.ifCond .eq 14, 3) := by decide +kernel
theorem dX9_examine_12 : decode cX9_examine 12 = .ok (.aload_n 0, 1) := by decide +kernel
theorem dX9_examine_13 : decode cX9_examine 13 = .ok (.getfield 7, 3) := by decide +kernel
theorem dX9_examine_16 : decode cX9_examine 16 = .ok (.iload_n 1, 1) := by decide +kernel
theorem dX9_examine_17 : decode cX9_examine 17 = .ok (.iconst 2, 1) := by decide +kernel
theorem dX9_examine_18 : decode cX9_examine 18 = .ok (.idiv, 1) := by decide +kernel
theorem dX9_examine_19 : decode cX9_examine 19 = .ok (.iaload, 1) := by decide +kernel
theorem dX9_examine_20 : decode cX9_examine 20 = .ok (.goto 8, 3) := by decide +kernel
theorem dX9_examine_23 : decode cX9_examine 23 = .ok (.aload_n 0, 1) := by decide +kernel
theorem dX9_examine_24 : decode cX9_examine 24 = .ok (.iconst 1, 1) := by decide +kernel
theorem dX9_examine_25 : decode cX9_examine 25 = .ok (.invokevirtual 263, 3) := by decide +kernel
theorem dX9_examine_28 : decode cX9_examine 28 = .ok (.ireturn, 1) := by decide +kernel
set_option maxRecDepth 20000 in
theorem ggX9_set_X9_out : GoodIn wsX9_set wsX9_out := goodIn_r _ [8] (by decide +kernel) (by decide +kernel)
set_option maxRecDepth 20000 in
theorem gX9_set_X9_out : GoodIn wsX9_set (va_wsS RX9 266 yX9_out wsX9_out) := goodIn_app (goodIn_of _ (by decide +kernel)) ggX9_set_X9_out
set_option maxRecDepth 20000 in
theorem ggX9_set_X9_isWord : GoodIn wsX9_set wsX9_isWord := goodIn_r _ [11, 12] (by decide +kernel) (by decide +kernel)
set_option maxRecDepth 20000 in
theorem gX9_set_X9_isWord : GoodIn wsX9_set (va_wsS RX9 260 yX9_isWord wsX9_isWord) := goodIn_app (goodIn_of _ (by decide +kernel)) ggX9_set_X9_isWord
theorem dX9_set_0 : decode cX9_set 0 = .ok (.aload_n 0, 1) := by decide +kernel
theorem dX9_set_1 : decode cX9_set 1 = .ok (.iload_n 1, 1) := by decide +kernel
theorem dX9_set_2 : decode cX9_set 2 = .ok (.bipush 8, 2) := by decide +kernel
theorem dX9_set_4 : decode cX9_set 4 = .ok (.invokestatic 266, 3) := by decide +kernel
theorem dX9_set_7 : decode cX9_set 7 = .ok (.ifCond .ne 10, 3) := by decide +kernel
theorem dX9_set_10 : decode cX9_set 10 = .ok (.iload_n 2, 1) := by decide +kernel
theorem dX9_set_11 : decode cX9_set 11 = .ok (.invokestatic 260, 3) := by decide +kernel
theorem dX9_set_14 : decode cX9_set 14 = .ok (.ifCond .ne 7, 3) := by decide +kernel
theorem dX9_set_17 : decode cX9_set 17 = .ok (.iconst 1, 1) := by decide +kernel
theorem dX9_set_18 : decode cX9_set 18 = .ok (.goto 4, 3) := by decide +kernel
theorem dX9_set_21 : decode cX9_set 21 = .ok (.iconst 0, 1) := by decide +kernel
theorem dX9_set_22 : decode cX9_set 22 = .ok (.putfield 48, 3) := by decide +kernel
theorem dX9_set_25 : decode cX9_set 25 = .ok (.aload_n 0, 1) := by decide +kernel
theorem dX9_set_26 : decode cX9_set 26 = .ok (.getfield 48, 3) := by decide +kernel
theorem dX9_set_29 : decode cX9_set 29 = .ok (.ifCond .le 4, 3) := by decide +kernel
theorem dX9_set_32 : decode cX9_set 32 = .ok (.return_, 1) := by decide +kernel
theorem dX9_set_33 : decode cX9_set 33 = .ok (.iload_n 1, 1) := by decide +kernel
theorem dX9_set_34 : decode cX9_set 34 = .ok (.bipush 6, 2) := by decide +kernel
theorem dX9_set_36 : decode cX9_set 36 = .ok (.if_icmp .ne 19, 3) := by decide +kernel
theorem dX9_set_39 : decode cX9_set 39 = .ok (.aload_n 0, 1) := by decide +kernel
theorem dX9_set_40 : decode cX9_set 40 = .ok (.getfield 116, 3) := by decide +kernel
theorem dX9_set_43 : decode cX9_set 43 = .ok (.iconst 1, 1) := by decide +kernel
theorem dX9_set_44 : decode cX9_set 44 = .ok (.if_icmp .ne 11, 3) := by decide +kernel
theorem dX9_set_47 : decode cX9_set 47 = .ok (.aload_n 0, 1) := by decide +kernel
theorem dX9_set_48 : decode cX9_set 48 = .ok (.iload_n 2, 1) := by decide +kernel
theorem dX9_set_49 : decode cX9_set 49 = .ok (.putfield 119, 3) := by decide +kernel
theorem dX9_set_52 : decode cX9_set 52 = .ok (.goto 10, 3) := by decide +kernel
theorem dX9_set_55 : decode cX9_set 55 = .ok (.aload_n 0, 1) := by decide +kernel
theorem dX9_set_56 : decode cX9_set 56 = .ok (.getfield 19, 3) := by decide +kernel
theorem dX9_set_59 : decode cX9_set 59 = .ok (.iload_n 1, 1) := by decide +kernel
theorem dX9_set_60 : decode cX9_set 60 = .ok (.iload_n 2, 1) := by decide +kernel
theorem dX9_set_61 : decode cX9_set 61 = .ok (.iastore, 1) := by decide +kernel
theorem dX9_set_62 : decode cX9_set 62 = .ok (.return_, 1) := by decide +kernel
set_option maxRecDepth 20000 in
theorem ggX9_register_X9_out : GoodIn wsX9_register wsX9_out := goodIn_r _ [8] (by decide +kernel) (by decide +kernel)
set_option maxRecDepth 20000 in
theorem gX9_register_X9_out : GoodIn wsX9_register (va_wsS RX9 266 yX9_out wsX9_out) := goodIn_app (goodIn_of _ (by decide +kernel)) ggX9_register_X9_out
set_option maxRecDepth 20000 in
theorem ggX9_register_X9_fail : GoodIn wsX9_register wsX9_fail := goodIn_r _ [12, 1, 13, 14, 15, 16, 17, 18, 19, 20, 21, 22, 23, 24, 25, 26, 27, 28, 29, 30, 31, 32, 33, 34, 35, 36, 37, 38, 39, 40] (by decide +kernel) (by decide +kernel)
set_option maxRecDepth 20000 in
theorem gX9_register_X9_fail : GoodIn wsX9_register (wsV RX9 263 RX9 yX9_fail wsX9_fail) := goodIn_app (goodIn_of _ (by decide +kernel)) ggX9_register_X9_fail
theorem dX9_register_0 : decode cX9_register 0 = .ok (.aload_n 0, 1) := by decide +kernel
theorem dX9_register_1 : decode cX9_register 1 = .ok (.iconst 0, 1) := by decide +kernel
theorem dX9_register_2 : decode cX9_register 2 = .ok (.putfield 48, 3) := by decide +kernel
theorem dX9_register_5 : decode cX9_register 5 = .ok (.iload_n 1, 1) := by decide +kernel
theorem dX9_register_6 : decode cX9_register 6 = .ok (.bipush 10, 2) := by decide +kernel
theorem dX9_register_8 : decode cX9_register 8 = .ok (.invokestatic 266, 3) := by decide +kernel
theorem dX9_register_11 : decode cX9_register 11 = .ok (.ifCond .eq 9, 3) := by decide +kernel
theorem dX9_register_14 : decode cX9_register 14 = .ok (.aload_n 0, 1) := by decide +kernel
theorem dX9_register_15 : decode cX9_register 15 = .ok (.iconst 1, 1) := by decide +kernel
theorem dX9_register_16 : decode cX9_register 16 = .ok (.invokevirtual 263, 3) := by decide +kernel
theorem dX9_register_19 : decode cX9_register 19 = .ok (.ireturn, 1) := by decide +kernel
theorem dX9_register_20 : decode cX9_register 20 = .ok (.iload_n 1, 1) := by decide +kernel
theorem dX9_register_21 : decode cX9_register 21 = .ok (.bipush 8, 2) := by decide +kernel
theorem dX9_register_23 : decode cX9_register 23 = .ok (.if_icmp .ne 10, 3) := by decide +kernel
theorem dX9_register_26 : decode cX9_register 26 = .ok (.aload_n 0, 1) := by decide +kernel
theorem dX9_register_27 : decode cX9_register 27 = .ok (.getfield 84, 3) := by decide +kernel
theorem dX9_register_30 : decode cX9_register 30 = .ok (.goto 22, 3) := by decide +kernel
theorem dX9_register_33 : decode cX9_register 33 = .ok (.iload_n 1, 1) := by decide +kernel
theorem dX9_register_34 : decode cX9_register 34 = .ok (.bipush 9, 2) := by decide +kernel
theorem dX9_register_36 : decode cX9_register 36 = .ok (.if_icmp .ne 10, 3) := by decide +kernel
theorem dX9_register_39 : decode cX9_register 39 = .ok (.aload_n 0, 1) := by decide +kernel
theorem dX9_register_40 : decode cX9_register 40 = .ok (.getfield 119, 3) := by decide +kernel
theorem dX9_register_43 : decode cX9_register 43 = .ok (.goto 9, 3) := by decide +kernel
theorem dX9_register_46 : decode cX9_register 46 = .ok (.aload_n 0, 1) := by decide +kernel
theorem dX9_register_47 : decode cX9_register 47 = .ok (.getfield 19, 3) := by decide +kernel
theorem dX9_register_50 : decode cX9_register 50 = .ok (.iload_n 1, 1) := by decide +kernel
theorem dX9_register_51 : decode cX9_register 51 = .ok (.iaload, 1) := by decide +kernel
theorem dX9_register_52 : decode cX9_register 52 = .ok (.ireturn, 1) := by decide +kernel
set_option maxRecDepth 20000 in
theorem ggX9_start_X9_isWord : GoodIn wsX9_start wsX9_isWord := goodIn_r _ [8, 9] (by decide +kernel) (by decide +kernel)
set_option maxRecDepth 20000 in
theorem gX9_start_X9_isWord : GoodIn wsX9_start (va_wsS RX9 260 yX9_isWord wsX9_isWord) := goodIn_app (goodIn_of _ (by decide +kernel)) ggX9_start_X9_isWord
set_option maxRecDepth 20000 in
theorem ggX9_start_X9_settle : GoodIn wsX9_start wsX9_settle := goodIn_r _ [13, 2, 14, 3, 15, 16, 17, 18, 19, 20, 21, 22, 23, 24, 25, 26, 27, 28, 29, 30, 31, 32, 33, 34, 35, 36, 37, 38, 39, 40, 41, 42, 43] (by decide +kernel) (by decide +kernel)
set_option maxRecDepth 20000 in
theorem gX9_start_X9_settle : GoodIn wsX9_start (wsV RX9 170 RX9 yX9_settle wsX9_settle) := goodIn_app (goodIn_of _ (by decide +kernel)) ggX9_start_X9_settle
theorem dX9_start_0 : decode cX9_start 0 = .ok (.aload_n 0, 1) := by decide +kernel
theorem dX9_start_1 : decode cX9_start 1 = .ok (.iload_n 1, 1) := by decide +kernel
theorem dX9_start_2 : decode cX9_start 2 = .ok (.invokestatic 260, 3) := by decide +kernel
theorem dX9_start_5 : decode cX9_start 5 = .ok (.ifCond .eq 7, 3) := by decide +kernel
theorem dX9_start_8 : decode cX9_start 8 = .ok (.iconst 0, 1) := by decide +kernel
theorem dX9_start_9 : decode cX9_start 9 = .ok (.goto 4, 3) := by decide +kernel
theorem dX9_start_12 : decode cX9_start 12 = .ok (.iconst 1, 1) := by decide +kernel
theorem dX9_start_13 : decode cX9_start 13 = .ok (.putfield 48, 3) := by decide +kernel
theorem dX9_start_16 : decode cX9_start 16 = .ok (.aload_n 0, 1) := by decide +kernel
theorem dX9_start_17 : decode cX9_start 17 = .ok (.getfield 48, 3) := by decide +kernel
theorem dX9_start_20 : decode cX9_start 20 = .ok (.ifCond .le 4, 3) := by decide +kernel
theorem dX9_start_23 : decode cX9_start 23 = .ok (.return_, 1) := by decide +kernel
theorem dX9_start_24 : decode cX9_start 24 = .ok (.aload_n 0, 1) := by decide +kernel
theorem dX9_start_25 : decode cX9_start 25 = .ok (.sipush 224, 3) := by decide +kernel
theorem dX9_start_28 : decode cX9_start 28 = .ok (.putfield 84, 3) := by decide +kernel
theorem dX9_start_31 : decode cX9_start 31 = .ok (.aload_n 0, 1) := by decide +kernel
theorem dX9_start_32 : decode cX9_start 32 = .ok (.invokevirtual 170, 3) := by decide +kernel
theorem dX9_start_35 : decode cX9_start 35 = .ok (.aload_n 0, 1) := by decide +kernel
theorem dX9_start_36 : decode cX9_start 36 = .ok (.getfield 19, 3) := by decide +kernel
theorem dX9_start_39 : decode cX9_start 39 = .ok (.bipush 7, 2) := by decide +kernel
theorem dX9_start_41 : decode cX9_start 41 = .ok (.iload_n 1, 1) := by decide +kernel
theorem dX9_start_42 : decode cX9_start 42 = .ok (.iastore, 1) := by decide +kernel
theorem dX9_start_43 : decode cX9_start 43 = .ok (.aload_n 0, 1) := by decide +kernel
theorem dX9_start_44 : decode cX9_start 44 = .ok (.iconst 0, 1) := by decide +kernel
theorem dX9_start_45 : decode cX9_start 45 = .ok (.putfield 22, 3) := by decide +kernel
theorem dX9_start_48 : decode cX9_start 48 = .ok (.return_, 1) := by decide +kernel
theorem dX9_run_0 : decode cX9_run 0 = .ok (.aload_n 0, 1) := by decide +kernel
theorem dX9_run_1 : decode cX9_run 1 = .ok (.iload_n 1, 1) := by decide +kernel
theorem dX9_run_2 : decode cX9_run 2 = .ok (.iconst 1, 1) := by decide +kernel
theorem dX9_run_3 : decode cX9_run 3 = .ok (.if_icmp .lt 9, 3) := by decide +kernel
theorem dX9_run_6 : decode cX9_run 6 = .ok (.iload_n 1, 1) := by decide +kernel
theorem dX9_run_7 : decode cX9_run 7 = .ok (.bipush 40, 2) := by decide +kernel
theorem dX9_run_9 : decode cX9_run 9 = .ok (.if_icmp .le 7, 3) := by decide +kernel
theorem dX9_run_12 : decode cX9_run 12 = .ok (.iconst 1, 1) := by decide +kernel
theorem dX9_run_13 : decode cX9_run 13 = .ok (.goto 16, 3) := by decide +kernel
theorem dX9_run_16 : decode cX9_run 16 = .ok (.aload_n 0, 1) := by decide +kernel
theorem dX9_run_17 : decode cX9_run 17 = .ok (.getfield 22, 3) := by decide +kernel
theorem dX9_run_20 : decode cX9_run 20 = .ok (.iconst 1, 1) := by decide +kernel
theorem dX9_run_21 : decode cX9_run 21 = .ok (.if_icmp .le 7, 3) := by decide +kernel
theorem dX9_run_24 : decode cX9_run 24 = .ok (.iconst 2, 1) := by decide +kernel
theorem dX9_run_25 : decode cX9_run 25 = .ok (.goto 4, 3) := by decide +kernel
theorem dX9_run_28 : decode cX9_run 28 = .ok (.iconst 0, 1) := by decide +kernel
theorem dX9_run_29 : decode cX9_run 29 = .ok (.putfield 48, 3) := by decide +kernel
theorem dX9_run_32 : decode cX9_run 32 = .ok (.iconst 0, 1) := by decide +kernel
theorem dX9_run_33 : decode cX9_run 33 = .ok (.istore_n 2, 1) := by decide +kernel
theorem dX9_run_34 : decode cX9_run 34 = .ok (.iload_n 2, 1) := by decide +kernel
theorem dX9_run_35 : decode cX9_run 35 = .ok (.iload_n 1, 1) := by decide +kernel
theorem dX9_run_36 : decode cX9_run 36 = .ok (.if_icmp .ge 67, 3) := by decide +kernel
theorem dX9_run_39 : decode cX9_run 39 = .ok (.aload_n 0, 1) := by decide +kernel
theorem dX9_run_40 : decode cX9_run 40 = .ok (.getfield 22, 3) := by decide +kernel
theorem dX9_run_43 : decode cX9_run 43 = .ok (.iconst 2, 1) := by decide +kernel
theorem dX9_run_44 : decode cX9_run 44 = .ok (.if_icmp .ge 59, 3) := by decide +kernel
theorem dX9_run_47 : decode cX9_run 47 = .ok (.aload_n 0, 1) := by decide +kernel
theorem dX9_run_48 : decode cX9_run 48 = .ok (.getfield 48, 3) := by decide +kernel
theorem dX9_run_51 : decode cX9_run 51 = .ok (.ifCond .ne 52, 3) := by decide +kernel
theorem dX9_run_54 : decode cX9_run 54 = .ok (.aload_n 0, 1) := by decide +kernel
theorem dX9_run_55 : decode cX9_run 55 = .ok (.getfield 22, 3) := by decide +kernel
theorem dX9_run_58 : decode cX9_run 58 = .ok (.ifCond .ne 27, 3) := by decide +kernel
theorem dX9_run_61 : decode cX9_run 61 = .ok (.aload_n 0, 1) := by decide +kernel
theorem dX9_run_62 : decode cX9_run 62 = .ok (.iconst 0, 1) := by decide +kernel
theorem dX9_run_63 : decode cX9_run 63 = .ok (.putfield 87, 3) := by decide +kernel
theorem dX9_run_66 : decode cX9_run 66 = .ok (.aload_n 0, 1) := by decide +kernel
theorem dX9_run_67 : decode cX9_run 67 = .ok (.invokevirtual 270, 3) := by decide +kernel
theorem dX9_run_70 : decode cX9_run 70 = .ok (.aload_n 0, 1) := by decide +kernel
theorem dX9_run_71 : decode cX9_run 71 = .ok (.getfield 87, 3) := by decide +kernel
theorem dX9_run_74 : decode cX9_run 74 = .ok (.ifCond .le 11, 3) := by decide +kernel
theorem dX9_run_77 : decode cX9_run 77 = .ok (.aload_n 0, 1) := by decide +kernel
theorem dX9_run_78 : decode cX9_run 78 = .ok (.aload_n 0, 1) := by decide +kernel
theorem dX9_run_79 : decode cX9_run 79 = .ok (.getfield 87, 3) := by decide +kernel
theorem dX9_run_82 : decode cX9_run 82 = .ok (.invokevirtual 248, 3) := by decide +kernel
theorem dX9_run_85 : decode cX9_run 85 = .ok (.aload_n 0, 1) := by decide +kernel
theorem dX9_run_86 : decode cX9_run 86 = .ok (.getfield 22, 3) := by decide +kernel
theorem dX9_run_89 : decode cX9_run 89 = .ok (.iconst 2, 1) := by decide +kernel
theorem dX9_run_90 : decode cX9_run 90 = .ok (.if_icmp .ge 7, 3) := by decide +kernel
theorem dX9_run_93 : decode cX9_run 93 = .ok (.aload_n 0, 1) := by decide +kernel
theorem dX9_run_94 : decode cX9_run 94 = .ok (.invokevirtual 273, 3) := by decide +kernel
theorem dX9_run_97 : decode cX9_run 97 = .ok (.iinc 2 1, 3) := by decide +kernel
theorem dX9_run_100 : decode cX9_run 100 = .ok (.goto (-66), 3) := by decide +kernel
theorem dX9_run_103 : decode cX9_run 103 = .ok (.iload_n 2, 1) := by decide +kernel
theorem dX9_run_104 : decode cX9_run 104 = .ok (.ireturn, 1) := by decide +kernel
set_option maxRecDepth 20000 in
theorem ggX9_key_X9_out : GoodIn wsX9_key wsX9_out := goodIn_r _ [7] (by decide +kernel) (by decide +kernel)
set_option maxRecDepth 20000 in
theorem gX9_key_X9_out : GoodIn wsX9_key (va_wsS RX9 266 yX9_out wsX9_out) := goodIn_app (goodIn_of _ (by decide +kernel)) ggX9_key_X9_out
theorem dX9_key_0 : decode cX9_key 0 = .ok (.aload_n 0, 1) := by decide +kernel
theorem dX9_key_1 : decode cX9_key 1 = .ok (.iload_n 1, 1) := by decide +kernel
theorem dX9_key_2 : decode cX9_key 2 = .ok (.sipush 256, 3) := by decide +kernel
theorem dX9_key_5 : decode cX9_key 5 = .ok (.invokestatic 266, 3) := by decide +kernel
theorem dX9_key_8 : decode cX9_key 8 = .ok (.ifCond .eq 7, 3) := by decide +kernel
theorem dX9_key_11 : decode cX9_key 11 = .ok (.iconst 1, 1) := by decide +kernel
theorem dX9_key_12 : decode cX9_key 12 = .ok (.goto 4, 3) := by decide +kernel
theorem dX9_key_15 : decode cX9_key 15 = .ok (.iconst 0, 1) := by decide +kernel
theorem dX9_key_16 : decode cX9_key 16 = .ok (.putfield 48, 3) := by decide +kernel
theorem dX9_key_19 : decode cX9_key 19 = .ok (.aload_n 0, 1) := by decide +kernel
theorem dX9_key_20 : decode cX9_key 20 = .ok (.getfield 48, 3) := by decide +kernel
theorem dX9_key_23 : decode cX9_key 23 = .ok (.ifCond .le 4, 3) := by decide +kernel
theorem dX9_key_26 : decode cX9_key 26 = .ok (.return_, 1) := by decide +kernel
theorem dX9_key_27 : decode cX9_key 27 = .ok (.aload_n 0, 1) := by decide +kernel
theorem dX9_key_28 : decode cX9_key 28 = .ok (.iload_n 1, 1) := by decide +kernel
theorem dX9_key_29 : decode cX9_key 29 = .ok (.putfield 72, 3) := by decide +kernel
theorem dX9_key_32 : decode cX9_key 32 = .ok (.aload_n 0, 1) := by decide +kernel
theorem dX9_key_33 : decode cX9_key 33 = .ok (.getfield 26, 3) := by decide +kernel
theorem dX9_key_36 : decode cX9_key 36 = .ok (.iconst 1, 1) := by decide +kernel
theorem dX9_key_37 : decode cX9_key 37 = .ok (.iconst 1, 1) := by decide +kernel
theorem dX9_key_38 : decode cX9_key 38 = .ok (.bastore, 1) := by decide +kernel
theorem dX9_key_39 : decode cX9_key 39 = .ok (.return_, 1) := by decide +kernel
theorem dX9_printed_0 : decode cX9_printed 0 = .ok (.aload_n 0, 1) := by decide +kernel
theorem dX9_printed_1 : decode cX9_printed 1 = .ok (.iload_n 1, 1) := by decide +kernel
theorem dX9_printed_2 : decode cX9_printed 2 = .ok (.iconst (-1), 1) := by decide +kernel
theorem dX9_printed_3 : decode cX9_printed 3 = .ok (.if_icmp .lt 17, 3) := by decide +kernel
theorem dX9_printed_6 : decode cX9_printed 6 = .ok (.iload_n 1, 1) := by decide +kernel
theorem dX9_printed_7 : decode cX9_printed 7 = .ok (.bipush 31, 2) := by decide +kernel
theorem dX9_printed_9 : decode cX9_printed 9 = .ok (.if_icmp .gt 11, 3) := by decide +kernel
theorem dX9_printed_12 : decode cX9_printed 12 = .ok (.iload_n 1, 1) := by decide +kernel
theorem dX9_printed_13 : decode cX9_printed 13 = .ok (.aload_n 0, 1) := by decide +kernel
theorem dX9_printed_14 : decode cX9_printed 14 = .ok (.getfield 254, 3) := by decide +kernel
theorem dX9_printed_17 : decode cX9_printed 17 = .ok (.if_icmp .lt 7, 3) := by decide +kernel
theorem dX9_printed_20 : decode cX9_printed 20 = .ok (.iconst 1, 1) := by decide +kernel
theorem dX9_printed_21 : decode cX9_printed 21 = .ok (.goto 4, 3) := by decide +kernel
theorem dX9_printed_24 : decode cX9_printed 24 = .ok (.iconst 0, 1) := by decide +kernel
theorem dX9_printed_25 : decode cX9_printed 25 = .ok (.putfield 48, 3) := by decide +kernel
theorem dX9_printed_28 : decode cX9_printed 28 = .ok (.aload_n 0, 1) := by decide +kernel
theorem dX9_printed_29 : decode cX9_printed 29 = .ok (.getfield 48, 3) := by decide +kernel
theorem dX9_printed_32 : decode cX9_printed 32 = .ok (.ifCond .le 5, 3) := by decide +kernel
theorem dX9_printed_35 : decode cX9_printed 35 = .ok (.iconst 0, 1) := by decide +kernel
theorem dX9_printed_36 : decode cX9_printed 36 = .ok (.ireturn, 1) := by decide +kernel
theorem dX9_printed_37 : decode cX9_printed 37 = .ok (.iload_n 1, 1) := by decide +kernel
theorem dX9_printed_38 : decode cX9_printed 38 = .ok (.ifCond .ge 10, 3) := by decide +kernel
theorem dX9_printed_41 : decode cX9_printed 41 = .ok (.aload_n 0, 1) := by decide +kernel
theorem dX9_printed_42 : decode cX9_printed 42 = .ok (.getfield 254, 3) := by decide +kernel
theorem dX9_printed_45 : decode cX9_printed 45 = .ok (.goto 19, 3) := by decide +kernel
theorem dX9_printed_48 : decode cX9_printed 48 = .ok (.aload_n 0, 1) := by decide +kernel
theorem dX9_printed_49 : decode cX9_printed 49 = .ok (.getfield 42, 3) := by decide +kernel
theorem dX9_printed_52 : decode cX9_printed 52 = .ok (.aload_n 0, 1) := by decide +kernel
theorem dX9_printed_53 : decode cX9_printed 53 = .ok (.getfield 254, 3) := by decide +kernel
theorem dX9_printed_56 : decode cX9_printed 56 = .ok (.iconst 1, 1) := by decide +kernel
theorem dX9_printed_57 : decode cX9_printed 57 = .ok (.isub, 1) := by decide +kernel
theorem dX9_printed_58 : decode cX9_printed 58 = .ok (.iload_n 1, 1) := by decide +kernel
theorem dX9_printed_59 : decode cX9_printed 59 = .ok (.isub, 1) := by decide +kernel
theorem dX9_printed_60 : decode cX9_printed 60 = .ok (.bipush 32, 2) := by decide +kernel
theorem dX9_printed_62 : decode cX9_printed 62 = .ok (.irem, 1) := by decide +kernel
theorem dX9_printed_63 : decode cX9_printed 63 = .ok (.iaload, 1) := by decide +kernel
theorem dX9_printed_64 : decode cX9_printed 64 = .ok (.ireturn, 1) := by decide +kernel
set_option maxRecDepth 20000 in
theorem ggX9_load_X9_out : GoodIn wsX9_load wsX9_out := goodIn_r _ [6] (by decide +kernel) (by decide +kernel)
set_option maxRecDepth 20000 in
theorem gX9_load_X9_out : GoodIn wsX9_load (va_wsS RX9 266 yX9_out wsX9_out) := goodIn_app (goodIn_of _ (by decide +kernel)) ggX9_load_X9_out
set_option maxRecDepth 20000 in
theorem ggX9_load_X9_isWord : GoodIn wsX9_load wsX9_isWord := goodIn_r _ [9, 10] (by decide +kernel) (by decide +kernel)
set_option maxRecDepth 20000 in
theorem gX9_load_X9_isWord : GoodIn wsX9_load (va_wsS RX9 260 yX9_isWord wsX9_isWord) := goodIn_app (goodIn_of _ (by decide +kernel)) ggX9_load_X9_isWord
theorem dX9_load_0 : decode cX9_load 0 = .ok (.aload_n 0, 1) := by decide +kernel
theorem dX9_load_1 : decode cX9_load 1 = .ok (.iload_n 1, 1) := by decide +kernel
theorem dX9_load_2 : decode cX9_load 2 = .ok (.bipush 8, 2) := by decide +kernel
theorem dX9_load_4 : decode cX9_load 4 = .ok (.invokestatic 266, 3) := by decide +kernel
theorem dX9_load_7 : decode cX9_load 7 = .ok (.ifCond .ne 19, 3) := by decide +kernel
theorem dX9_load_10 : decode cX9_load 10 = .ok (.iload_n 2, 1) := by decide +kernel
theorem dX9_load_11 : decode cX9_load 11 = .ok (.bipush 16, 2) := by decide +kernel
theorem dX9_load_13 : decode cX9_load 13 = .ok (.invokestatic 266, 3) := by decide +kernel
theorem dX9_load_16 : decode cX9_load 16 = .ok (.ifCond .ne 10, 3) := by decide +kernel
theorem dX9_load_19 : decode cX9_load 19 = .ok (.iload_n 3, 1) := by decide +kernel
theorem dX9_load_20 : decode cX9_load 20 = .ok (.invokestatic 260, 3) := by decide +kernel
theorem dX9_load_23 : decode cX9_load 23 = .ok (.ifCond .ne 7, 3) := by decide +kernel
theorem dX9_load_26 : decode cX9_load 26 = .ok (.iconst 1, 1) := by decide +kernel
theorem dX9_load_27 : decode cX9_load 27 = .ok (.goto 4, 3) := by decide +kernel
theorem dX9_load_30 : decode cX9_load 30 = .ok (.iconst 0, 1) := by decide +kernel
theorem dX9_load_31 : decode cX9_load 31 = .ok (.putfield 48, 3) := by decide +kernel
theorem dX9_load_34 : decode cX9_load 34 = .ok (.aload_n 0, 1) := by decide +kernel
theorem dX9_load_35 : decode cX9_load 35 = .ok (.getfield 48, 3) := by decide +kernel
theorem dX9_load_38 : decode cX9_load 38 = .ok (.ifCond .ne 15, 3) := by decide +kernel
theorem dX9_load_41 : decode cX9_load 41 = .ok (.aload_n 0, 1) := by decide +kernel
theorem dX9_load_42 : decode cX9_load 42 = .ok (.getfield 45, 3) := by decide +kernel
theorem dX9_load_45 : decode cX9_load 45 = .ok (.bipush 16, 2) := by decide +kernel
theorem dX9_load_47 : decode cX9_load 47 = .ok (.iload_n 1, 1) := by decide +kernel
theorem dX9_load_48 : decode cX9_load 48 = .ok (.imul, 1) := by decide +kernel
theorem dX9_load_49 : decode cX9_load 49 = .ok (.iload_n 2, 1) := by decide +kernel
theorem dX9_load_50 : decode cX9_load 50 = .ok (.iadd, 1) := by decide +kernel
theorem dX9_load_51 : decode cX9_load 51 = .ok (.iload_n 3, 1) := by decide +kernel
theorem dX9_load_52 : decode cX9_load 52 = .ok (.iastore, 1) := by decide +kernel
theorem dX9_load_53 : decode cX9_load 53 = .ok (.return_, 1) := by decide +kernel
set_option maxRecDepth 20000 in
theorem ggX9_disk_X9_out : GoodIn wsX9_disk wsX9_out := goodIn_r _ [6] (by decide +kernel) (by decide +kernel)
set_option maxRecDepth 20000 in
theorem gX9_disk_X9_out : GoodIn wsX9_disk (va_wsS RX9 266 yX9_out wsX9_out) := goodIn_app (goodIn_of _ (by decide +kernel)) ggX9_disk_X9_out
set_option maxRecDepth 20000 in
theorem ggX9_disk_X9_fail : GoodIn wsX9_disk wsX9_fail := goodIn_r _ [10, 1, 11, 12, 13, 14, 15, 16, 17, 18, 19, 20, 21, 22, 23, 24, 25, 26, 27, 28, 29, 30, 31, 32, 33, 34, 35, 36, 37, 38] (by decide +kernel) (by decide +kernel)
set_option maxRecDepth 20000 in
theorem gX9_disk_X9_fail : GoodIn wsX9_disk (wsV RX9 263 RX9 yX9_fail wsX9_fail) := goodIn_app (goodIn_of _ (by decide +kernel)) ggX9_disk_X9_fail
theorem dX9_disk_0 : decode cX9_disk 0 = .ok (.aload_n 0, 1) := by decide +kernel
theorem dX9_disk_1 : decode cX9_disk 1 = .ok (.iconst 0, 1) := by decide +kernel
theorem dX9_disk_2 : decode cX9_disk 2 = .ok (.putfield 48, 3) := by decide +kernel
theorem dX9_disk_5 : decode cX9_disk 5 = .ok (.iload_n 1, 1) := by decide +kernel
theorem dX9_disk_6 : decode cX9_disk 6 = .ok (.bipush 8, 2) := by decide +kernel
theorem dX9_disk_8 : decode cX9_disk 8 = .ok (.invokestatic 266, 3) := by decide +kernel
theorem dX9_disk_11 : decode cX9_disk 11 = .ok (.ifCond .ne 12, 3) := by decide +kernel
theorem dX9_disk_14 : decode cX9_disk 14 = .ok (.iload_n 2, 1) := by decide +kernel
theorem dX9_disk_15 : decode cX9_disk 15 = .ok (.bipush 16, 2) := by decide +kernel
theorem dX9_disk_17 : decode cX9_disk 17 = .ok (.invokestatic 266, 3) := by decide +kernel
theorem dX9_disk_20 : decode cX9_disk 20 = .ok (.ifCond .eq 11, 3) := by decide +kernel
theorem dX9_disk_23 : decode cX9_disk 23 = .ok (.aload_n 0, 1) := by decide +kernel
theorem dX9_disk_24 : decode cX9_disk 24 = .ok (.iconst 1, 1) := by decide +kernel
theorem dX9_disk_25 : decode cX9_disk 25 = .ok (.invokevirtual 263, 3) := by decide +kernel
theorem dX9_disk_28 : decode cX9_disk 28 = .ok (.goto 14, 3) := by decide +kernel
theorem dX9_disk_31 : decode cX9_disk 31 = .ok (.aload_n 0, 1) := by decide +kernel
theorem dX9_disk_32 : decode cX9_disk 32 = .ok (.getfield 45, 3) := by decide +kernel
theorem dX9_disk_35 : decode cX9_disk 35 = .ok (.bipush 16, 2) := by decide +kernel
theorem dX9_disk_37 : decode cX9_disk 37 = .ok (.iload_n 1, 1) := by decide +kernel
theorem dX9_disk_38 : decode cX9_disk 38 = .ok (.imul, 1) := by decide +kernel
theorem dX9_disk_39 : decode cX9_disk 39 = .ok (.iload_n 2, 1) := by decide +kernel
theorem dX9_disk_40 : decode cX9_disk 40 = .ok (.iadd, 1) := by decide +kernel
theorem dX9_disk_41 : decode cX9_disk 41 = .ok (.iaload, 1) := by decide +kernel
theorem dX9_disk_42 : decode cX9_disk 42 = .ok (.ireturn, 1) := by decide +kernel
set_option maxRecDepth 20000 in
theorem ggX9_device_X9_at : GoodIn wsX9_device wsX9_at := goodIn_r _ [8, 9, 2, 10, 11, 12, 13, 14, 15, 16, 17, 18, 19, 20, 7, 21, 22, 23, 24, 25, 26, 27, 28, 29, 30, 31, 32, 33, 34, 35, 36, 37, 38, 39, 40, 41, 42, 43, 44, 45, 46, 47, 48, 49, 50, 51, 52, 53, 54, 55, 56, 57] (by decide +kernel) (by decide +kernel)
set_option maxRecDepth 20000 in
theorem gX9_device_X9_at : GoodIn wsX9_device (wsV RX9 90 RX9 yX9_at wsX9_at) := goodIn_app (goodIn_of _ (by decide +kernel)) ggX9_device_X9_at
theorem dX9_device_0 : decode cX9_device 0 = .ok (.aload_n 0, 1) := by decide +kernel
theorem dX9_device_1 : decode cX9_device 1 = .ok (.iconst 0, 1) := by decide +kernel
theorem dX9_device_2 : decode cX9_device 2 = .ok (.putfield 48, 3) := by decide +kernel
theorem dX9_device_5 : decode cX9_device 5 = .ok (.iload_n 1, 1) := by decide +kernel
theorem dX9_device_6 : decode cX9_device 6 = .ok (.ldc 64, 2) := by decide +kernel
theorem dX9_device_8 : decode cX9_device 8 = .ok (.if_icmp .lt 16, 3) := by decide +kernel
theorem dX9_device_11 : decode cX9_device 11 = .ok (.iload_n 1, 1) := by decide +kernel
theorem dX9_device_12 : decode cX9_device 12 = .ok (.ldc 122, 2) := by decide +kernel
theorem dX9_device_14 : decode cX9_device 14 = .ok (.if_icmp .gt 10, 3) := by decide +kernel
theorem dX9_device_17 : decode cX9_device 17 = .ok (.iload_n 1, 1) := by decide +kernel
theorem dX9_device_18 : decode cX9_device 18 = .ok (.iconst 2, 1) := by decide +kernel
theorem dX9_device_19 : decode cX9_device 19 = .ok (.irem, 1) := by decide +kernel
theorem dX9_device_20 : decode cX9_device 20 = .ok (.iconst 1, 1) := by decide +kernel
theorem dX9_device_21 : decode cX9_device 21 = .ok (.if_icmp .ne 7, 3) := by decide +kernel
theorem dX9_device_24 : decode cX9_device 24 = .ok (.iconst (-1), 1) := by decide +kernel
theorem dX9_device_25 : decode cX9_device 25 = .ok (.goto 8, 3) := by decide +kernel
theorem dX9_device_28 : decode cX9_device 28 = .ok (.aload_n 0, 1) := by decide +kernel
theorem dX9_device_29 : decode cX9_device 29 = .ok (.iload_n 1, 1) := by decide +kernel
theorem dX9_device_30 : decode cX9_device 30 = .ok (.invokevirtual 90, 3) := by decide +kernel
theorem dX9_device_33 : decode cX9_device 33 = .ok (.ireturn, 1) := by decide +kernel
theorem dX9_state_0 : decode cX9_state 0 = .ok (.aload_n 0, 1) := by decide +kernel
theorem dX9_state_1 : decode cX9_state 1 = .ok (.iconst 0, 1) := by decide +kernel
theorem dX9_state_2 : decode cX9_state 2 = .ok (.putfield 48, 3) := by decide +kernel
theorem dX9_state_5 : decode cX9_state 5 = .ok (.aload_n 0, 1) := by decide +kernel
theorem dX9_state_6 : decode cX9_state 6 = .ok (.getfield 22, 3) := by decide +kernel
theorem dX9_state_9 : decode cX9_state 9 = .ok (.ireturn, 1) := by decide +kernel
set_option maxRecDepth 20000 in
theorem ggL_deposit_X8_deposit : GoodIn wsL_deposit wsX8_deposit := goodIn_ca (goodIn_r _ [6, 7, 8, 9, 10, 11, 12, 5, 13, 14, 15, 16, 17, 18, 19, 20, 21, 22, 23, 24, 25] (by decide +kernel) (by decide +kernel)) (goodIn_sub (fun _ h => List.mem_cons_of_mem _ (List.mem_append_right _ h)) (by decide +kernel))
set_option maxRecDepth 20000 in
theorem gL_deposit_X8_deposit : GoodIn wsL_deposit (wsV RL 7 RX8 yX8_deposit wsX8_deposit) := goodIn_app (goodIn_of _ (by decide +kernel)) ggL_deposit_X8_deposit
theorem dL_deposit_0 : decode cL_deposit 0 = .ok (.aload_n 0, 1) := by decide +kernel
theorem dL_deposit_1 : decode cL_deposit 1 = .ok (.iload_n 1, 1) := by decide +kernel
theorem dL_deposit_2 : decode cL_deposit 2 = .ok (.iload_n 2, 1) := by decide +kernel
theorem dL_deposit_3 : decode cL_deposit 3 = .ok (.invokevirtual 7, 3) := by decide +kernel
theorem dL_deposit_6 : decode cL_deposit 6 = .ok (.goto 6, 3) := by decide +kernel
theorem dL_deposit_9 : decode cL_deposit 9 = .ok (.astore_n 3, 1) := by decide +kernel
theorem dL_deposit_10 : decode cL_deposit 10 = .ok (.iconst 1, 1) := by decide +kernel
theorem dL_deposit_11 : decode cL_deposit 11 = .ok (.ireturn, 1) := by decide +kernel
theorem dL_deposit_12 : decode cL_deposit 12 = .ok (.iconst 0, 1) := by decide +kernel
theorem dL_deposit_13 : decode cL_deposit 13 = .ok (.ireturn, 1) := by decide +kernel
set_option maxRecDepth 20000 in
theorem ggL_examine_X8_examine : GoodIn wsL_examine wsX8_examine := goodIn_ca (goodIn_r _ [6, 7, 8, 9, 10, 11, 12, 5, 13, 14, 15, 16, 17, 18, 19, 20, 21] (by decide +kernel) (by decide +kernel)) (goodIn_sub (fun _ h => List.mem_cons_of_mem _ (List.mem_append_right _ h)) (by decide +kernel))
set_option maxRecDepth 20000 in
theorem gL_examine_X8_examine : GoodIn wsL_examine (wsV RL 15 RX8 yX8_examine wsX8_examine) := goodIn_app (goodIn_of _ (by decide +kernel)) ggL_examine_X8_examine
theorem dL_examine_0 : decode cL_examine 0 = .ok (.aload_n 2, 1) := by decide +kernel
theorem dL_examine_1 : decode cL_examine 1 = .ok (.iconst 0, 1) := by decide +kernel
theorem dL_examine_2 : decode cL_examine 2 = .ok (.aload_n 0, 1) := by decide +kernel
theorem dL_examine_3 : decode cL_examine 3 = .ok (.iload_n 1, 1) := by decide +kernel
theorem dL_examine_4 : decode cL_examine 4 = .ok (.invokevirtual 15, 3) := by decide +kernel
theorem dL_examine_7 : decode cL_examine 7 = .ok (.i2l, 1) := by decide +kernel
theorem dL_examine_8 : decode cL_examine 8 = .ok (.lastore, 1) := by decide +kernel
theorem dL_examine_9 : decode cL_examine 9 = .ok (.goto 6, 3) := by decide +kernel
theorem dL_examine_12 : decode cL_examine 12 = .ok (.astore_n 3, 1) := by decide +kernel
theorem dL_examine_13 : decode cL_examine 13 = .ok (.iconst 1, 1) := by decide +kernel
theorem dL_examine_14 : decode cL_examine 14 = .ok (.ireturn, 1) := by decide +kernel
theorem dL_examine_15 : decode cL_examine 15 = .ok (.iconst 0, 1) := by decide +kernel
theorem dL_examine_16 : decode cL_examine 16 = .ok (.ireturn, 1) := by decide +kernel
set_option maxRecDepth 20000 in
theorem ggL_set_X8_set : GoodIn wsL_set wsX8_set := goodIn_ca (goodIn_r _ [6, 7, 8, 9, 10, 11, 12, 13, 5, 14, 15, 16, 17, 18, 19, 20, 21, 22, 23, 24, 25, 26, 27, 28, 29, 30, 31, 32, 33, 34, 35] (by decide +kernel) (by decide +kernel)) (goodIn_sub (fun _ h => List.mem_cons_of_mem _ (List.mem_append_right _ h)) (by decide +kernel))
set_option maxRecDepth 20000 in
theorem gL_set_X8_set : GoodIn wsL_set (wsV RL 19 RX8 yX8_set wsX8_set) := goodIn_app (goodIn_of _ (by decide +kernel)) ggL_set_X8_set
theorem dL_set_0 : decode cL_set 0 = .ok (.aload_n 0, 1) := by decide +kernel
theorem dL_set_1 : decode cL_set 1 = .ok (.iload_n 1, 1) := by decide +kernel
theorem dL_set_2 : decode cL_set 2 = .ok (.iload_n 2, 1) := by decide +kernel
theorem dL_set_3 : decode cL_set 3 = .ok (.invokevirtual 19, 3) := by decide +kernel
theorem dL_set_6 : decode cL_set 6 = .ok (.goto 6, 3) := by decide +kernel
theorem dL_set_9 : decode cL_set 9 = .ok (.astore_n 3, 1) := by decide +kernel
theorem dL_set_10 : decode cL_set 10 = .ok (.iconst 1, 1) := by decide +kernel
theorem dL_set_11 : decode cL_set 11 = .ok (.ireturn, 1) := by decide +kernel
theorem dL_set_12 : decode cL_set 12 = .ok (.iconst 0, 1) := by decide +kernel
theorem dL_set_13 : decode cL_set 13 = .ok (.ireturn, 1) := by decide +kernel
set_option maxRecDepth 20000 in
theorem ggL_register_X8_register : GoodIn wsL_register wsX8_register := goodIn_ca (goodIn_r _ [6, 7, 8, 9, 10, 11, 12, 13, 14, 15, 16, 17, 18, 19, 20, 21, 22, 23, 24, 25, 26, 27, 28, 29, 30, 31, 32, 33] (by decide +kernel) (by decide +kernel)) (goodIn_sub (fun _ h => List.mem_cons_of_mem _ (List.mem_append_right _ h)) (by decide +kernel))
set_option maxRecDepth 20000 in
theorem gL_register_X8_register : GoodIn wsL_register (wsV RL 22 RX8 yX8_register wsX8_register) := goodIn_app (goodIn_of _ (by decide +kernel)) ggL_register_X8_register
theorem dL_register_0 : decode cL_register 0 = .ok (.aload_n 2, 1) := by decide +kernel
theorem dL_register_1 : decode cL_register 1 = .ok (.iconst 0, 1) := by decide +kernel
theorem dL_register_2 : decode cL_register 2 = .ok (.aload_n 0, 1) := by decide +kernel
theorem dL_register_3 : decode cL_register 3 = .ok (.iload_n 1, 1) := by decide +kernel
theorem dL_register_4 : decode cL_register 4 = .ok (.invokevirtual 22, 3) := by decide +kernel
theorem dL_register_7 : decode cL_register 7 = .ok (.i2l, 1) := by decide +kernel
theorem dL_register_8 : decode cL_register 8 = .ok (.lastore, 1) := by decide +kernel
theorem dL_register_9 : decode cL_register 9 = .ok (.goto 6, 3) := by decide +kernel
theorem dL_register_12 : decode cL_register 12 = .ok (.astore_n 3, 1) := by decide +kernel
theorem dL_register_13 : decode cL_register 13 = .ok (.iconst 1, 1) := by decide +kernel
theorem dL_register_14 : decode cL_register 14 = .ok (.ireturn, 1) := by decide +kernel
theorem dL_register_15 : decode cL_register 15 = .ok (.iconst 0, 1) := by decide +kernel
theorem dL_register_16 : decode cL_register 16 = .ok (.ireturn, 1) := by decide +kernel
set_option maxRecDepth 20000 in
theorem ggL_start_X8_start : GoodIn wsL_start wsX8_start := goodIn_ca (goodIn_r _ [6, 7, 8, 9, 10, 11, 12, 13, 14, 5, 15, 16, 17, 18, 19, 20, 21, 22, 23, 24, 25, 26, 27, 28, 29, 30, 31, 32, 33, 34, 35, 36, 37, 38] (by decide +kernel) (by decide +kernel)) (goodIn_sub (fun _ h => List.mem_cons_of_mem _ (List.mem_append_right _ h)) (by decide +kernel))
set_option maxRecDepth 20000 in
theorem gL_start_X8_start : GoodIn wsL_start (wsV RL 25 RX8 yX8_start wsX8_start) := goodIn_app (goodIn_of _ (by decide +kernel)) ggL_start_X8_start
theorem dL_start_0 : decode cL_start 0 = .ok (.aload_n 0, 1) := by decide +kernel
theorem dL_start_1 : decode cL_start 1 = .ok (.iload_n 1, 1) := by decide +kernel
theorem dL_start_2 : decode cL_start 2 = .ok (.invokevirtual 25, 3) := by decide +kernel
theorem dL_start_5 : decode cL_start 5 = .ok (.goto 6, 3) := by decide +kernel
theorem dL_start_8 : decode cL_start 8 = .ok (.astore_n 2, 1) := by decide +kernel
theorem dL_start_9 : decode cL_start 9 = .ok (.iconst 1, 1) := by decide +kernel
theorem dL_start_10 : decode cL_start 10 = .ok (.ireturn, 1) := by decide +kernel
theorem dL_start_11 : decode cL_start 11 = .ok (.iconst 0, 1) := by decide +kernel
theorem dL_start_12 : decode cL_start 12 = .ok (.ireturn, 1) := by decide +kernel
theorem dL_run_0 : decode cL_run 0 = .ok (.aload_n 2, 1) := by decide +kernel
theorem dL_run_1 : decode cL_run 1 = .ok (.iconst 0, 1) := by decide +kernel
theorem dL_run_2 : decode cL_run 2 = .ok (.aload_n 0, 1) := by decide +kernel
theorem dL_run_3 : decode cL_run 3 = .ok (.iload_n 1, 1) := by decide +kernel
theorem dL_run_4 : decode cL_run 4 = .ok (.invokevirtual 29, 3) := by decide +kernel
theorem dL_run_7 : decode cL_run 7 = .ok (.i2l, 1) := by decide +kernel
theorem dL_run_8 : decode cL_run 8 = .ok (.lastore, 1) := by decide +kernel
theorem dL_run_9 : decode cL_run 9 = .ok (.goto 9, 3) := by decide +kernel
theorem dL_run_12 : decode cL_run 12 = .ok (.astore_n 3, 1) := by decide +kernel
theorem dL_run_13 : decode cL_run 13 = .ok (.iconst 1, 1) := by decide +kernel
theorem dL_run_14 : decode cL_run 14 = .ok (.ireturn, 1) := by decide +kernel
theorem dL_run_15 : decode cL_run 15 = .ok (.astore_n 3, 1) := by decide +kernel
theorem dL_run_16 : decode cL_run 16 = .ok (.iconst 2, 1) := by decide +kernel
theorem dL_run_17 : decode cL_run 17 = .ok (.ireturn, 1) := by decide +kernel
theorem dL_run_18 : decode cL_run 18 = .ok (.iconst 0, 1) := by decide +kernel
theorem dL_run_19 : decode cL_run 19 = .ok (.ireturn, 1) := by decide +kernel
set_option maxRecDepth 20000 in
theorem ggL_key_X8_key : GoodIn wsL_key wsX8_key := goodIn_ca (goodIn_r _ [6, 7, 8, 9, 10, 11, 12, 13, 14, 15, 16, 17, 18, 19, 20, 21, 22, 23, 24, 25, 26, 27, 28, 29, 30, 31, 32, 33, 34, 35, 36, 37, 38, 39, 40, 41, 42, 43, 44, 45, 46, 47, 48, 49, 50, 51, 52, 53, 54] (by decide +kernel) (by decide +kernel)) (goodIn_sub (fun _ h => List.mem_cons_of_mem _ (List.mem_append_right _ h)) (by decide +kernel))
set_option maxRecDepth 20000 in
theorem gL_key_X8_key : GoodIn wsL_key (wsV RL 34 RX8 yX8_key wsX8_key) := goodIn_app (goodIn_of _ (by decide +kernel)) ggL_key_X8_key
theorem dL_key_0 : decode cL_key 0 = .ok (.aload_n 0, 1) := by decide +kernel
theorem dL_key_1 : decode cL_key 1 = .ok (.iload_n 1, 1) := by decide +kernel
theorem dL_key_2 : decode cL_key 2 = .ok (.invokevirtual 34, 3) := by decide +kernel
theorem dL_key_5 : decode cL_key 5 = .ok (.goto 6, 3) := by decide +kernel
theorem dL_key_8 : decode cL_key 8 = .ok (.astore_n 2, 1) := by decide +kernel
theorem dL_key_9 : decode cL_key 9 = .ok (.iconst 1, 1) := by decide +kernel
theorem dL_key_10 : decode cL_key 10 = .ok (.ireturn, 1) := by decide +kernel
theorem dL_key_11 : decode cL_key 11 = .ok (.iconst 0, 1) := by decide +kernel
theorem dL_key_12 : decode cL_key 12 = .ok (.ireturn, 1) := by decide +kernel
set_option maxRecDepth 20000 in
theorem ggL_printed_X8_printed : GoodIn wsL_printed wsX8_printed := goodIn_ca (goodIn_r _ [6, 7, 8, 9, 10, 11, 12, 13, 14, 15, 16, 17, 18, 19, 20, 21, 22, 23, 24, 25, 26, 27] (by decide +kernel) (by decide +kernel)) (goodIn_sub (fun _ h => List.mem_cons_of_mem _ (List.mem_append_right _ h)) (by decide +kernel))
set_option maxRecDepth 20000 in
theorem gL_printed_X8_printed : GoodIn wsL_printed (wsV RL 37 RX8 yX8_printed wsX8_printed) := goodIn_app (goodIn_of _ (by decide +kernel)) ggL_printed_X8_printed
theorem dL_printed_0 : decode cL_printed 0 = .ok (.aload_n 2, 1) := by decide +kernel
theorem dL_printed_1 : decode cL_printed 1 = .ok (.iconst 0, 1) := by decide +kernel
theorem dL_printed_2 : decode cL_printed 2 = .ok (.aload_n 0, 1) := by decide +kernel
theorem dL_printed_3 : decode cL_printed 3 = .ok (.iload_n 1, 1) := by decide +kernel
theorem dL_printed_4 : decode cL_printed 4 = .ok (.invokevirtual 37, 3) := by decide +kernel
theorem dL_printed_7 : decode cL_printed 7 = .ok (.i2l, 1) := by decide +kernel
theorem dL_printed_8 : decode cL_printed 8 = .ok (.lastore, 1) := by decide +kernel
theorem dL_printed_9 : decode cL_printed 9 = .ok (.goto 6, 3) := by decide +kernel
theorem dL_printed_12 : decode cL_printed 12 = .ok (.astore_n 3, 1) := by decide +kernel
theorem dL_printed_13 : decode cL_printed 13 = .ok (.iconst 1, 1) := by decide +kernel
theorem dL_printed_14 : decode cL_printed 14 = .ok (.ireturn, 1) := by decide +kernel
theorem dL_printed_15 : decode cL_printed 15 = .ok (.iconst 0, 1) := by decide +kernel
theorem dL_printed_16 : decode cL_printed 16 = .ok (.ireturn, 1) := by decide +kernel
set_option maxRecDepth 20000 in
theorem ggL_load_X8_load : GoodIn wsL_load wsX8_load := goodIn_ca (goodIn_r _ [6, 7, 8, 9, 10, 11, 12, 13, 5, 14, 15, 16, 17, 18, 19, 20, 21, 22, 23, 24, 25, 26, 27, 28, 29, 30, 31, 32, 33, 34, 35, 36] (by decide +kernel) (by decide +kernel)) (goodIn_sub (fun _ h => List.mem_cons_of_mem _ (List.mem_append_right _ h)) (by decide +kernel))
set_option maxRecDepth 20000 in
theorem gL_load_X8_load : GoodIn wsL_load (wsV RL 42 RX8 yX8_load wsX8_load) := goodIn_app (goodIn_of _ (by decide +kernel)) ggL_load_X8_load
theorem dL_load_0 : decode cL_load 0 = .ok (.aload_n 0, 1) := by decide +kernel
theorem dL_load_1 : decode cL_load 1 = .ok (.iload_n 1, 1) := by decide +kernel
theorem dL_load_2 : decode cL_load 2 = .ok (.iload_n 2, 1) := by decide +kernel
theorem dL_load_3 : decode cL_load 3 = .ok (.iload_n 3, 1) := by decide +kernel
theorem dL_load_4 : decode cL_load 4 = .ok (.invokevirtual 42, 3) := by decide +kernel
theorem dL_load_7 : decode cL_load 7 = .ok (.goto 7, 3) := by decide +kernel
theorem dL_load_10 : decode cL_load 10 = .ok (.astore 4, 2) := by decide +kernel
theorem dL_load_12 : decode cL_load 12 = .ok (.iconst 1, 1) := by decide +kernel
theorem dL_load_13 : decode cL_load 13 = .ok (.ireturn, 1) := by decide +kernel
theorem dL_load_14 : decode cL_load 14 = .ok (.iconst 0, 1) := by decide +kernel
theorem dL_load_15 : decode cL_load 15 = .ok (.ireturn, 1) := by decide +kernel
set_option maxRecDepth 20000 in
theorem ggL_disk_X8_disk : GoodIn wsL_disk wsX8_disk := goodIn_ca (goodIn_r _ [6, 7, 8, 9, 10, 11, 12, 13, 5, 14, 15, 16, 17, 18, 19, 20, 21, 22, 23, 24, 25, 26, 27, 28, 29, 30, 31, 32] (by decide +kernel) (by decide +kernel)) (goodIn_sub (fun _ h => List.mem_cons_of_mem _ (List.mem_append_right _ h)) (by decide +kernel))
set_option maxRecDepth 20000 in
theorem gL_disk_X8_disk : GoodIn wsL_disk (wsV RL 46 RX8 yX8_disk wsX8_disk) := goodIn_app (goodIn_of _ (by decide +kernel)) ggL_disk_X8_disk
theorem dL_disk_0 : decode cL_disk 0 = .ok (.aload_n 3, 1) := by decide +kernel
theorem dL_disk_1 : decode cL_disk 1 = .ok (.iconst 0, 1) := by decide +kernel
theorem dL_disk_2 : decode cL_disk 2 = .ok (.aload_n 0, 1) := by decide +kernel
theorem dL_disk_3 : decode cL_disk 3 = .ok (.iload_n 1, 1) := by decide +kernel
theorem dL_disk_4 : decode cL_disk 4 = .ok (.iload_n 2, 1) := by decide +kernel
theorem dL_disk_5 : decode cL_disk 5 = .ok (.invokevirtual 46, 3) := by decide +kernel
theorem dL_disk_8 : decode cL_disk 8 = .ok (.i2l, 1) := by decide +kernel
theorem dL_disk_9 : decode cL_disk 9 = .ok (.lastore, 1) := by decide +kernel
theorem dL_disk_10 : decode cL_disk 10 = .ok (.goto 7, 3) := by decide +kernel
theorem dL_disk_13 : decode cL_disk 13 = .ok (.astore 4, 2) := by decide +kernel
theorem dL_disk_15 : decode cL_disk 15 = .ok (.iconst 1, 1) := by decide +kernel
theorem dL_disk_16 : decode cL_disk 16 = .ok (.ireturn, 1) := by decide +kernel
theorem dL_disk_17 : decode cL_disk 17 = .ok (.iconst 0, 1) := by decide +kernel
theorem dL_disk_18 : decode cL_disk 18 = .ok (.ireturn, 1) := by decide +kernel
theorem dL_law_0 : decode cL_law 0 = .ok (.new 8, 3) := by decide +kernel
theorem dL_law_3 : decode cL_law 3 = .ok (.dup, 1) := by decide +kernel
theorem dL_law_4 : decode cL_law 4 = .ok (.invokespecial 50, 3) := by decide +kernel
theorem dL_law_7 : decode cL_law 7 = .ok (.astore_n 1, 1) := by decide +kernel
theorem dL_law_8 : decode cL_law 8 = .ok (.new 51, 3) := by decide +kernel
theorem dL_law_11 : decode cL_law 11 = .ok (.dup, 1) := by decide +kernel
theorem dL_law_12 : decode cL_law 12 = .ok (.invokespecial 53, 3) := by decide +kernel
theorem dL_law_15 : decode cL_law 15 = .ok (.astore_n 2, 1) := by decide +kernel
theorem dL_law_16 : decode cL_law 16 = .ok (.iconst 1, 1) := by decide +kernel
theorem dL_law_17 : decode cL_law 17 = .ok (.newarray .long, 2) := by decide +kernel
theorem dL_law_19 : decode cL_law 19 = .ok (.astore_n 3, 1) := by decide +kernel
theorem dL_law_20 : decode cL_law 20 = .ok (.iconst 0, 1) := by decide +kernel
theorem dL_law_21 : decode cL_law 21 = .ok (.istore 4, 2) := by decide +kernel
theorem dL_law_23 : decode cL_law 23 = .ok (.iload 4, 2) := by decide +kernel
theorem dL_law_25 : decode cL_law 25 = .ok (.aload_n 0, 1) := by decide +kernel
theorem dL_law_26 : decode cL_law 26 = .ok (.arraylength, 1) := by decide +kernel
theorem dL_law_27 : decode cL_law 27 = .ok (.iconst 4, 1) := by decide +kernel
theorem dL_law_28 : decode cL_law 28 = .ok (.isub, 1) := by decide +kernel
theorem dL_law_29 : decode cL_law 29 = .ok (.if_icmp .gt 635, 3) := by decide +kernel
theorem dL_law_32 : decode cL_law 32 = .ok (.aload_n 0, 1) := by decide +kernel
theorem dL_law_33 : decode cL_law 33 = .ok (.iload 4, 2) := by decide +kernel
theorem dL_law_35 : decode cL_law 35 = .ok (.iaload, 1) := by decide +kernel
theorem dL_law_36 : decode cL_law 36 = .ok (.bipush 15, 2) := by decide +kernel
theorem dL_law_38 : decode cL_law 38 = .ok (.iand, 1) := by decide +kernel
theorem dL_law_39 : decode cL_law 39 = .ok (.tableswitch 619 0 11 #[61, 109, 165, 213, 269, 305, 361, 397, 453, 513, 581, 606], 61) := by decide +kernel
theorem dL_law_100 : decode cL_law 100 = .ok (.aload_n 1, 1) := by decide +kernel
theorem dL_law_101 : decode cL_law 101 = .ok (.aload_n 0, 1) := by decide +kernel
theorem dL_law_102 : decode cL_law 102 = .ok (.iload 4, 2) := by decide +kernel
theorem dL_law_104 : decode cL_law 104 = .ok (.iconst 1, 1) := by decide +kernel
theorem dL_law_105 : decode cL_law 105 = .ok (.iadd, 1) := by decide +kernel
theorem dL_law_106 : decode cL_law 106 = .ok (.iaload, 1) := by decide +kernel
theorem dL_law_107 : decode cL_law 107 = .ok (.aload_n 0, 1) := by decide +kernel
theorem dL_law_108 : decode cL_law 108 = .ok (.iload 4, 2) := by decide +kernel
theorem dL_law_110 : decode cL_law 110 = .ok (.iconst 2, 1) := by decide +kernel
theorem dL_law_111 : decode cL_law 111 = .ok (.iadd, 1) := by decide +kernel
theorem dL_law_112 : decode cL_law 112 = .ok (.iaload, 1) := by decide +kernel
theorem dL_law_113 : decode cL_law 113 = .ok (.invokestatic 54, 3) := by decide +kernel
theorem dL_law_116 : decode cL_law 116 = .ok (.istore 5, 2) := by decide +kernel
theorem dL_law_118 : decode cL_law 118 = .ok (.aload_n 2, 1) := by decide +kernel
theorem dL_law_119 : decode cL_law 119 = .ok (.aload_n 0, 1) := by decide +kernel
theorem dL_law_120 : decode cL_law 120 = .ok (.iload 4, 2) := by decide +kernel
theorem dL_law_122 : decode cL_law 122 = .ok (.iconst 1, 1) := by decide +kernel
theorem dL_law_123 : decode cL_law 123 = .ok (.iadd, 1) := by decide +kernel
theorem dL_law_124 : decode cL_law 124 = .ok (.iaload, 1) := by decide +kernel
theorem dL_law_125 : decode cL_law 125 = .ok (.aload_n 0, 1) := by decide +kernel
theorem dL_law_126 : decode cL_law 126 = .ok (.iload 4, 2) := by decide +kernel
theorem dL_law_128 : decode cL_law 128 = .ok (.iconst 2, 1) := by decide +kernel
theorem dL_law_129 : decode cL_law 129 = .ok (.iadd, 1) := by decide +kernel
theorem dL_law_130 : decode cL_law 130 = .ok (.iaload, 1) := by decide +kernel
theorem dL_law_131 : decode cL_law 131 = .ok (.invokevirtual 59, 3) := by decide +kernel
theorem dL_law_134 : decode cL_law 134 = .ok (.aload_n 2, 1) := by decide +kernel
theorem dL_law_135 : decode cL_law 135 = .ok (.invokevirtual 60, 3) := by decide +kernel
theorem dL_law_138 : decode cL_law 138 = .ok (.iload 5, 2) := by decide +kernel
theorem dL_law_140 : decode cL_law 140 = .ok (.if_icmp .eq 5, 3) := by decide +kernel
theorem dL_law_143 : decode cL_law 143 = .ok (.iconst 0, 1) := by decide +kernel
theorem dL_law_144 : decode cL_law 144 = .ok (.ireturn, 1) := by decide +kernel
theorem dL_law_145 : decode cL_law 145 = .ok (.goto 513, 3) := by decide +kernel
theorem dL_law_148 : decode cL_law 148 = .ok (.aload_n 1, 1) := by decide +kernel
theorem dL_law_149 : decode cL_law 149 = .ok (.aload_n 0, 1) := by decide +kernel
theorem dL_law_150 : decode cL_law 150 = .ok (.iload 4, 2) := by decide +kernel
theorem dL_law_152 : decode cL_law 152 = .ok (.iconst 1, 1) := by decide +kernel
theorem dL_law_153 : decode cL_law 153 = .ok (.iadd, 1) := by decide +kernel
theorem dL_law_154 : decode cL_law 154 = .ok (.iaload, 1) := by decide +kernel
theorem dL_law_155 : decode cL_law 155 = .ok (.aload_n 3, 1) := by decide +kernel
theorem dL_law_156 : decode cL_law 156 = .ok (.invokestatic 64, 3) := by decide +kernel
theorem dL_law_159 : decode cL_law 159 = .ok (.istore 5, 2) := by decide +kernel
theorem dL_law_161 : decode cL_law 161 = .ok (.aload_n 2, 1) := by decide +kernel
theorem dL_law_162 : decode cL_law 162 = .ok (.aload_n 0, 1) := by decide +kernel
theorem dL_law_163 : decode cL_law 163 = .ok (.iload 4, 2) := by decide +kernel
theorem dL_law_165 : decode cL_law 165 = .ok (.iconst 1, 1) := by decide +kernel
theorem dL_law_166 : decode cL_law 166 = .ok (.iadd, 1) := by decide +kernel
theorem dL_law_167 : decode cL_law 167 = .ok (.iaload, 1) := by decide +kernel
theorem dL_law_168 : decode cL_law 168 = .ok (.invokevirtual 67, 3) := by decide +kernel
theorem dL_law_171 : decode cL_law 171 = .ok (.istore 6, 2) := by decide +kernel
theorem dL_law_173 : decode cL_law 173 = .ok (.aload_n 2, 1) := by decide +kernel
theorem dL_law_174 : decode cL_law 174 = .ok (.invokevirtual 60, 3) := by decide +kernel
theorem dL_law_177 : decode cL_law 177 = .ok (.iload 5, 2) := by decide +kernel
theorem dL_law_179 : decode cL_law 179 = .ok (.if_icmp .eq 5, 3) := by decide +kernel
theorem dL_law_182 : decode cL_law 182 = .ok (.iconst 0, 1) := by decide +kernel
theorem dL_law_183 : decode cL_law 183 = .ok (.ireturn, 1) := by decide +kernel
theorem dL_law_184 : decode cL_law 184 = .ok (.iload 5, 2) := by decide +kernel
theorem dL_law_186 : decode cL_law 186 = .ok (.ifCond .ne 15, 3) := by decide +kernel
theorem dL_law_189 : decode cL_law 189 = .ok (.aload_n 3, 1) := by decide +kernel
theorem dL_law_190 : decode cL_law 190 = .ok (.iconst 0, 1) := by decide +kernel
theorem dL_law_191 : decode cL_law 191 = .ok (.laload, 1) := by decide +kernel
theorem dL_law_192 : decode cL_law 192 = .ok (.iload 6, 2) := by decide +kernel
theorem dL_law_194 : decode cL_law 194 = .ok (.i2l, 1) := by decide +kernel
theorem dL_law_195 : decode cL_law 195 = .ok (.lcmp, 1) := by decide +kernel
theorem dL_law_196 : decode cL_law 196 = .ok (.ifCond .eq 5, 3) := by decide +kernel
theorem dL_law_199 : decode cL_law 199 = .ok (.iconst 0, 1) := by decide +kernel
theorem dL_law_200 : decode cL_law 200 = .ok (.ireturn, 1) := by decide +kernel
theorem dL_law_201 : decode cL_law 201 = .ok (.goto 457, 3) := by decide +kernel
theorem dL_law_204 : decode cL_law 204 = .ok (.aload_n 1, 1) := by decide +kernel
theorem dL_law_205 : decode cL_law 205 = .ok (.aload_n 0, 1) := by decide +kernel
theorem dL_law_206 : decode cL_law 206 = .ok (.iload 4, 2) := by decide +kernel
theorem dL_law_208 : decode cL_law 208 = .ok (.iconst 1, 1) := by decide +kernel
theorem dL_law_209 : decode cL_law 209 = .ok (.iadd, 1) := by decide +kernel
theorem dL_law_210 : decode cL_law 210 = .ok (.iaload, 1) := by decide +kernel
theorem dL_law_211 : decode cL_law 211 = .ok (.aload_n 0, 1) := by decide +kernel
theorem dL_law_212 : decode cL_law 212 = .ok (.iload 4, 2) := by decide +kernel
theorem dL_law_214 : decode cL_law 214 = .ok (.iconst 2, 1) := by decide +kernel
theorem dL_law_215 : decode cL_law 215 = .ok (.iadd, 1) := by decide +kernel
theorem dL_law_216 : decode cL_law 216 = .ok (.iaload, 1) := by decide +kernel
theorem dL_law_217 : decode cL_law 217 = .ok (.invokestatic 68, 3) := by decide +kernel
theorem dL_law_220 : decode cL_law 220 = .ok (.istore 5, 2) := by decide +kernel
theorem dL_law_222 : decode cL_law 222 = .ok (.aload_n 2, 1) := by decide +kernel
theorem dL_law_223 : decode cL_law 223 = .ok (.aload_n 0, 1) := by decide +kernel
theorem dL_law_224 : decode cL_law 224 = .ok (.iload 4, 2) := by decide +kernel
theorem dL_law_226 : decode cL_law 226 = .ok (.iconst 1, 1) := by decide +kernel
theorem dL_law_227 : decode cL_law 227 = .ok (.iadd, 1) := by decide +kernel
theorem dL_law_228 : decode cL_law 228 = .ok (.iaload, 1) := by decide +kernel
theorem dL_law_229 : decode cL_law 229 = .ok (.aload_n 0, 1) := by decide +kernel
theorem dL_law_230 : decode cL_law 230 = .ok (.iload 4, 2) := by decide +kernel
theorem dL_law_232 : decode cL_law 232 = .ok (.iconst 2, 1) := by decide +kernel
theorem dL_law_233 : decode cL_law 233 = .ok (.iadd, 1) := by decide +kernel
theorem dL_law_234 : decode cL_law 234 = .ok (.iaload, 1) := by decide +kernel
theorem dL_law_235 : decode cL_law 235 = .ok (.invokevirtual 70, 3) := by decide +kernel
theorem dL_law_238 : decode cL_law 238 = .ok (.aload_n 2, 1) := by decide +kernel
theorem dL_law_239 : decode cL_law 239 = .ok (.invokevirtual 60, 3) := by decide +kernel
theorem dL_law_242 : decode cL_law 242 = .ok (.iload 5, 2) := by decide +kernel
theorem dL_law_244 : decode cL_law 244 = .ok (.if_icmp .eq 5, 3) := by decide +kernel
theorem dL_law_247 : decode cL_law 247 = .ok (.iconst 0, 1) := by decide +kernel
theorem dL_law_248 : decode cL_law 248 = .ok (.ireturn, 1) := by decide +kernel
theorem dL_law_249 : decode cL_law 249 = .ok (.goto 409, 3) := by decide +kernel
theorem dL_law_252 : decode cL_law 252 = .ok (.aload_n 1, 1) := by decide +kernel
theorem dL_law_253 : decode cL_law 253 = .ok (.aload_n 0, 1) := by decide +kernel
theorem dL_law_254 : decode cL_law 254 = .ok (.iload 4, 2) := by decide +kernel
theorem dL_law_256 : decode cL_law 256 = .ok (.iconst 1, 1) := by decide +kernel
theorem dL_law_257 : decode cL_law 257 = .ok (.iadd, 1) := by decide +kernel
theorem dL_law_258 : decode cL_law 258 = .ok (.iaload, 1) := by decide +kernel
theorem dL_law_259 : decode cL_law 259 = .ok (.aload_n 3, 1) := by decide +kernel
theorem dL_law_260 : decode cL_law 260 = .ok (.invokestatic 71, 3) := by decide +kernel
theorem dL_law_263 : decode cL_law 263 = .ok (.istore 5, 2) := by decide +kernel
theorem dL_law_265 : decode cL_law 265 = .ok (.aload_n 2, 1) := by decide +kernel
theorem dL_law_266 : decode cL_law 266 = .ok (.aload_n 0, 1) := by decide +kernel
theorem dL_law_267 : decode cL_law 267 = .ok (.iload 4, 2) := by decide +kernel
theorem dL_law_269 : decode cL_law 269 = .ok (.iconst 1, 1) := by decide +kernel
theorem dL_law_270 : decode cL_law 270 = .ok (.iadd, 1) := by decide +kernel
theorem dL_law_271 : decode cL_law 271 = .ok (.iaload, 1) := by decide +kernel
theorem dL_law_272 : decode cL_law 272 = .ok (.invokevirtual 73, 3) := by decide +kernel
theorem dL_law_275 : decode cL_law 275 = .ok (.istore 6, 2) := by decide +kernel
theorem dL_law_277 : decode cL_law 277 = .ok (.aload_n 2, 1) := by decide +kernel
theorem dL_law_278 : decode cL_law 278 = .ok (.invokevirtual 60, 3) := by decide +kernel
theorem dL_law_281 : decode cL_law 281 = .ok (.iload 5, 2) := by decide +kernel
theorem dL_law_283 : decode cL_law 283 = .ok (.if_icmp .eq 5, 3) := by decide +kernel
theorem dL_law_286 : decode cL_law 286 = .ok (.iconst 0, 1) := by decide +kernel
theorem dL_law_287 : decode cL_law 287 = .ok (.ireturn, 1) := by decide +kernel
theorem dL_law_288 : decode cL_law 288 = .ok (.iload 5, 2) := by decide +kernel
theorem dL_law_290 : decode cL_law 290 = .ok (.ifCond .ne 15, 3) := by decide +kernel
theorem dL_law_293 : decode cL_law 293 = .ok (.aload_n 3, 1) := by decide +kernel
theorem dL_law_294 : decode cL_law 294 = .ok (.iconst 0, 1) := by decide +kernel
theorem dL_law_295 : decode cL_law 295 = .ok (.laload, 1) := by decide +kernel
theorem dL_law_296 : decode cL_law 296 = .ok (.iload 6, 2) := by decide +kernel
theorem dL_law_298 : decode cL_law 298 = .ok (.i2l, 1) := by decide +kernel
theorem dL_law_299 : decode cL_law 299 = .ok (.lcmp, 1) := by decide +kernel
theorem dL_law_300 : decode cL_law 300 = .ok (.ifCond .eq 5, 3) := by decide +kernel
theorem dL_law_303 : decode cL_law 303 = .ok (.iconst 0, 1) := by decide +kernel
theorem dL_law_304 : decode cL_law 304 = .ok (.ireturn, 1) := by decide +kernel
theorem dL_law_305 : decode cL_law 305 = .ok (.goto 353, 3) := by decide +kernel
theorem dL_law_308 : decode cL_law 308 = .ok (.aload_n 1, 1) := by decide +kernel
theorem dL_law_309 : decode cL_law 309 = .ok (.aload_n 0, 1) := by decide +kernel
theorem dL_law_310 : decode cL_law 310 = .ok (.iload 4, 2) := by decide +kernel
theorem dL_law_312 : decode cL_law 312 = .ok (.iconst 1, 1) := by decide +kernel
theorem dL_law_313 : decode cL_law 313 = .ok (.iadd, 1) := by decide +kernel
theorem dL_law_314 : decode cL_law 314 = .ok (.iaload, 1) := by decide +kernel
theorem dL_law_315 : decode cL_law 315 = .ok (.invokestatic 74, 3) := by decide +kernel
theorem dL_law_318 : decode cL_law 318 = .ok (.istore 5, 2) := by decide +kernel
theorem dL_law_320 : decode cL_law 320 = .ok (.aload_n 2, 1) := by decide +kernel
theorem dL_law_321 : decode cL_law 321 = .ok (.aload_n 0, 1) := by decide +kernel
theorem dL_law_322 : decode cL_law 322 = .ok (.iload 4, 2) := by decide +kernel
theorem dL_law_324 : decode cL_law 324 = .ok (.iconst 1, 1) := by decide +kernel
theorem dL_law_325 : decode cL_law 325 = .ok (.iadd, 1) := by decide +kernel
theorem dL_law_326 : decode cL_law 326 = .ok (.iaload, 1) := by decide +kernel
theorem dL_law_327 : decode cL_law 327 = .ok (.invokevirtual 77, 3) := by decide +kernel
theorem dL_law_330 : decode cL_law 330 = .ok (.aload_n 2, 1) := by decide +kernel
theorem dL_law_331 : decode cL_law 331 = .ok (.invokevirtual 60, 3) := by decide +kernel
theorem dL_law_334 : decode cL_law 334 = .ok (.iload 5, 2) := by decide +kernel
theorem dL_law_336 : decode cL_law 336 = .ok (.if_icmp .eq 5, 3) := by decide +kernel
theorem dL_law_339 : decode cL_law 339 = .ok (.iconst 0, 1) := by decide +kernel
theorem dL_law_340 : decode cL_law 340 = .ok (.ireturn, 1) := by decide +kernel
theorem dL_law_341 : decode cL_law 341 = .ok (.goto 317, 3) := by decide +kernel
theorem dL_law_344 : decode cL_law 344 = .ok (.aload_n 1, 1) := by decide +kernel
theorem dL_law_345 : decode cL_law 345 = .ok (.aload_n 0, 1) := by decide +kernel
theorem dL_law_346 : decode cL_law 346 = .ok (.iload 4, 2) := by decide +kernel
theorem dL_law_348 : decode cL_law 348 = .ok (.iconst 1, 1) := by decide +kernel
theorem dL_law_349 : decode cL_law 349 = .ok (.iadd, 1) := by decide +kernel
theorem dL_law_350 : decode cL_law 350 = .ok (.iaload, 1) := by decide +kernel
theorem dL_law_351 : decode cL_law 351 = .ok (.aload_n 3, 1) := by decide +kernel
theorem dL_law_352 : decode cL_law 352 = .ok (.invokestatic 78, 3) := by decide +kernel
theorem dL_law_355 : decode cL_law 355 = .ok (.istore 5, 2) := by decide +kernel
theorem dL_law_357 : decode cL_law 357 = .ok (.aload_n 2, 1) := by decide +kernel
theorem dL_law_358 : decode cL_law 358 = .ok (.aload_n 0, 1) := by decide +kernel
theorem dL_law_359 : decode cL_law 359 = .ok (.iload 4, 2) := by decide +kernel
theorem dL_law_361 : decode cL_law 361 = .ok (.iconst 1, 1) := by decide +kernel
theorem dL_law_362 : decode cL_law 362 = .ok (.iadd, 1) := by decide +kernel
theorem dL_law_363 : decode cL_law 363 = .ok (.iaload, 1) := by decide +kernel
theorem dL_law_364 : decode cL_law 364 = .ok (.invokevirtual 80, 3) := by decide +kernel
theorem dL_law_367 : decode cL_law 367 = .ok (.istore 6, 2) := by decide +kernel
theorem dL_law_369 : decode cL_law 369 = .ok (.aload_n 2, 1) := by decide +kernel
theorem dL_law_370 : decode cL_law 370 = .ok (.invokevirtual 60, 3) := by decide +kernel
theorem dL_law_373 : decode cL_law 373 = .ok (.iload 5, 2) := by decide +kernel
theorem dL_law_375 : decode cL_law 375 = .ok (.if_icmp .eq 5, 3) := by decide +kernel
theorem dL_law_378 : decode cL_law 378 = .ok (.iconst 0, 1) := by decide +kernel
theorem dL_law_379 : decode cL_law 379 = .ok (.ireturn, 1) := by decide +kernel
theorem dL_law_380 : decode cL_law 380 = .ok (.iload 5, 2) := by decide +kernel
theorem dL_law_382 : decode cL_law 382 = .ok (.ifCond .ne 15, 3) := by decide +kernel
theorem dL_law_385 : decode cL_law 385 = .ok (.aload_n 3, 1) := by decide +kernel
theorem dL_law_386 : decode cL_law 386 = .ok (.iconst 0, 1) := by decide +kernel
theorem dL_law_387 : decode cL_law 387 = .ok (.laload, 1) := by decide +kernel
theorem dL_law_388 : decode cL_law 388 = .ok (.iload 6, 2) := by decide +kernel
theorem dL_law_390 : decode cL_law 390 = .ok (.i2l, 1) := by decide +kernel
theorem dL_law_391 : decode cL_law 391 = .ok (.lcmp, 1) := by decide +kernel
theorem dL_law_392 : decode cL_law 392 = .ok (.ifCond .eq 5, 3) := by decide +kernel
theorem dL_law_395 : decode cL_law 395 = .ok (.iconst 0, 1) := by decide +kernel
theorem dL_law_396 : decode cL_law 396 = .ok (.ireturn, 1) := by decide +kernel
theorem dL_law_397 : decode cL_law 397 = .ok (.goto 261, 3) := by decide +kernel
theorem dL_law_400 : decode cL_law 400 = .ok (.aload_n 1, 1) := by decide +kernel
theorem dL_law_401 : decode cL_law 401 = .ok (.aload_n 0, 1) := by decide +kernel
theorem dL_law_402 : decode cL_law 402 = .ok (.iload 4, 2) := by decide +kernel
theorem dL_law_404 : decode cL_law 404 = .ok (.iconst 1, 1) := by decide +kernel
theorem dL_law_405 : decode cL_law 405 = .ok (.iadd, 1) := by decide +kernel
theorem dL_law_406 : decode cL_law 406 = .ok (.iaload, 1) := by decide +kernel
theorem dL_law_407 : decode cL_law 407 = .ok (.invokestatic 81, 3) := by decide +kernel
theorem dL_law_410 : decode cL_law 410 = .ok (.istore 5, 2) := by decide +kernel
theorem dL_law_412 : decode cL_law 412 = .ok (.aload_n 2, 1) := by decide +kernel
theorem dL_law_413 : decode cL_law 413 = .ok (.aload_n 0, 1) := by decide +kernel
theorem dL_law_414 : decode cL_law 414 = .ok (.iload 4, 2) := by decide +kernel
theorem dL_law_416 : decode cL_law 416 = .ok (.iconst 1, 1) := by decide +kernel
theorem dL_law_417 : decode cL_law 417 = .ok (.iadd, 1) := by decide +kernel
theorem dL_law_418 : decode cL_law 418 = .ok (.iaload, 1) := by decide +kernel
theorem dL_law_419 : decode cL_law 419 = .ok (.invokevirtual 83, 3) := by decide +kernel
theorem dL_law_422 : decode cL_law 422 = .ok (.aload_n 2, 1) := by decide +kernel
theorem dL_law_423 : decode cL_law 423 = .ok (.invokevirtual 60, 3) := by decide +kernel
theorem dL_law_426 : decode cL_law 426 = .ok (.iload 5, 2) := by decide +kernel
theorem dL_law_428 : decode cL_law 428 = .ok (.if_icmp .eq 5, 3) := by decide +kernel
theorem dL_law_431 : decode cL_law 431 = .ok (.iconst 0, 1) := by decide +kernel
theorem dL_law_432 : decode cL_law 432 = .ok (.ireturn, 1) := by decide +kernel
theorem dL_law_433 : decode cL_law 433 = .ok (.goto 225, 3) := by decide +kernel
theorem dL_law_436 : decode cL_law 436 = .ok (.aload_n 1, 1) := by decide +kernel
theorem dL_law_437 : decode cL_law 437 = .ok (.aload_n 0, 1) := by decide +kernel
theorem dL_law_438 : decode cL_law 438 = .ok (.iload 4, 2) := by decide +kernel
theorem dL_law_440 : decode cL_law 440 = .ok (.iconst 1, 1) := by decide +kernel
theorem dL_law_441 : decode cL_law 441 = .ok (.iadd, 1) := by decide +kernel
theorem dL_law_442 : decode cL_law 442 = .ok (.iaload, 1) := by decide +kernel
theorem dL_law_443 : decode cL_law 443 = .ok (.aload_n 3, 1) := by decide +kernel
theorem dL_law_444 : decode cL_law 444 = .ok (.invokestatic 84, 3) := by decide +kernel
theorem dL_law_447 : decode cL_law 447 = .ok (.istore 5, 2) := by decide +kernel
theorem dL_law_449 : decode cL_law 449 = .ok (.aload_n 2, 1) := by decide +kernel
theorem dL_law_450 : decode cL_law 450 = .ok (.aload_n 0, 1) := by decide +kernel
theorem dL_law_451 : decode cL_law 451 = .ok (.iload 4, 2) := by decide +kernel
theorem dL_law_453 : decode cL_law 453 = .ok (.iconst 1, 1) := by decide +kernel
theorem dL_law_454 : decode cL_law 454 = .ok (.iadd, 1) := by decide +kernel
theorem dL_law_455 : decode cL_law 455 = .ok (.iaload, 1) := by decide +kernel
theorem dL_law_456 : decode cL_law 456 = .ok (.invokevirtual 86, 3) := by decide +kernel
theorem dL_law_459 : decode cL_law 459 = .ok (.istore 6, 2) := by decide +kernel
theorem dL_law_461 : decode cL_law 461 = .ok (.aload_n 2, 1) := by decide +kernel
theorem dL_law_462 : decode cL_law 462 = .ok (.invokevirtual 60, 3) := by decide +kernel
theorem dL_law_465 : decode cL_law 465 = .ok (.iload 5, 2) := by decide +kernel
theorem dL_law_467 : decode cL_law 467 = .ok (.if_icmp .eq 5, 3) := by decide +kernel
theorem dL_law_470 : decode cL_law 470 = .ok (.iconst 0, 1) := by decide +kernel
theorem dL_law_471 : decode cL_law 471 = .ok (.ireturn, 1) := by decide +kernel
theorem dL_law_472 : decode cL_law 472 = .ok (.iload 5, 2) := by decide +kernel
theorem dL_law_474 : decode cL_law 474 = .ok (.ifCond .ne 15, 3) := by decide +kernel
theorem dL_law_477 : decode cL_law 477 = .ok (.aload_n 3, 1) := by decide +kernel
theorem dL_law_478 : decode cL_law 478 = .ok (.iconst 0, 1) := by decide +kernel
theorem dL_law_479 : decode cL_law 479 = .ok (.laload, 1) := by decide +kernel
theorem dL_law_480 : decode cL_law 480 = .ok (.iload 6, 2) := by decide +kernel
theorem dL_law_482 : decode cL_law 482 = .ok (.i2l, 1) := by decide +kernel
theorem dL_law_483 : decode cL_law 483 = .ok (.lcmp, 1) := by decide +kernel
theorem dL_law_484 : decode cL_law 484 = .ok (.ifCond .eq 5, 3) := by decide +kernel
theorem dL_law_487 : decode cL_law 487 = .ok (.iconst 0, 1) := by decide +kernel
theorem dL_law_488 : decode cL_law 488 = .ok (.ireturn, 1) := by decide +kernel
theorem dL_law_489 : decode cL_law 489 = .ok (.goto 169, 3) := by decide +kernel
theorem dL_law_492 : decode cL_law 492 = .ok (.aload_n 1, 1) := by decide +kernel
theorem dL_law_493 : decode cL_law 493 = .ok (.aload_n 0, 1) := by decide +kernel
theorem dL_law_494 : decode cL_law 494 = .ok (.iload 4, 2) := by decide +kernel
theorem dL_law_496 : decode cL_law 496 = .ok (.iconst 1, 1) := by decide +kernel
theorem dL_law_497 : decode cL_law 497 = .ok (.iadd, 1) := by decide +kernel
theorem dL_law_498 : decode cL_law 498 = .ok (.iaload, 1) := by decide +kernel
theorem dL_law_499 : decode cL_law 499 = .ok (.aload_n 0, 1) := by decide +kernel
theorem dL_law_500 : decode cL_law 500 = .ok (.iload 4, 2) := by decide +kernel
theorem dL_law_502 : decode cL_law 502 = .ok (.iconst 2, 1) := by decide +kernel
theorem dL_law_503 : decode cL_law 503 = .ok (.iadd, 1) := by decide +kernel
theorem dL_law_504 : decode cL_law 504 = .ok (.iaload, 1) := by decide +kernel
theorem dL_law_505 : decode cL_law 505 = .ok (.aload_n 0, 1) := by decide +kernel
theorem dL_law_506 : decode cL_law 506 = .ok (.iload 4, 2) := by decide +kernel
theorem dL_law_508 : decode cL_law 508 = .ok (.iconst 3, 1) := by decide +kernel
theorem dL_law_509 : decode cL_law 509 = .ok (.iadd, 1) := by decide +kernel
theorem dL_law_510 : decode cL_law 510 = .ok (.iaload, 1) := by decide +kernel
theorem dL_law_511 : decode cL_law 511 = .ok (.invokestatic 87, 3) := by decide +kernel
theorem dL_law_514 : decode cL_law 514 = .ok (.istore 5, 2) := by decide +kernel
theorem dL_law_516 : decode cL_law 516 = .ok (.aload_n 2, 1) := by decide +kernel
theorem dL_law_517 : decode cL_law 517 = .ok (.aload_n 0, 1) := by decide +kernel
theorem dL_law_518 : decode cL_law 518 = .ok (.iload 4, 2) := by decide +kernel
theorem dL_law_520 : decode cL_law 520 = .ok (.iconst 1, 1) := by decide +kernel
theorem dL_law_521 : decode cL_law 521 = .ok (.iadd, 1) := by decide +kernel
theorem dL_law_522 : decode cL_law 522 = .ok (.iaload, 1) := by decide +kernel
theorem dL_law_523 : decode cL_law 523 = .ok (.aload_n 0, 1) := by decide +kernel
theorem dL_law_524 : decode cL_law 524 = .ok (.iload 4, 2) := by decide +kernel
theorem dL_law_526 : decode cL_law 526 = .ok (.iconst 2, 1) := by decide +kernel
theorem dL_law_527 : decode cL_law 527 = .ok (.iadd, 1) := by decide +kernel
theorem dL_law_528 : decode cL_law 528 = .ok (.iaload, 1) := by decide +kernel
theorem dL_law_529 : decode cL_law 529 = .ok (.aload_n 0, 1) := by decide +kernel
theorem dL_law_530 : decode cL_law 530 = .ok (.iload 4, 2) := by decide +kernel
theorem dL_law_532 : decode cL_law 532 = .ok (.iconst 3, 1) := by decide +kernel
theorem dL_law_533 : decode cL_law 533 = .ok (.iadd, 1) := by decide +kernel
theorem dL_law_534 : decode cL_law 534 = .ok (.iaload, 1) := by decide +kernel
theorem dL_law_535 : decode cL_law 535 = .ok (.invokevirtual 90, 3) := by decide +kernel
theorem dL_law_538 : decode cL_law 538 = .ok (.aload_n 2, 1) := by decide +kernel
theorem dL_law_539 : decode cL_law 539 = .ok (.invokevirtual 60, 3) := by decide +kernel
theorem dL_law_542 : decode cL_law 542 = .ok (.iload 5, 2) := by decide +kernel
theorem dL_law_544 : decode cL_law 544 = .ok (.if_icmp .eq 5, 3) := by decide +kernel
theorem dL_law_547 : decode cL_law 547 = .ok (.iconst 0, 1) := by decide +kernel
theorem dL_law_548 : decode cL_law 548 = .ok (.ireturn, 1) := by decide +kernel
theorem dL_law_549 : decode cL_law 549 = .ok (.goto 109, 3) := by decide +kernel
theorem dL_law_552 : decode cL_law 552 = .ok (.aload_n 1, 1) := by decide +kernel
theorem dL_law_553 : decode cL_law 553 = .ok (.aload_n 0, 1) := by decide +kernel
theorem dL_law_554 : decode cL_law 554 = .ok (.iload 4, 2) := by decide +kernel
theorem dL_law_556 : decode cL_law 556 = .ok (.iconst 1, 1) := by decide +kernel
theorem dL_law_557 : decode cL_law 557 = .ok (.iadd, 1) := by decide +kernel
theorem dL_law_558 : decode cL_law 558 = .ok (.iaload, 1) := by decide +kernel
theorem dL_law_559 : decode cL_law 559 = .ok (.aload_n 0, 1) := by decide +kernel
theorem dL_law_560 : decode cL_law 560 = .ok (.iload 4, 2) := by decide +kernel
theorem dL_law_562 : decode cL_law 562 = .ok (.iconst 2, 1) := by decide +kernel
theorem dL_law_563 : decode cL_law 563 = .ok (.iadd, 1) := by decide +kernel
theorem dL_law_564 : decode cL_law 564 = .ok (.iaload, 1) := by decide +kernel
theorem dL_law_565 : decode cL_law 565 = .ok (.aload_n 3, 1) := by decide +kernel
theorem dL_law_566 : decode cL_law 566 = .ok (.invokestatic 91, 3) := by decide +kernel
theorem dL_law_569 : decode cL_law 569 = .ok (.istore 5, 2) := by decide +kernel
theorem dL_law_571 : decode cL_law 571 = .ok (.aload_n 2, 1) := by decide +kernel
theorem dL_law_572 : decode cL_law 572 = .ok (.aload_n 0, 1) := by decide +kernel
theorem dL_law_573 : decode cL_law 573 = .ok (.iload 4, 2) := by decide +kernel
theorem dL_law_575 : decode cL_law 575 = .ok (.iconst 1, 1) := by decide +kernel
theorem dL_law_576 : decode cL_law 576 = .ok (.iadd, 1) := by decide +kernel
theorem dL_law_577 : decode cL_law 577 = .ok (.iaload, 1) := by decide +kernel
theorem dL_law_578 : decode cL_law 578 = .ok (.aload_n 0, 1) := by decide +kernel
theorem dL_law_579 : decode cL_law 579 = .ok (.iload 4, 2) := by decide +kernel
theorem dL_law_581 : decode cL_law 581 = .ok (.iconst 2, 1) := by decide +kernel
theorem dL_law_582 : decode cL_law 582 = .ok (.iadd, 1) := by decide +kernel
theorem dL_law_583 : decode cL_law 583 = .ok (.iaload, 1) := by decide +kernel
theorem dL_law_584 : decode cL_law 584 = .ok (.invokevirtual 94, 3) := by decide +kernel
theorem dL_law_587 : decode cL_law 587 = .ok (.istore 6, 2) := by decide +kernel
theorem dL_law_589 : decode cL_law 589 = .ok (.aload_n 2, 1) := by decide +kernel
theorem dL_law_590 : decode cL_law 590 = .ok (.invokevirtual 60, 3) := by decide +kernel
theorem dL_law_593 : decode cL_law 593 = .ok (.iload 5, 2) := by decide +kernel
theorem dL_law_595 : decode cL_law 595 = .ok (.if_icmp .eq 5, 3) := by decide +kernel
theorem dL_law_598 : decode cL_law 598 = .ok (.iconst 0, 1) := by decide +kernel
theorem dL_law_599 : decode cL_law 599 = .ok (.ireturn, 1) := by decide +kernel
theorem dL_law_600 : decode cL_law 600 = .ok (.iload 5, 2) := by decide +kernel
theorem dL_law_602 : decode cL_law 602 = .ok (.ifCond .ne 15, 3) := by decide +kernel
theorem dL_law_605 : decode cL_law 605 = .ok (.aload_n 3, 1) := by decide +kernel
theorem dL_law_606 : decode cL_law 606 = .ok (.iconst 0, 1) := by decide +kernel
theorem dL_law_607 : decode cL_law 607 = .ok (.laload, 1) := by decide +kernel
theorem dL_law_608 : decode cL_law 608 = .ok (.iload 6, 2) := by decide +kernel
theorem dL_law_610 : decode cL_law 610 = .ok (.i2l, 1) := by decide +kernel
theorem dL_law_611 : decode cL_law 611 = .ok (.lcmp, 1) := by decide +kernel
theorem dL_law_612 : decode cL_law 612 = .ok (.ifCond .eq 5, 3) := by decide +kernel
theorem dL_law_615 : decode cL_law 615 = .ok (.iconst 0, 1) := by decide +kernel
theorem dL_law_616 : decode cL_law 616 = .ok (.ireturn, 1) := by decide +kernel
theorem dL_law_617 : decode cL_law 617 = .ok (.goto 41, 3) := by decide +kernel
theorem dL_law_620 : decode cL_law 620 = .ok (.aload_n 1, 1) := by decide +kernel
theorem dL_law_621 : decode cL_law 621 = .ok (.aload_n 0, 1) := by decide +kernel
theorem dL_law_622 : decode cL_law 622 = .ok (.iload 4, 2) := by decide +kernel
theorem dL_law_624 : decode cL_law 624 = .ok (.iconst 1, 1) := by decide +kernel
theorem dL_law_625 : decode cL_law 625 = .ok (.iadd, 1) := by decide +kernel
theorem dL_law_626 : decode cL_law 626 = .ok (.iaload, 1) := by decide +kernel
theorem dL_law_627 : decode cL_law 627 = .ok (.invokevirtual 95, 3) := by decide +kernel
theorem dL_law_630 : decode cL_law 630 = .ok (.aload_n 2, 1) := by decide +kernel
theorem dL_law_631 : decode cL_law 631 = .ok (.aload_n 0, 1) := by decide +kernel
theorem dL_law_632 : decode cL_law 632 = .ok (.iload 4, 2) := by decide +kernel
theorem dL_law_634 : decode cL_law 634 = .ok (.iconst 1, 1) := by decide +kernel
theorem dL_law_635 : decode cL_law 635 = .ok (.iadd, 1) := by decide +kernel
theorem dL_law_636 : decode cL_law 636 = .ok (.iaload, 1) := by decide +kernel
theorem dL_law_637 : decode cL_law 637 = .ok (.invokevirtual 98, 3) := by decide +kernel
theorem dL_law_640 : decode cL_law 640 = .ok (.if_icmp .eq 18, 3) := by decide +kernel
theorem dL_law_643 : decode cL_law 643 = .ok (.iconst 0, 1) := by decide +kernel
theorem dL_law_644 : decode cL_law 644 = .ok (.ireturn, 1) := by decide +kernel
theorem dL_law_645 : decode cL_law 645 = .ok (.aload_n 1, 1) := by decide +kernel
theorem dL_law_646 : decode cL_law 646 = .ok (.invokevirtual 99, 3) := by decide +kernel
theorem dL_law_649 : decode cL_law 649 = .ok (.aload_n 2, 1) := by decide +kernel
theorem dL_law_650 : decode cL_law 650 = .ok (.invokevirtual 102, 3) := by decide +kernel
theorem dL_law_653 : decode cL_law 653 = .ok (.if_icmp .eq 5, 3) := by decide +kernel
theorem dL_law_656 : decode cL_law 656 = .ok (.iconst 0, 1) := by decide +kernel
theorem dL_law_657 : decode cL_law 657 = .ok (.ireturn, 1) := by decide +kernel
theorem dL_law_658 : decode cL_law 658 = .ok (.iinc 4 4, 3) := by decide +kernel
theorem dL_law_661 : decode cL_law 661 = .ok (.goto (-638), 3) := by decide +kernel
theorem dL_law_664 : decode cL_law 664 = .ok (.iconst 1, 1) := by decide +kernel
theorem dL_law_665 : decode cL_law 665 = .ok (.ireturn, 1) := by decide +kernel
abbrev vwCl : List vw_C := [(RX0, TX0, 6), (RX1, TX1, 10), (RX2, TX2, 3), (RX4, TX4, 3), (RX5, TX5, 7), (RX6, TX6, 9), (RX7, TX7, 2), (RX8, TX8, 2), (RX9, TX9, 28)]
theorem gL_run_X8_run : GoodIn wsL_run (wsV RL 29 RX8 yX8_run wsX8_run) := goodIn_app (goodIn_of _ (by decide +kernel)) (goodIn_ca (a := []) (goodIn_r _ [7] (by decide +kernel) (by decide +kernel)) (goodIn_sub (fun _ h => List.mem_cons_of_mem _ (List.mem_append_right _ h)) (by decide +kernel)))
theorem lwx_I : ∀ w ∈ (vx_at0 RX8 34 "java/lang/IllegalArgumentException" ["java/lang/RuntimeException", "java/lang/Exception"]).filter goodWord, w ∈ lw_tbl := by decide +kernel
theorem lwx_S : ∀ w ∈ (vx_at0 RX8 72 "java/lang/IllegalStateException" ["java/lang/RuntimeException", "java/lang/Exception"]).filter goodWord, w ∈ lw_tbl := by decide +kernel
theorem lwx_B : ∀ w ∈ (vx_at0 RX8 102 "java/lang/IndexOutOfBoundsException" ["java/lang/RuntimeException", "java/lang/Exception"]).filter goodWord, w ∈ lw_tbl := by decide +kernel
theorem inX0 : ∀ w ∈ wsX00, w ∈ lw_tbl := by decide +kernel
theorem inX1 : ∀ w ∈ wsX10, w ∈ lw_tbl := by decide +kernel
theorem inX2 : ∀ w ∈ wsX20, w ∈ lw_tbl := by decide +kernel
theorem inX4 : ∀ w ∈ wsX40, w ∈ lw_tbl := by decide +kernel
theorem inX5 : ∀ w ∈ wsX50, w ∈ lw_tbl := by decide +kernel
theorem inX6 : ∀ w ∈ wsX60, w ∈ lw_tbl := by decide +kernel
theorem inX7 : ∀ w ∈ wsX70, w ∈ lw_tbl := by decide +kernel
theorem inX8 : ∀ w ∈ wsX80, w ∈ lw_tbl := by decide +kernel
theorem inX9 : ∀ w ∈ wsX90, w ∈ lw_tbl := by decide +kernel
set_option maxRecDepth 20000 in
theorem ggL_law_X8_init : GoodIn lw_tbl wsX8_init := goodIn_p _ [106, 109, 114, 120, 140, 158, 161, 196, 223, 292] rfl (by decide +kernel)
set_option maxRecDepth 20000 in
theorem ggL_law_X9_init : GoodIn lw_tbl wsX9_init := goodIn_p _ [813, 109] rfl (by decide +kernel)
set_option maxRecDepth 20000 in
theorem ggL_law_L_deposit : GoodIn lw_tbl wsL_deposit := goodIn_ca (goodIn_p _ [356, 359, 362] rfl (by decide +kernel)) (goodIn_sub lwx_I (by decide +kernel))
set_option maxRecDepth 20000 in
theorem ggL_law_X9_deposit : GoodIn lw_tbl wsX9_deposit := goodIn_p _ [908, 911, 914] rfl (by decide +kernel)
set_option maxRecDepth 20000 in
theorem ggL_law_X9_thrown : GoodIn lw_tbl wsX9_thrown := goodIn_p _ [904] rfl (by decide +kernel)
set_option maxRecDepth 20000 in
theorem ggL_law_L_examine : GoodIn lw_tbl wsL_examine := goodIn_ca (goodIn_p _ [434, 359] rfl (by decide +kernel)) (goodIn_sub lwx_I (by decide +kernel))
set_option maxRecDepth 20000 in
theorem ggL_law_X9_examine : GoodIn lw_tbl wsX9_examine := goodIn_p _ [919, 911, 923] rfl (by decide +kernel)
set_option maxRecDepth 20000 in
theorem ggL_law_L_set : GoodIn lw_tbl wsL_set := goodIn_ca (goodIn_p _ [441, 362, 445] rfl (by decide +kernel)) (goodIn_sub lwx_I (by decide +kernel))
set_option maxRecDepth 20000 in
theorem ggL_law_X9_set : GoodIn lw_tbl wsX9_set := goodIn_p _ [927, 930, 914] rfl (by decide +kernel)
set_option maxRecDepth 20000 in
theorem ggL_law_L_register : GoodIn lw_tbl wsL_register := goodIn_ca (goodIn_p _ [452] rfl (by decide +kernel)) (goodIn_sub lwx_I (by decide +kernel))
set_option maxRecDepth 20000 in
theorem ggL_law_X9_register : GoodIn lw_tbl wsX9_register := goodIn_p _ [934, 930, 923] rfl (by decide +kernel)
set_option maxRecDepth 20000 in
theorem ggL_law_L_start : GoodIn lw_tbl wsL_start := goodIn_ca (goodIn_p _ [459, 362, 463] rfl (by decide +kernel)) (goodIn_sub lwx_I (by decide +kernel))
set_option maxRecDepth 20000 in
theorem ggL_law_X9_start : GoodIn lw_tbl wsX9_start := goodIn_p _ [938, 914, 942] rfl (by decide +kernel)
set_option maxRecDepth 20000 in
theorem ggL_law_L_key : GoodIn lw_tbl wsL_key := goodIn_ca (goodIn_p _ [763, 767, 541] rfl (by decide +kernel)) (goodIn_sub lwx_I (by decide +kernel))
set_option maxRecDepth 20000 in
theorem ggL_law_X9_key : GoodIn lw_tbl wsX9_key := goodIn_p _ [1140, 930] rfl (by decide +kernel)
set_option maxRecDepth 20000 in
theorem ggL_law_L_printed : GoodIn lw_tbl wsL_printed := goodIn_ca (goodIn_p _ [776] rfl (by decide +kernel)) (goodIn_sub lwx_B (by decide +kernel))
set_option maxRecDepth 20000 in
theorem ggL_law_X9_printed : GoodIn lw_tbl wsX9_printed := goodIn_p _ [1144] rfl (by decide +kernel)
set_option maxRecDepth 20000 in
theorem ggL_law_L_load : GoodIn lw_tbl wsL_load := goodIn_ca (goodIn_p _ [798, 801, 362] rfl (by decide +kernel)) (goodIn_sub lwx_I (by decide +kernel))
set_option maxRecDepth 20000 in
theorem ggL_law_X9_load : GoodIn lw_tbl wsX9_load := goodIn_p _ [1148, 930, 914] rfl (by decide +kernel)
set_option maxRecDepth 20000 in
theorem ggL_law_L_disk : GoodIn lw_tbl wsL_disk := goodIn_ca (goodIn_p _ [808, 801] rfl (by decide +kernel)) (goodIn_sub lwx_I (by decide +kernel))
set_option maxRecDepth 20000 in
theorem ggL_law_X9_disk : GoodIn lw_tbl wsX9_disk := goodIn_p _ [1152, 930, 923] rfl (by decide +kernel)
set_option maxRecDepth 20000 in
theorem ggL_law_X8_device : GoodIn lw_tbl wsX8_device := goodIn_p _ [336, 341] rfl (by decide +kernel)
set_option maxRecDepth 20000 in
theorem ggL_law_X9_device : GoodIn lw_tbl wsX9_device := goodIn_p _ [1156, 970, 975, 978] rfl (by decide +kernel)
set_option maxRecDepth 20000 in
theorem ggL_law_X8_state : GoodIn lw_tbl wsX8_state := goodIn_p _ [348] rfl (by decide +kernel)
set_option maxRecDepth 20000 in
theorem ggL_law_X9_state : GoodIn lw_tbl wsX9_state := goodIn_p _ [1160] rfl (by decide +kernel)
set_option maxRecDepth 20000 in
theorem gL_law_X8_init : GoodIn lw_tbl (wsX8_init) := ggL_law_X8_init
set_option maxRecDepth 20000 in
theorem gL_law_X9_init : GoodIn lw_tbl (wsX9_init) := ggL_law_X9_init
set_option maxRecDepth 20000 in
theorem gL_law_L_deposit : GoodIn lw_tbl (va_wsS RL 54 yL_deposit wsL_deposit) := goodIn_app (goodIn_of _ (by decide +kernel)) ggL_law_L_deposit
set_option maxRecDepth 20000 in
theorem gL_law_X9_deposit : GoodIn lw_tbl (wsV RL 59 RX9 yX9_deposit wsX9_deposit) := goodIn_app (goodIn_of _ (by decide +kernel)) ggL_law_X9_deposit
set_option maxRecDepth 20000 in
theorem gL_law_X9_thrown : GoodIn lw_tbl (wsV RL 60 RX9 yX9_thrown wsX9_thrown) := goodIn_app (goodIn_of _ (by decide +kernel)) ggL_law_X9_thrown
set_option maxRecDepth 20000 in
theorem gL_law_L_examine : GoodIn lw_tbl (va_wsS RL 64 yL_examine wsL_examine) := goodIn_app (goodIn_of _ (by decide +kernel)) ggL_law_L_examine
set_option maxRecDepth 20000 in
theorem gL_law_X9_examine : GoodIn lw_tbl (wsV RL 67 RX9 yX9_examine wsX9_examine) := goodIn_app (goodIn_of _ (by decide +kernel)) ggL_law_X9_examine
set_option maxRecDepth 20000 in
theorem gL_law_L_set : GoodIn lw_tbl (va_wsS RL 68 yL_set wsL_set) := goodIn_app (goodIn_of _ (by decide +kernel)) ggL_law_L_set
set_option maxRecDepth 20000 in
theorem gL_law_X9_set : GoodIn lw_tbl (wsV RL 70 RX9 yX9_set wsX9_set) := goodIn_app (goodIn_of _ (by decide +kernel)) ggL_law_X9_set
set_option maxRecDepth 20000 in
theorem gL_law_L_register : GoodIn lw_tbl (va_wsS RL 71 yL_register wsL_register) := goodIn_app (goodIn_of _ (by decide +kernel)) ggL_law_L_register
set_option maxRecDepth 20000 in
theorem gL_law_X9_register : GoodIn lw_tbl (wsV RL 73 RX9 yX9_register wsX9_register) := goodIn_app (goodIn_of _ (by decide +kernel)) ggL_law_X9_register
set_option maxRecDepth 20000 in
theorem gL_law_L_start : GoodIn lw_tbl (va_wsS RL 74 yL_start wsL_start) := goodIn_app (goodIn_of _ (by decide +kernel)) ggL_law_L_start
set_option maxRecDepth 20000 in
theorem gL_law_X9_start : GoodIn lw_tbl (wsV RL 77 RX9 yX9_start wsX9_start) := goodIn_app (goodIn_of _ (by decide +kernel)) ggL_law_X9_start
set_option maxRecDepth 20000 in
theorem gL_law_L_key : GoodIn lw_tbl (va_wsS RL 81 yL_key wsL_key) := goodIn_app (goodIn_of _ (by decide +kernel)) ggL_law_L_key
set_option maxRecDepth 20000 in
theorem gL_law_X9_key : GoodIn lw_tbl (wsV RL 83 RX9 yX9_key wsX9_key) := goodIn_app (goodIn_of _ (by decide +kernel)) ggL_law_X9_key
set_option maxRecDepth 20000 in
theorem gL_law_L_printed : GoodIn lw_tbl (va_wsS RL 84 yL_printed wsL_printed) := goodIn_app (goodIn_of _ (by decide +kernel)) ggL_law_L_printed
set_option maxRecDepth 20000 in
theorem gL_law_X9_printed : GoodIn lw_tbl (wsV RL 86 RX9 yX9_printed wsX9_printed) := goodIn_app (goodIn_of _ (by decide +kernel)) ggL_law_X9_printed
set_option maxRecDepth 20000 in
theorem gL_law_L_load : GoodIn lw_tbl (va_wsS RL 87 yL_load wsL_load) := goodIn_app (goodIn_of _ (by decide +kernel)) ggL_law_L_load
set_option maxRecDepth 20000 in
theorem gL_law_X9_load : GoodIn lw_tbl (wsV RL 90 RX9 yX9_load wsX9_load) := goodIn_app (goodIn_of _ (by decide +kernel)) ggL_law_X9_load
set_option maxRecDepth 20000 in
theorem gL_law_L_disk : GoodIn lw_tbl (va_wsS RL 91 yL_disk wsL_disk) := goodIn_app (goodIn_of _ (by decide +kernel)) ggL_law_L_disk
set_option maxRecDepth 20000 in
theorem gL_law_X9_disk : GoodIn lw_tbl (wsV RL 94 RX9 yX9_disk wsX9_disk) := goodIn_app (goodIn_of _ (by decide +kernel)) ggL_law_X9_disk
set_option maxRecDepth 20000 in
theorem gL_law_X8_device : GoodIn lw_tbl (wsV RL 95 RX8 yX8_device wsX8_device) := goodIn_app (goodIn_of _ (by decide +kernel)) ggL_law_X8_device
set_option maxRecDepth 20000 in
theorem gL_law_X9_device : GoodIn lw_tbl (wsV RL 98 RX9 yX9_device wsX9_device) := goodIn_app (goodIn_of _ (by decide +kernel)) ggL_law_X9_device
set_option maxRecDepth 20000 in
theorem gL_law_X8_state : GoodIn lw_tbl (wsV RL 99 RX8 yX8_state wsX8_state) := goodIn_app (goodIn_of _ (by decide +kernel)) ggL_law_X8_state
set_option maxRecDepth 20000 in
theorem gL_law_X9_state : GoodIn lw_tbl (wsV RL 102 RX9 yX9_state wsX9_state) := goodIn_app (goodIn_of _ (by decide +kernel)) ggL_law_X9_state
set_option maxRecDepth 20000 in
theorem gL_law_L_run : GoodIn lw_tbl (va_wsS RL 78 yL_run wsL_run) := goodIn_app (goodIn_of _ (by decide +kernel)) (goodIn_ca (goodIn_p _ [471] rfl (by decide +kernel)) (goodIn_app (goodIn_app (goodIn_p _ [] rfl (by decide +kernel)) (goodIn_sub lwx_I (by decide +kernel))) (goodIn_sub lwx_S (by decide +kernel))))
set_option maxRecDepth 20000 in
theorem gL_law_X9_run : GoodIn lw_tbl (wsV RL 80 RX9 yX9_run wsX9_run) := goodIn_app (goodIn_of _ (by decide +kernel)) (goodIn_p _ [946] rfl (by decide +kernel))
