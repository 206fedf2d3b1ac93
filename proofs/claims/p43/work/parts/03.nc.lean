theorem inX6 : ∀ w ∈ wsX60, w ∈ lw_tbl := by decide +kernel
theorem inJx145de : ∀ w ∈ wsJx145de0, w ∈ lw_tbl := by decide +kernel
theorem inJx8e188 : ∀ w ∈ wsJx8e1880, w ∈ lw_tbl := by decide +kernel
theorem inJ9 : ∀ w ∈ wsJ90, w ∈ lw_tbl := by decide +kernel
theorem inJ0 : ∀ w ∈ wsJ00, w ∈ lw_tbl := by decide +kernel
theorem inJ10 : ∀ w ∈ wsJ100, w ∈ lw_tbl := by decide +kernel
theorem inJ7 : ∀ w ∈ wsJ70, w ∈ lw_tbl := by decide +kernel
set_option maxRecDepth 20000 in
theorem ggX0_init_X3_init : GoodIn wsX0_init wsX3_init := goodIn_r _ [13, 14, 2, 3, 15, 16, 17, 18, 19, 20, 21, 22, 23] (by decide +kernel) (by decide +kernel)
set_option maxRecDepth 20000 in
theorem gX0_init_X3_init_n11 : GoodIn wsX0_init (wsX3_init) := ggX0_init_X3_init
theorem dX0_init_0 : decode cX0_init 0 = .ok (.aload_n 0, 1) := by decide +kernel
theorem dX0_init_1 : decode cX0_init 1 = .ok (.invokespecial 3, 3) := by decide +kernel
theorem dX0_init_4 : decode cX0_init 4 = .ok (.aload_n 0, 1) := by decide +kernel
theorem dX0_init_5 : decode cX0_init 5 = .ok (.new 9, 3) := by decide +kernel
theorem dX0_init_8 : decode cX0_init 8 = .ok (.dup, 1) := by decide +kernel
theorem dX0_init_9 : decode cX0_init 9 = .ok (.invokespecial 11, 3) := by decide +kernel
theorem dX0_init_12 : decode cX0_init 12 = .ok (.putfield 12, 3) := by decide +kernel
theorem dX0_init_15 : decode cX0_init 15 = .ok (.aload_n 0, 1) := by decide +kernel
theorem dX0_init_16 : decode cX0_init 16 = .ok (.iconst 2, 1) := by decide +kernel
theorem dX0_init_17 : decode cX0_init 17 = .ok (.putfield 18, 3) := by decide +kernel
theorem dX0_init_20 : decode cX0_init 20 = .ok (.aload_n 0, 1) := by decide +kernel
theorem dX0_init_21 : decode cX0_init 21 = .ok (.iconst 0, 1) := by decide +kernel
theorem dX0_init_22 : decode cX0_init 22 = .ok (.putfield 22, 3) := by decide +kernel
theorem dX0_init_25 : decode cX0_init 25 = .ok (.aload_n 0, 1) := by decide +kernel
theorem dX0_init_26 : decode cX0_init 26 = .ok (.iconst 0, 1) := by decide +kernel
theorem dX0_init_27 : decode cX0_init 27 = .ok (.putfield 25, 3) := by decide +kernel
theorem dX0_init_30 : decode cX0_init 30 = .ok (.aload_n 0, 1) := by decide +kernel
theorem dX0_init_31 : decode cX0_init 31 = .ok (.iconst 0, 1) := by decide +kernel
theorem dX0_init_32 : decode cX0_init 32 = .ok (.putfield 28, 3) := by decide +kernel
theorem dX0_init_35 : decode cX0_init 35 = .ok (.return_, 1) := by decide +kernel
set_option maxRecDepth 20000 in
theorem ggX0_codeAll_X0_codeBlock : GoodIn wsX0_codeAll wsX0_codeBlock := goodIn_r _ [11, 3, 12, 13, 14, 2, 15, 16, 17, 18, 19, 20, 21, 22, 23, 24, 25, 10, 26, 27, 28, 29, 30, 31, 32, 33, 34, 35, 36, 37, 38, 39, 40, 41, 42, 43, 44, 45, 46, 47, 48, 49, 50, 51, 52, 53, 54, 55, 56, 57, 58, 59, 60, 61, 62, 63, 64, 65, 66, 67, 68, 69, 70, 71, 72, 73, 74, 75, 76, 77, 78, 79, 80, 81, 82, 83, 84, 85, 86, 87, 88, 89, 90, 91, 92, 93, 94, 95, 96, 97, 98, 99, 100, 101, 102, 103, 104, 105, 106, 107, 108, 109, 110, 111, 112, 113, 114, 115, 116, 117, 118, 119, 120, 121, 122, 123, 124, 125, 126, 127, 128, 129, 130, 131, 132, 133, 134, 143, 144, 145, 146, 147, 148, 149, 150, 151, 152, 153, 154, 155, 156, 157, 158, 159, 160, 161, 162, 163, 164, 165] (by decide +kernel) (by decide +kernel)
set_option maxRecDepth 20000 in
theorem gX0_codeAll_X0_codeBlock : GoodIn wsX0_codeAll (wsV RX0 31 RX0 yX0_codeBlock wsX0_codeBlock) := goodIn_app (goodIn_of _ (by decide +kernel)) ggX0_codeAll_X0_codeBlock
set_option maxRecDepth 20000 in
theorem ggX0_codeAll_X3_smooth : GoodIn wsX0_codeAll wsX3_smooth := goodIn_r _ [138, 139, 140, 141, 52, 142, 89, 54, 32, 33, 34, 162, 163, 164, 165] (by decide +kernel) (by decide +kernel)
set_option maxRecDepth 20000 in
theorem gX0_codeAll_X3_smooth : GoodIn wsX0_codeAll (wsV RX0 44 RX3 yX3_smooth wsX3_smooth) := goodIn_app (goodIn_of _ (by decide +kernel)) ggX0_codeAll_X3_smooth
theorem dX0_codeAll_0 : decode cX0_codeAll 0 = .ok (.iconst 0, 1) := by decide +kernel
theorem dX0_codeAll_1 : decode cX0_codeAll 1 = .ok (.istore_n 3, 1) := by decide +kernel
theorem dX0_codeAll_2 : decode cX0_codeAll 2 = .ok (.iload_n 3, 1) := by decide +kernel
theorem dX0_codeAll_3 : decode cX0_codeAll 3 = .ok (.bipush 12, 2) := by decide +kernel
theorem dX0_codeAll_5 : decode cX0_codeAll 5 = .ok (.if_icmp .ge 16, 3) := by decide +kernel
theorem dX0_codeAll_8 : decode cX0_codeAll 8 = .ok (.aload_n 0, 1) := by decide +kernel
theorem dX0_codeAll_9 : decode cX0_codeAll 9 = .ok (.aload_n 1, 1) := by decide +kernel
theorem dX0_codeAll_10 : decode cX0_codeAll 10 = .ok (.aload_n 2, 1) := by decide +kernel
theorem dX0_codeAll_11 : decode cX0_codeAll 11 = .ok (.iload_n 3, 1) := by decide +kernel
theorem dX0_codeAll_12 : decode cX0_codeAll 12 = .ok (.invokevirtual 31, 3) := by decide +kernel
theorem dX0_codeAll_15 : decode cX0_codeAll 15 = .ok (.iinc 3 1, 3) := by decide +kernel
theorem dX0_codeAll_18 : decode cX0_codeAll 18 = .ok (.goto (-16), 3) := by decide +kernel
theorem dX0_codeAll_21 : decode cX0_codeAll 21 = .ok (.aload_n 1, 1) := by decide +kernel
theorem dX0_codeAll_22 : decode cX0_codeAll 22 = .ok (.getfield 35, 3) := by decide +kernel
theorem dX0_codeAll_25 : decode cX0_codeAll 25 = .ok (.ifCond .eq 14, 3) := by decide +kernel
theorem dX0_codeAll_28 : decode cX0_codeAll 28 = .ok (.aload_n 0, 1) := by decide +kernel
theorem dX0_codeAll_29 : decode cX0_codeAll 29 = .ok (.getfield 12, 3) := by decide +kernel
theorem dX0_codeAll_32 : decode cX0_codeAll 32 = .ok (.aload_n 1, 1) := by decide +kernel
theorem dX0_codeAll_33 : decode cX0_codeAll 33 = .ok (.getfield 41, 3) := by decide +kernel
theorem dX0_codeAll_36 : decode cX0_codeAll 36 = .ok (.invokevirtual 44, 3) := by decide +kernel
theorem dX0_codeAll_39 : decode cX0_codeAll 39 = .ok (.iconst 0, 1) := by decide +kernel
theorem dX0_codeAll_40 : decode cX0_codeAll 40 = .ok (.istore_n 3, 1) := by decide +kernel
theorem dX0_codeAll_41 : decode cX0_codeAll 41 = .ok (.iconst 0, 1) := by decide +kernel
theorem dX0_codeAll_42 : decode cX0_codeAll 42 = .ok (.istore 4, 2) := by decide +kernel
theorem dX0_codeAll_44 : decode cX0_codeAll 44 = .ok (.iload 4, 2) := by decide +kernel
theorem dX0_codeAll_46 : decode cX0_codeAll 46 = .ok (.sipush 768, 3) := by decide +kernel
theorem dX0_codeAll_49 : decode cX0_codeAll 49 = .ok (.if_icmp .ge 51, 3) := by decide +kernel
theorem dX0_codeAll_52 : decode cX0_codeAll 52 = .ok (.aload_n 2, 1) := by decide +kernel
theorem dX0_codeAll_53 : decode cX0_codeAll 53 = .ok (.iload 4, 2) := by decide +kernel
theorem dX0_codeAll_55 : decode cX0_codeAll 55 = .ok (.iaload, 1) := by decide +kernel
theorem dX0_codeAll_56 : decode cX0_codeAll 56 = .ok (.aload_n 0, 1) := by decide +kernel
theorem dX0_codeAll_57 : decode cX0_codeAll 57 = .ok (.getfield 12, 3) := by decide +kernel
theorem dX0_codeAll_60 : decode cX0_codeAll 60 = .ok (.getfield 48, 3) := by decide +kernel
theorem dX0_codeAll_63 : decode cX0_codeAll 63 = .ok (.iload 4, 2) := by decide +kernel
theorem dX0_codeAll_65 : decode cX0_codeAll 65 = .ok (.iaload, 1) := by decide +kernel
theorem dX0_codeAll_66 : decode cX0_codeAll 66 = .ok (.isub, 1) := by decide +kernel
theorem dX0_codeAll_67 : decode cX0_codeAll 67 = .ok (.istore 5, 2) := by decide +kernel
theorem dX0_codeAll_69 : decode cX0_codeAll 69 = .ok (.iload_n 3, 1) := by decide +kernel
theorem dX0_codeAll_70 : decode cX0_codeAll 70 = .ok (.iload 5, 2) := by decide +kernel
theorem dX0_codeAll_72 : decode cX0_codeAll 72 = .ok (.iload 5, 2) := by decide +kernel
theorem dX0_codeAll_74 : decode cX0_codeAll 74 = .ok (.imul, 1) := by decide +kernel
theorem dX0_codeAll_75 : decode cX0_codeAll 75 = .ok (.iadd, 1) := by decide +kernel
theorem dX0_codeAll_76 : decode cX0_codeAll 76 = .ok (.istore_n 3, 1) := by decide +kernel
theorem dX0_codeAll_77 : decode cX0_codeAll 77 = .ok (.aload_n 1, 1) := by decide +kernel
theorem dX0_codeAll_78 : decode cX0_codeAll 78 = .ok (.getfield 52, 3) := by decide +kernel
theorem dX0_codeAll_81 : decode cX0_codeAll 81 = .ok (.iload 4, 2) := by decide +kernel
theorem dX0_codeAll_83 : decode cX0_codeAll 83 = .ok (.aload_n 0, 1) := by decide +kernel
theorem dX0_codeAll_84 : decode cX0_codeAll 84 = .ok (.getfield 12, 3) := by decide +kernel
theorem dX0_codeAll_87 : decode cX0_codeAll 87 = .ok (.getfield 48, 3) := by decide +kernel
theorem dX0_codeAll_90 : decode cX0_codeAll 90 = .ok (.iload 4, 2) := by decide +kernel
theorem dX0_codeAll_92 : decode cX0_codeAll 92 = .ok (.iaload, 1) := by decide +kernel
theorem dX0_codeAll_93 : decode cX0_codeAll 93 = .ok (.iastore, 1) := by decide +kernel
theorem dX0_codeAll_94 : decode cX0_codeAll 94 = .ok (.iinc 4 1, 3) := by decide +kernel
theorem dX0_codeAll_97 : decode cX0_codeAll 97 = .ok (.goto (-53), 3) := by decide +kernel
theorem dX0_codeAll_100 : decode cX0_codeAll 100 = .ok (.aload_n 1, 1) := by decide +kernel
theorem dX0_codeAll_101 : decode cX0_codeAll 101 = .ok (.iload_n 3, 1) := by decide +kernel
theorem dX0_codeAll_102 : decode cX0_codeAll 102 = .ok (.putfield 55, 3) := by decide +kernel
theorem dX0_codeAll_105 : decode cX0_codeAll 105 = .ok (.return_, 1) := by decide +kernel
set_option maxRecDepth 20000 in
theorem ggX0_codeBlock_X0_seekVector : GoodIn wsX0_codeBlock wsX0_seekVector := goodIn_r _ [18, 7, 8, 19, 20, 21, 17, 22, 23, 24, 25, 26, 1, 5, 3, 27, 28, 29, 30, 31, 32, 33, 34, 35, 36, 37, 38, 39, 40, 41, 42, 43, 44, 45, 46, 47, 48, 49, 50, 51, 52, 53, 54, 55, 56, 57, 58, 59, 60, 61, 6, 62, 63, 141, 142, 143, 144, 145, 127, 128, 129, 130, 131, 132, 133, 134, 135, 136, 137, 138, 139, 140, 146, 147, 148, 149] (by decide +kernel) (by decide +kernel)
set_option maxRecDepth 20000 in
theorem gX0_codeBlock_X0_seekVector : GoodIn wsX0_codeBlock (wsV RX0 62 RX0 yX0_seekVector wsX0_seekVector) := goodIn_app (goodIn_of _ (by decide +kernel)) ggX0_codeBlock_X0_seekVector
set_option maxRecDepth 20000 in
theorem ggX0_codeBlock_X0_tryKind : GoodIn wsX0_codeBlock wsX0_tryKind := goodIn_r _ [67, 5, 3, 68, 69, 70, 44, 71, 72, 73, 74, 75, 76, 47, 48, 49, 50, 53, 54, 55, 56, 57, 77, 78, 79, 80, 81, 33, 34, 35, 51, 52, 82, 83, 84, 85, 86, 87, 88, 89, 90, 91, 92, 93, 94, 95, 96, 97, 98, 99, 46, 24, 25, 26, 58, 59, 60, 17, 61, 6, 7, 8, 141, 142, 143, 144, 145, 146, 147, 148, 149] (by decide +kernel) (by decide +kernel)
set_option maxRecDepth 20000 in
theorem gX0_codeBlock_X0_tryKind : GoodIn wsX0_codeBlock (wsV RX0 65 RX0 yX0_tryKind wsX0_tryKind) := goodIn_app (goodIn_of _ (by decide +kernel)) ggX0_codeBlock_X0_tryKind
set_option maxRecDepth 20000 in
theorem ggX0_codeBlock_X5_isFirstOfBand : GoodIn wsX0_codeBlock wsX5_isFirstOfBand := goodIn_r _ [35] (by decide +kernel) (by decide +kernel)
set_option maxRecDepth 20000 in
theorem gX0_codeBlock_X5_isFirstOfBand_n69 : GoodIn wsX0_codeBlock (wsX5_isFirstOfBand) := ggX0_codeBlock_X5_isFirstOfBand
set_option maxRecDepth 20000 in
theorem ggX0_codeBlock_X3_foretell : GoodIn wsX0_codeBlock wsX3_foretell := goodIn_r _ [71, 72, 73, 74, 44, 75, 76, 47, 48, 49, 50, 53, 54, 55, 56, 57, 77, 78, 79, 80, 81, 33, 34, 35, 51, 52, 82, 83, 84, 85, 86, 87, 88, 89, 90, 91, 92, 93, 94, 95, 146, 147, 148, 149] (by decide +kernel) (by decide +kernel)
set_option maxRecDepth 20000 in
theorem gX0_codeBlock_X3_foretell : GoodIn wsX0_codeBlock (wsV RX0 73 RX3 yX3_foretell wsX3_foretell) := goodIn_app (goodIn_of _ (by decide +kernel)) ggX0_codeBlock_X3_foretell
set_option maxRecDepth 20000 in
theorem ggX0_codeBlock_X3_measure : GoodIn wsX0_codeBlock wsX3_measure := goodIn_r _ [103, 104, 76, 105, 106, 107, 44, 108, 109, 110, 111, 51, 34, 52, 112, 113, 114, 115, 116, 117, 118, 119, 120, 121, 122, 46, 24, 25, 26, 146, 147, 148, 149] (by decide +kernel) (by decide +kernel)
set_option maxRecDepth 20000 in
theorem gX0_codeBlock_X3_measure : GoodIn wsX0_codeBlock (wsV RX0 80 RX3 yX3_measure wsX3_measure) := goodIn_app (goodIn_of _ (by decide +kernel)) ggX0_codeBlock_X3_measure
set_option maxRecDepth 20000 in
theorem ggX0_codeBlock_X2_expectedX : GoodIn wsX0_codeBlock wsX2_expectedX := goodIn_r _ [31, 32, 33, 34, 35, 127, 128, 129, 130, 131, 132, 133, 134, 135, 136, 137, 138, 139, 140] (by decide +kernel) (by decide +kernel)
set_option maxRecDepth 20000 in
theorem gX0_codeBlock_X2_expectedX : GoodIn wsX0_codeBlock (wsV RX0 84 RX2 yX2_expectedX wsX2_expectedX) := goodIn_app (goodIn_of _ (by decide +kernel)) ggX0_codeBlock_X2_expectedX
set_option maxRecDepth 20000 in
theorem ggX0_codeBlock_X2_expectedY : GoodIn wsX0_codeBlock wsX2_expectedY := goodIn_r _ [39, 40, 33, 34, 35, 127, 128, 129, 130, 131, 132, 133, 134, 135, 136, 137, 138, 139, 140] (by decide +kernel) (by decide +kernel)
set_option maxRecDepth 20000 in
theorem gX0_codeBlock_X2_expectedY : GoodIn wsX0_codeBlock (wsV RX0 88 RX2 yX2_expectedY wsX2_expectedY) := goodIn_app (goodIn_of _ (by decide +kernel)) ggX0_codeBlock_X2_expectedY
set_option maxRecDepth 20000 in
theorem ggX0_codeBlock_X3_makeBlock : GoodIn wsX0_codeBlock wsX3_makeBlock := goodIn_r _ [126, 104, 105, 81, 76, 112, 113, 114, 44, 115, 116, 117, 118, 119, 106, 107, 108, 109, 110, 111, 51, 34, 52, 94, 95, 146, 147, 148, 149] (by decide +kernel) (by decide +kernel)
set_option maxRecDepth 20000 in
theorem gX0_codeBlock_X3_makeBlock : GoodIn wsX0_codeBlock (wsV RX0 103 RX3 yX3_makeBlock wsX3_makeBlock) := goodIn_app (goodIn_of _ (by decide +kernel)) ggX0_codeBlock_X3_makeBlock
theorem dX0_codeBlock_0 : decode cX0_codeBlock 0 = .ok (.aload_n 1, 1) := by decide +kernel
theorem dX0_codeBlock_1 : decode cX0_codeBlock 1 = .ok (.getfield 41, 3) := by decide +kernel
theorem dX0_codeBlock_4 : decode cX0_codeBlock 4 = .ok (.istore 4, 2) := by decide +kernel
theorem dX0_codeBlock_6 : decode cX0_codeBlock 6 = .ok (.aload_n 0, 1) := by decide +kernel
theorem dX0_codeBlock_7 : decode cX0_codeBlock 7 = .ok (.ldc 58, 2) := by decide +kernel
theorem dX0_codeBlock_9 : decode cX0_codeBlock 9 = .ok (.putfield 28, 3) := by decide +kernel
theorem dX0_codeBlock_12 : decode cX0_codeBlock 12 = .ok (.aload_n 1, 1) := by decide +kernel
theorem dX0_codeBlock_13 : decode cX0_codeBlock 13 = .ok (.getfield 59, 3) := by decide +kernel
theorem dX0_codeBlock_16 : decode cX0_codeBlock 16 = .ok (.ifCond .ne 10, 3) := by decide +kernel
theorem dX0_codeBlock_19 : decode cX0_codeBlock 19 = .ok (.aload_n 0, 1) := by decide +kernel
theorem dX0_codeBlock_20 : decode cX0_codeBlock 20 = .ok (.aload_n 1, 1) := by decide +kernel
theorem dX0_codeBlock_21 : decode cX0_codeBlock 21 = .ok (.aload_n 2, 1) := by decide +kernel
theorem dX0_codeBlock_22 : decode cX0_codeBlock 22 = .ok (.iload_n 3, 1) := by decide +kernel
theorem dX0_codeBlock_23 : decode cX0_codeBlock 23 = .ok (.invokevirtual 62, 3) := by decide +kernel
theorem dX0_codeBlock_26 : decode cX0_codeBlock 26 = .ok (.aload_n 0, 1) := by decide +kernel
theorem dX0_codeBlock_27 : decode cX0_codeBlock 27 = .ok (.iconst 2, 1) := by decide +kernel
theorem dX0_codeBlock_28 : decode cX0_codeBlock 28 = .ok (.aload_n 2, 1) := by decide +kernel
theorem dX0_codeBlock_29 : decode cX0_codeBlock 29 = .ok (.iload_n 3, 1) := by decide +kernel
theorem dX0_codeBlock_30 : decode cX0_codeBlock 30 = .ok (.iload 4, 2) := by decide +kernel
theorem dX0_codeBlock_32 : decode cX0_codeBlock 32 = .ok (.invokevirtual 65, 3) := by decide +kernel
theorem dX0_codeBlock_35 : decode cX0_codeBlock 35 = .ok (.iload_n 3, 1) := by decide +kernel
theorem dX0_codeBlock_36 : decode cX0_codeBlock 36 = .ok (.invokestatic 69, 3) := by decide +kernel
theorem dX0_codeBlock_39 : decode cX0_codeBlock 39 = .ok (.ifCond .ne 23, 3) := by decide +kernel
theorem dX0_codeBlock_42 : decode cX0_codeBlock 42 = .ok (.aload_n 0, 1) := by decide +kernel
theorem dX0_codeBlock_43 : decode cX0_codeBlock 43 = .ok (.iconst 3, 1) := by decide +kernel
theorem dX0_codeBlock_44 : decode cX0_codeBlock 44 = .ok (.aload_n 2, 1) := by decide +kernel
theorem dX0_codeBlock_45 : decode cX0_codeBlock 45 = .ok (.iload_n 3, 1) := by decide +kernel
theorem dX0_codeBlock_46 : decode cX0_codeBlock 46 = .ok (.iload 4, 2) := by decide +kernel
theorem dX0_codeBlock_48 : decode cX0_codeBlock 48 = .ok (.invokevirtual 65, 3) := by decide +kernel
theorem dX0_codeBlock_51 : decode cX0_codeBlock 51 = .ok (.aload_n 0, 1) := by decide +kernel
theorem dX0_codeBlock_52 : decode cX0_codeBlock 52 = .ok (.iconst 4, 1) := by decide +kernel
theorem dX0_codeBlock_53 : decode cX0_codeBlock 53 = .ok (.aload_n 2, 1) := by decide +kernel
theorem dX0_codeBlock_54 : decode cX0_codeBlock 54 = .ok (.iload_n 3, 1) := by decide +kernel
theorem dX0_codeBlock_55 : decode cX0_codeBlock 55 = .ok (.iconst 2, 1) := by decide +kernel
theorem dX0_codeBlock_56 : decode cX0_codeBlock 56 = .ok (.iload 4, 2) := by decide +kernel
theorem dX0_codeBlock_58 : decode cX0_codeBlock 58 = .ok (.imul, 1) := by decide +kernel
theorem dX0_codeBlock_59 : decode cX0_codeBlock 59 = .ok (.invokevirtual 65, 3) := by decide +kernel
theorem dX0_codeBlock_62 : decode cX0_codeBlock 62 = .ok (.aload_n 0, 1) := by decide +kernel
theorem dX0_codeBlock_63 : decode cX0_codeBlock 63 = .ok (.getfield 12, 3) := by decide +kernel
theorem dX0_codeBlock_66 : decode cX0_codeBlock 66 = .ok (.aload_n 0, 1) := by decide +kernel
theorem dX0_codeBlock_67 : decode cX0_codeBlock 67 = .ok (.getfield 18, 3) := by decide +kernel
theorem dX0_codeBlock_70 : decode cX0_codeBlock 70 = .ok (.iload_n 3, 1) := by decide +kernel
theorem dX0_codeBlock_71 : decode cX0_codeBlock 71 = .ok (.aload_n 0, 1) := by decide +kernel
theorem dX0_codeBlock_72 : decode cX0_codeBlock 72 = .ok (.getfield 22, 3) := by decide +kernel
theorem dX0_codeBlock_75 : decode cX0_codeBlock 75 = .ok (.aload_n 0, 1) := by decide +kernel
theorem dX0_codeBlock_76 : decode cX0_codeBlock 76 = .ok (.getfield 25, 3) := by decide +kernel
theorem dX0_codeBlock_79 : decode cX0_codeBlock 79 = .ok (.invokevirtual 73, 3) := by decide +kernel
theorem dX0_codeBlock_82 : decode cX0_codeBlock 82 = .ok (.aload_n 0, 1) := by decide +kernel
theorem dX0_codeBlock_83 : decode cX0_codeBlock 83 = .ok (.getfield 12, 3) := by decide +kernel
theorem dX0_codeBlock_86 : decode cX0_codeBlock 86 = .ok (.aload_n 2, 1) := by decide +kernel
theorem dX0_codeBlock_87 : decode cX0_codeBlock 87 = .ok (.iload_n 3, 1) := by decide +kernel
theorem dX0_codeBlock_88 : decode cX0_codeBlock 88 = .ok (.iload 4, 2) := by decide +kernel
theorem dX0_codeBlock_90 : decode cX0_codeBlock 90 = .ok (.aload_n 1, 1) := by decide +kernel
theorem dX0_codeBlock_91 : decode cX0_codeBlock 91 = .ok (.getfield 77, 3) := by decide +kernel
theorem dX0_codeBlock_94 : decode cX0_codeBlock 94 = .ok (.invokevirtual 80, 3) := by decide +kernel
theorem dX0_codeBlock_97 : decode cX0_codeBlock 97 = .ok (.istore 5, 2) := by decide +kernel
theorem dX0_codeBlock_99 : decode cX0_codeBlock 99 = .ok (.aload_n 0, 1) := by decide +kernel
theorem dX0_codeBlock_100 : decode cX0_codeBlock 100 = .ok (.getfield 22, 3) := by decide +kernel
theorem dX0_codeBlock_103 : decode cX0_codeBlock 103 = .ok (.aload_n 1, 1) := by decide +kernel
theorem dX0_codeBlock_104 : decode cX0_codeBlock 104 = .ok (.iload_n 3, 1) := by decide +kernel
theorem dX0_codeBlock_105 : decode cX0_codeBlock 105 = .ok (.invokevirtual 84, 3) := by decide +kernel
theorem dX0_codeBlock_108 : decode cX0_codeBlock 108 = .ok (.if_icmp .ne 19, 3) := by decide +kernel
theorem dX0_codeBlock_111 : decode cX0_codeBlock 111 = .ok (.aload_n 0, 1) := by decide +kernel
theorem dX0_codeBlock_112 : decode cX0_codeBlock 112 = .ok (.getfield 25, 3) := by decide +kernel
theorem dX0_codeBlock_115 : decode cX0_codeBlock 115 = .ok (.aload_n 1, 1) := by decide +kernel
theorem dX0_codeBlock_116 : decode cX0_codeBlock 116 = .ok (.iload_n 3, 1) := by decide +kernel
theorem dX0_codeBlock_117 : decode cX0_codeBlock 117 = .ok (.invokevirtual 88, 3) := by decide +kernel
theorem dX0_codeBlock_120 : decode cX0_codeBlock 120 = .ok (.if_icmp .ne 7, 3) := by decide +kernel
theorem dX0_codeBlock_123 : decode cX0_codeBlock 123 = .ok (.iconst 1, 1) := by decide +kernel
theorem dX0_codeBlock_124 : decode cX0_codeBlock 124 = .ok (.goto 4, 3) := by decide +kernel
theorem dX0_codeBlock_127 : decode cX0_codeBlock 127 = .ok (.iconst 0, 1) := by decide +kernel
theorem dX0_codeBlock_128 : decode cX0_codeBlock 128 = .ok (.istore 6, 2) := by decide +kernel
theorem dX0_codeBlock_130 : decode cX0_codeBlock 130 = .ok (.aload_n 1, 1) := by decide +kernel
theorem dX0_codeBlock_131 : decode cX0_codeBlock 131 = .ok (.getfield 91, 3) := by decide +kernel
theorem dX0_codeBlock_134 : decode cX0_codeBlock 134 = .ok (.iload_n 3, 1) := by decide +kernel
theorem dX0_codeBlock_135 : decode cX0_codeBlock 135 = .ok (.aload_n 0, 1) := by decide +kernel
theorem dX0_codeBlock_136 : decode cX0_codeBlock 136 = .ok (.getfield 18, 3) := by decide +kernel
theorem dX0_codeBlock_139 : decode cX0_codeBlock 139 = .ok (.iconst 1, 1) := by decide +kernel
theorem dX0_codeBlock_140 : decode cX0_codeBlock 140 = .ok (.if_icmp .ne 17, 3) := by decide +kernel
theorem dX0_codeBlock_143 : decode cX0_codeBlock 143 = .ok (.iload 6, 2) := by decide +kernel
theorem dX0_codeBlock_145 : decode cX0_codeBlock 145 = .ok (.ifCond .eq 12, 3) := by decide +kernel
theorem dX0_codeBlock_148 : decode cX0_codeBlock 148 = .ok (.iload 5, 2) := by decide +kernel
theorem dX0_codeBlock_150 : decode cX0_codeBlock 150 = .ok (.ifCond .eq 7, 3) := by decide +kernel
theorem dX0_codeBlock_153 : decode cX0_codeBlock 153 = .ok (.iconst 0, 1) := by decide +kernel
theorem dX0_codeBlock_154 : decode cX0_codeBlock 154 = .ok (.goto 7, 3) := by decide +kernel
theorem dX0_codeBlock_157 : decode cX0_codeBlock 157 = .ok (.aload_n 0, 1) := by decide +kernel
theorem dX0_codeBlock_158 : decode cX0_codeBlock 158 = .ok (.getfield 18, 3) := by decide +kernel
theorem dX0_codeBlock_161 : decode cX0_codeBlock 161 = .ok (.iastore, 1) := by decide +kernel
theorem dX0_codeBlock_162 : decode cX0_codeBlock 162 = .ok (.aload_n 1, 1) := by decide +kernel
theorem dX0_codeBlock_163 : decode cX0_codeBlock 163 = .ok (.getfield 94, 3) := by decide +kernel
theorem dX0_codeBlock_166 : decode cX0_codeBlock 166 = .ok (.iload_n 3, 1) := by decide +kernel
theorem dX0_codeBlock_167 : decode cX0_codeBlock 167 = .ok (.aload_n 0, 1) := by decide +kernel
theorem dX0_codeBlock_168 : decode cX0_codeBlock 168 = .ok (.getfield 22, 3) := by decide +kernel
theorem dX0_codeBlock_171 : decode cX0_codeBlock 171 = .ok (.iastore, 1) := by decide +kernel
theorem dX0_codeBlock_172 : decode cX0_codeBlock 172 = .ok (.aload_n 1, 1) := by decide +kernel
theorem dX0_codeBlock_173 : decode cX0_codeBlock 173 = .ok (.getfield 97, 3) := by decide +kernel
theorem dX0_codeBlock_176 : decode cX0_codeBlock 176 = .ok (.iload_n 3, 1) := by decide +kernel
theorem dX0_codeBlock_177 : decode cX0_codeBlock 177 = .ok (.aload_n 0, 1) := by decide +kernel
theorem dX0_codeBlock_178 : decode cX0_codeBlock 178 = .ok (.getfield 25, 3) := by decide +kernel
theorem dX0_codeBlock_181 : decode cX0_codeBlock 181 = .ok (.iastore, 1) := by decide +kernel
theorem dX0_codeBlock_182 : decode cX0_codeBlock 182 = .ok (.aload_n 1, 1) := by decide +kernel
theorem dX0_codeBlock_183 : decode cX0_codeBlock 183 = .ok (.getfield 100, 3) := by decide +kernel
theorem dX0_codeBlock_186 : decode cX0_codeBlock 186 = .ok (.iload_n 3, 1) := by decide +kernel
theorem dX0_codeBlock_187 : decode cX0_codeBlock 187 = .ok (.aload_n 0, 1) := by decide +kernel
theorem dX0_codeBlock_188 : decode cX0_codeBlock 188 = .ok (.getfield 28, 3) := by decide +kernel
theorem dX0_codeBlock_191 : decode cX0_codeBlock 191 = .ok (.iastore, 1) := by decide +kernel
theorem dX0_codeBlock_192 : decode cX0_codeBlock 192 = .ok (.aload_n 0, 1) := by decide +kernel
theorem dX0_codeBlock_193 : decode cX0_codeBlock 193 = .ok (.getfield 12, 3) := by decide +kernel
theorem dX0_codeBlock_196 : decode cX0_codeBlock 196 = .ok (.iload_n 3, 1) := by decide +kernel
theorem dX0_codeBlock_197 : decode cX0_codeBlock 197 = .ok (.iload 4, 2) := by decide +kernel
theorem dX0_codeBlock_199 : decode cX0_codeBlock 199 = .ok (.aload_n 1, 1) := by decide +kernel
theorem dX0_codeBlock_200 : decode cX0_codeBlock 200 = .ok (.getfield 77, 3) := by decide +kernel
theorem dX0_codeBlock_203 : decode cX0_codeBlock 203 = .ok (.invokevirtual 103, 3) := by decide +kernel
theorem dX0_codeBlock_206 : decode cX0_codeBlock 206 = .ok (.return_, 1) := by decide +kernel
set_option maxRecDepth 20000 in
theorem ggX0_seekVector_X0_tryVector : GoodIn wsX0_seekVector wsX0_tryVector := goodIn_r _ [7, 8, 9, 10, 11, 12, 13, 14, 15, 16, 17, 18, 19, 20, 21, 22, 23, 24, 25, 26, 27, 28, 29, 30, 31, 32, 33, 34, 35, 36, 37, 38, 39, 40, 41, 42, 43, 44, 45, 46, 47, 48, 6, 49, 50, 1, 2, 58, 59, 60, 61, 62, 63, 64, 65, 66, 67, 68, 69, 70, 71, 53, 54, 55, 56, 57, 72, 73, 74, 75] (by decide +kernel) (by decide +kernel)
set_option maxRecDepth 20000 in
theorem gX0_seekVector_X0_tryVector : GoodIn wsX0_seekVector (wsV RX0 107 RX0 yX0_tryVector wsX0_tryVector) := goodIn_app (goodIn_of _ (by decide +kernel)) ggX0_seekVector_X0_tryVector
set_option maxRecDepth 20000 in
theorem ggX0_seekVector_X5_isWithin : GoodIn wsX0_seekVector wsX5_isWithin := goodIn_r _ [52] (by decide +kernel) (by decide +kernel)
set_option maxRecDepth 20000 in
theorem gX0_seekVector_X5_isWithin_n111 : GoodIn wsX0_seekVector (wsX5_isWithin) := ggX0_seekVector_X5_isWithin
theorem dX0_seekVector_0 : decode cX0_seekVector 0 = .ok (.bipush (-6), 2) := by decide +kernel
theorem dX0_seekVector_2 : decode cX0_seekVector 2 = .ok (.istore 4, 2) := by decide +kernel
theorem dX0_seekVector_4 : decode cX0_seekVector 4 = .ok (.iload 4, 2) := by decide +kernel
theorem dX0_seekVector_6 : decode cX0_seekVector 6 = .ok (.bipush 6, 2) := by decide +kernel
theorem dX0_seekVector_8 : decode cX0_seekVector 8 = .ok (.if_icmp .gt 37, 3) := by decide +kernel
theorem dX0_seekVector_11 : decode cX0_seekVector 11 = .ok (.bipush (-6), 2) := by decide +kernel
theorem dX0_seekVector_13 : decode cX0_seekVector 13 = .ok (.istore 5, 2) := by decide +kernel
theorem dX0_seekVector_15 : decode cX0_seekVector 15 = .ok (.iload 5, 2) := by decide +kernel
theorem dX0_seekVector_17 : decode cX0_seekVector 17 = .ok (.bipush 6, 2) := by decide +kernel
theorem dX0_seekVector_19 : decode cX0_seekVector 19 = .ok (.if_icmp .gt 20, 3) := by decide +kernel
theorem dX0_seekVector_22 : decode cX0_seekVector 22 = .ok (.aload_n 0, 1) := by decide +kernel
theorem dX0_seekVector_23 : decode cX0_seekVector 23 = .ok (.aload_n 1, 1) := by decide +kernel
theorem dX0_seekVector_24 : decode cX0_seekVector 24 = .ok (.aload_n 2, 1) := by decide +kernel
theorem dX0_seekVector_25 : decode cX0_seekVector 25 = .ok (.iload_n 3, 1) := by decide +kernel
theorem dX0_seekVector_26 : decode cX0_seekVector 26 = .ok (.iload 5, 2) := by decide +kernel
theorem dX0_seekVector_28 : decode cX0_seekVector 28 = .ok (.iload 4, 2) := by decide +kernel
theorem dX0_seekVector_30 : decode cX0_seekVector 30 = .ok (.invokevirtual 107, 3) := by decide +kernel
theorem dX0_seekVector_33 : decode cX0_seekVector 33 = .ok (.iinc 5 2, 3) := by decide +kernel
theorem dX0_seekVector_36 : decode cX0_seekVector 36 = .ok (.goto (-21), 3) := by decide +kernel
theorem dX0_seekVector_39 : decode cX0_seekVector 39 = .ok (.iinc 4 2, 3) := by decide +kernel
theorem dX0_seekVector_42 : decode cX0_seekVector 42 = .ok (.goto (-38), 3) := by decide +kernel
theorem dX0_seekVector_45 : decode cX0_seekVector 45 = .ok (.aload_n 0, 1) := by decide +kernel
theorem dX0_seekVector_46 : decode cX0_seekVector 46 = .ok (.getfield 22, 3) := by decide +kernel
theorem dX0_seekVector_49 : decode cX0_seekVector 49 = .ok (.istore 4, 2) := by decide +kernel
theorem dX0_seekVector_51 : decode cX0_seekVector 51 = .ok (.aload_n 0, 1) := by decide +kernel
theorem dX0_seekVector_52 : decode cX0_seekVector 52 = .ok (.getfield 25, 3) := by decide +kernel
theorem dX0_seekVector_55 : decode cX0_seekVector 55 = .ok (.istore 5, 2) := by decide +kernel
theorem dX0_seekVector_57 : decode cX0_seekVector 57 = .ok (.iload 5, 2) := by decide +kernel
theorem dX0_seekVector_59 : decode cX0_seekVector 59 = .ok (.iconst 1, 1) := by decide +kernel
theorem dX0_seekVector_60 : decode cX0_seekVector 60 = .ok (.isub, 1) := by decide +kernel
theorem dX0_seekVector_61 : decode cX0_seekVector 61 = .ok (.istore 6, 2) := by decide +kernel
theorem dX0_seekVector_63 : decode cX0_seekVector 63 = .ok (.iload 6, 2) := by decide +kernel
theorem dX0_seekVector_65 : decode cX0_seekVector 65 = .ok (.iload 5, 2) := by decide +kernel
theorem dX0_seekVector_67 : decode cX0_seekVector 67 = .ok (.iconst 1, 1) := by decide +kernel
theorem dX0_seekVector_68 : decode cX0_seekVector 68 = .ok (.iadd, 1) := by decide +kernel
theorem dX0_seekVector_69 : decode cX0_seekVector 69 = .ok (.if_icmp .gt 65, 3) := by decide +kernel
theorem dX0_seekVector_72 : decode cX0_seekVector 72 = .ok (.iload 4, 2) := by decide +kernel
theorem dX0_seekVector_74 : decode cX0_seekVector 74 = .ok (.iconst 1, 1) := by decide +kernel
theorem dX0_seekVector_75 : decode cX0_seekVector 75 = .ok (.isub, 1) := by decide +kernel
theorem dX0_seekVector_76 : decode cX0_seekVector 76 = .ok (.istore 7, 2) := by decide +kernel
theorem dX0_seekVector_78 : decode cX0_seekVector 78 = .ok (.iload 7, 2) := by decide +kernel
theorem dX0_seekVector_80 : decode cX0_seekVector 80 = .ok (.iload 4, 2) := by decide +kernel
theorem dX0_seekVector_82 : decode cX0_seekVector 82 = .ok (.iconst 1, 1) := by decide +kernel
theorem dX0_seekVector_83 : decode cX0_seekVector 83 = .ok (.iadd, 1) := by decide +kernel
theorem dX0_seekVector_84 : decode cX0_seekVector 84 = .ok (.if_icmp .gt 44, 3) := by decide +kernel
theorem dX0_seekVector_87 : decode cX0_seekVector 87 = .ok (.iload 7, 2) := by decide +kernel
theorem dX0_seekVector_89 : decode cX0_seekVector 89 = .ok (.bipush (-6), 2) := by decide +kernel
theorem dX0_seekVector_91 : decode cX0_seekVector 91 = .ok (.bipush 6, 2) := by decide +kernel
theorem dX0_seekVector_93 : decode cX0_seekVector 93 = .ok (.invokestatic 111, 3) := by decide +kernel
theorem dX0_seekVector_96 : decode cX0_seekVector 96 = .ok (.ifCond .eq 26, 3) := by decide +kernel
theorem dX0_seekVector_99 : decode cX0_seekVector 99 = .ok (.iload 6, 2) := by decide +kernel
theorem dX0_seekVector_101 : decode cX0_seekVector 101 = .ok (.bipush (-6), 2) := by decide +kernel
theorem dX0_seekVector_103 : decode cX0_seekVector 103 = .ok (.bipush 6, 2) := by decide +kernel
theorem dX0_seekVector_105 : decode cX0_seekVector 105 = .ok (.invokestatic 111, 3) := by decide +kernel
theorem dX0_seekVector_108 : decode cX0_seekVector 108 = .ok (.ifCond .eq 14, 3) := by decide +kernel
theorem dX0_seekVector_111 : decode cX0_seekVector 111 = .ok (.aload_n 0, 1) := by decide +kernel
theorem dX0_seekVector_112 : decode cX0_seekVector 112 = .ok (.aload_n 1, 1) := by decide +kernel
theorem dX0_seekVector_113 : decode cX0_seekVector 113 = .ok (.aload_n 2, 1) := by decide +kernel
theorem dX0_seekVector_114 : decode cX0_seekVector 114 = .ok (.iload_n 3, 1) := by decide +kernel
theorem dX0_seekVector_115 : decode cX0_seekVector 115 = .ok (.iload 7, 2) := by decide +kernel
theorem dX0_seekVector_117 : decode cX0_seekVector 117 = .ok (.iload 6, 2) := by decide +kernel
theorem dX0_seekVector_119 : decode cX0_seekVector 119 = .ok (.invokevirtual 107, 3) := by decide +kernel
theorem dX0_seekVector_122 : decode cX0_seekVector 122 = .ok (.iinc 7 1, 3) := by decide +kernel
theorem dX0_seekVector_125 : decode cX0_seekVector 125 = .ok (.goto (-47), 3) := by decide +kernel
theorem dX0_seekVector_128 : decode cX0_seekVector 128 = .ok (.iinc 6 1, 3) := by decide +kernel
theorem dX0_seekVector_131 : decode cX0_seekVector 131 = .ok (.goto (-68), 3) := by decide +kernel
theorem dX0_seekVector_134 : decode cX0_seekVector 134 = .ok (.return_, 1) := by decide +kernel
set_option maxRecDepth 20000 in
theorem ggX0_tryVector_X2_expectedX : GoodIn wsX0_tryVector wsX2_expectedX := goodIn_r _ [12, 13, 14, 15, 16, 47, 48, 49, 50, 51, 52, 53, 54, 55, 56, 57, 58, 59, 60] (by decide +kernel) (by decide +kernel)
set_option maxRecDepth 20000 in
theorem gX0_tryVector_X2_expectedX : GoodIn wsX0_tryVector (wsV RX0 84 RX2 yX2_expectedX wsX2_expectedX) := goodIn_app (goodIn_of _ (by decide +kernel)) ggX0_tryVector_X2_expectedX
set_option maxRecDepth 20000 in
theorem ggX0_tryVector_X2_expectedY : GoodIn wsX0_tryVector wsX2_expectedY := goodIn_r _ [20, 21, 14, 15, 16, 47, 48, 49, 50, 51, 52, 53, 54, 55, 56, 57, 58, 59, 60] (by decide +kernel) (by decide +kernel)
set_option maxRecDepth 20000 in
theorem gX0_tryVector_X2_expectedY : GoodIn wsX0_tryVector (wsV RX0 88 RX2 yX2_expectedY wsX2_expectedY) := goodIn_app (goodIn_of _ (by decide +kernel)) ggX0_tryVector_X2_expectedY
set_option maxRecDepth 20000 in
theorem ggX0_tryVector_X3_differenceMoved : GoodIn wsX0_tryVector wsX3_differenceMoved := goodIn_r _ [26, 27, 2, 3, 4, 28, 29, 30, 25, 31, 32, 15, 33, 34, 35, 36, 37, 38, 66, 67, 68, 69] (by decide +kernel) (by decide +kernel)
set_option maxRecDepth 20000 in
theorem gX0_tryVector_X3_differenceMoved : GoodIn wsX0_tryVector (wsV RX0 120 RX3 yX3_differenceMoved wsX3_differenceMoved) := goodIn_app (goodIn_of _ (by decide +kernel)) ggX0_tryVector_X3_differenceMoved
set_option maxRecDepth 20000 in
theorem ggX0_tryVector_X0_take : GoodIn wsX0_tryVector wsX0_take := goodIn_r _ [43, 44, 45, 46, 7, 61, 62, 63, 64, 65] (by decide +kernel) (by decide +kernel)
set_option maxRecDepth 20000 in
theorem gX0_tryVector_X0_take : GoodIn wsX0_tryVector (wsV RX0 124 RX0 yX0_take wsX0_take) := goodIn_app (goodIn_of _ (by decide +kernel)) ggX0_tryVector_X0_take
theorem dX0_tryVector_0 : decode cX0_tryVector 0 = .ok (.iload 4, 2) := by decide +kernel
theorem dX0_tryVector_2 : decode cX0_tryVector 2 = .ok (.aload_n 1, 1) := by decide +kernel
theorem dX0_tryVector_3 : decode cX0_tryVector 3 = .ok (.iload_n 3, 1) := by decide +kernel
theorem dX0_tryVector_4 : decode cX0_tryVector 4 = .ok (.invokevirtual 84, 3) := by decide +kernel
theorem dX0_tryVector_7 : decode cX0_tryVector 7 = .ok (.isub, 1) := by decide +kernel
theorem dX0_tryVector_8 : decode cX0_tryVector 8 = .ok (.invokestatic 115, 3) := by decide +kernel
theorem dX0_tryVector_11 : decode cX0_tryVector 11 = .ok (.iload 5, 2) := by decide +kernel
theorem dX0_tryVector_13 : decode cX0_tryVector 13 = .ok (.aload_n 1, 1) := by decide +kernel
theorem dX0_tryVector_14 : decode cX0_tryVector 14 = .ok (.iload_n 3, 1) := by decide +kernel
theorem dX0_tryVector_15 : decode cX0_tryVector 15 = .ok (.invokevirtual 88, 3) := by decide +kernel
theorem dX0_tryVector_18 : decode cX0_tryVector 18 = .ok (.isub, 1) := by decide +kernel
theorem dX0_tryVector_19 : decode cX0_tryVector 19 = .ok (.invokestatic 115, 3) := by decide +kernel
theorem dX0_tryVector_22 : decode cX0_tryVector 22 = .ok (.iadd, 1) := by decide +kernel
theorem dX0_tryVector_23 : decode cX0_tryVector 23 = .ok (.istore 6, 2) := by decide +kernel
theorem dX0_tryVector_25 : decode cX0_tryVector 25 = .ok (.aload_n 1, 1) := by decide +kernel
theorem dX0_tryVector_26 : decode cX0_tryVector 26 = .ok (.getfield 41, 3) := by decide +kernel
theorem dX0_tryVector_29 : decode cX0_tryVector 29 = .ok (.iconst 2, 1) := by decide +kernel
theorem dX0_tryVector_30 : decode cX0_tryVector 30 = .ok (.iload 6, 2) := by decide +kernel
theorem dX0_tryVector_32 : decode cX0_tryVector 32 = .ok (.iadd, 1) := by decide +kernel
theorem dX0_tryVector_33 : decode cX0_tryVector 33 = .ok (.imul, 1) := by decide +kernel
theorem dX0_tryVector_34 : decode cX0_tryVector 34 = .ok (.istore 7, 2) := by decide +kernel
theorem dX0_tryVector_36 : decode cX0_tryVector 36 = .ok (.iload 7, 2) := by decide +kernel
theorem dX0_tryVector_38 : decode cX0_tryVector 38 = .ok (.aload_n 0, 1) := by decide +kernel
theorem dX0_tryVector_39 : decode cX0_tryVector 39 = .ok (.getfield 12, 3) := by decide +kernel
theorem dX0_tryVector_42 : decode cX0_tryVector 42 = .ok (.aload_n 2, 1) := by decide +kernel
theorem dX0_tryVector_43 : decode cX0_tryVector 43 = .ok (.iload_n 3, 1) := by decide +kernel
theorem dX0_tryVector_44 : decode cX0_tryVector 44 = .ok (.iload 4, 2) := by decide +kernel
theorem dX0_tryVector_46 : decode cX0_tryVector 46 = .ok (.iload 5, 2) := by decide +kernel
theorem dX0_tryVector_48 : decode cX0_tryVector 48 = .ok (.aload_n 0, 1) := by decide +kernel
theorem dX0_tryVector_49 : decode cX0_tryVector 49 = .ok (.getfield 28, 3) := by decide +kernel
theorem dX0_tryVector_52 : decode cX0_tryVector 52 = .ok (.iload 7, 2) := by decide +kernel
theorem dX0_tryVector_54 : decode cX0_tryVector 54 = .ok (.isub, 1) := by decide +kernel
theorem dX0_tryVector_55 : decode cX0_tryVector 55 = .ok (.invokevirtual 120, 3) := by decide +kernel
theorem dX0_tryVector_58 : decode cX0_tryVector 58 = .ok (.iadd, 1) := by decide +kernel
theorem dX0_tryVector_59 : decode cX0_tryVector 59 = .ok (.istore 8, 2) := by decide +kernel
theorem dX0_tryVector_61 : decode cX0_tryVector 61 = .ok (.iload 8, 2) := by decide +kernel
theorem dX0_tryVector_63 : decode cX0_tryVector 63 = .ok (.aload_n 0, 1) := by decide +kernel
theorem dX0_tryVector_64 : decode cX0_tryVector 64 = .ok (.getfield 28, 3) := by decide +kernel
theorem dX0_tryVector_67 : decode cX0_tryVector 67 = .ok (.if_icmp .ge 14, 3) := by decide +kernel
theorem dX0_tryVector_70 : decode cX0_tryVector 70 = .ok (.aload_n 0, 1) := by decide +kernel
theorem dX0_tryVector_71 : decode cX0_tryVector 71 = .ok (.iconst 1, 1) := by decide +kernel
theorem dX0_tryVector_72 : decode cX0_tryVector 72 = .ok (.iload 4, 2) := by decide +kernel
theorem dX0_tryVector_74 : decode cX0_tryVector 74 = .ok (.iload 5, 2) := by decide +kernel
theorem dX0_tryVector_76 : decode cX0_tryVector 76 = .ok (.iload 8, 2) := by decide +kernel
theorem dX0_tryVector_78 : decode cX0_tryVector 78 = .ok (.invokevirtual 124, 3) := by decide +kernel
theorem dX0_tryVector_81 : decode cX0_tryVector 81 = .ok (.return_, 1) := by decide +kernel
set_option maxRecDepth 20000 in
theorem ggX0_tryKind_X3_foretell : GoodIn wsX0_tryKind wsX3_foretell := goodIn_r _ [7, 8, 9, 10, 6, 11, 12, 13, 14, 15, 16, 17, 18, 19, 20, 21, 22, 23, 24, 25, 26, 27, 28, 29, 30, 31, 32, 33, 34, 35, 36, 37, 38, 39, 40, 41, 42, 43, 44, 45, 67, 68, 69, 70] (by decide +kernel) (by decide +kernel)
set_option maxRecDepth 20000 in
theorem gX0_tryKind_X3_foretell : GoodIn wsX0_tryKind (wsV RX0 73 RX3 yX3_foretell wsX3_foretell) := goodIn_app (goodIn_of _ (by decide +kernel)) ggX0_tryKind_X3_foretell
set_option maxRecDepth 20000 in
theorem ggX0_tryKind_X3_difference : GoodIn wsX0_tryKind wsX3_difference := goodIn_r _ [49, 12, 50, 51, 52, 53, 30, 28, 31, 67, 68, 69, 70] (by decide +kernel) (by decide +kernel)
set_option maxRecDepth 20000 in
theorem gX0_tryKind_X3_difference : GoodIn wsX0_tryKind (wsV RX0 127 RX3 yX3_difference wsX3_difference) := goodIn_app (goodIn_of _ (by decide +kernel)) ggX0_tryKind_X3_difference
set_option maxRecDepth 20000 in
theorem ggX0_tryKind_X0_take : GoodIn wsX0_tryKind wsX0_take := goodIn_r _ [58, 59, 60, 61, 2, 62, 63, 64, 65, 66] (by decide +kernel) (by decide +kernel)
set_option maxRecDepth 20000 in
theorem gX0_tryKind_X0_take : GoodIn wsX0_tryKind (wsV RX0 124 RX0 yX0_take wsX0_take) := goodIn_app (goodIn_of _ (by decide +kernel)) ggX0_tryKind_X0_take
theorem dX0_tryKind_0 : decode cX0_tryKind 0 = .ok (.aload_n 0, 1) := by decide +kernel
theorem dX0_tryKind_1 : decode cX0_tryKind 1 = .ok (.getfield 12, 3) := by decide +kernel
theorem dX0_tryKind_4 : decode cX0_tryKind 4 = .ok (.iload_n 1, 1) := by decide +kernel
theorem dX0_tryKind_5 : decode cX0_tryKind 5 = .ok (.iload_n 3, 1) := by decide +kernel
theorem dX0_tryKind_6 : decode cX0_tryKind 6 = .ok (.iconst 0, 1) := by decide +kernel
theorem dX0_tryKind_7 : decode cX0_tryKind 7 = .ok (.iconst 0, 1) := by decide +kernel
theorem dX0_tryKind_8 : decode cX0_tryKind 8 = .ok (.invokevirtual 73, 3) := by decide +kernel
theorem dX0_tryKind_11 : decode cX0_tryKind 11 = .ok (.aload_n 0, 1) := by decide +kernel
theorem dX0_tryKind_12 : decode cX0_tryKind 12 = .ok (.getfield 12, 3) := by decide +kernel
theorem dX0_tryKind_15 : decode cX0_tryKind 15 = .ok (.aload_n 2, 1) := by decide +kernel
theorem dX0_tryKind_16 : decode cX0_tryKind 16 = .ok (.iload_n 3, 1) := by decide +kernel
theorem dX0_tryKind_17 : decode cX0_tryKind 17 = .ok (.invokevirtual 127, 3) := by decide +kernel
theorem dX0_tryKind_20 : decode cX0_tryKind 20 = .ok (.iload 4, 2) := by decide +kernel
theorem dX0_tryKind_22 : decode cX0_tryKind 22 = .ok (.iadd, 1) := by decide +kernel
theorem dX0_tryKind_23 : decode cX0_tryKind 23 = .ok (.istore 5, 2) := by decide +kernel
theorem dX0_tryKind_25 : decode cX0_tryKind 25 = .ok (.iload 5, 2) := by decide +kernel
theorem dX0_tryKind_27 : decode cX0_tryKind 27 = .ok (.aload_n 0, 1) := by decide +kernel
theorem dX0_tryKind_28 : decode cX0_tryKind 28 = .ok (.getfield 28, 3) := by decide +kernel
theorem dX0_tryKind_31 : decode cX0_tryKind 31 = .ok (.if_icmp .ge 12, 3) := by decide +kernel
theorem dX0_tryKind_34 : decode cX0_tryKind 34 = .ok (.aload_n 0, 1) := by decide +kernel
theorem dX0_tryKind_35 : decode cX0_tryKind 35 = .ok (.iload_n 1, 1) := by decide +kernel
theorem dX0_tryKind_36 : decode cX0_tryKind 36 = .ok (.iconst 0, 1) := by decide +kernel
theorem dX0_tryKind_37 : decode cX0_tryKind 37 = .ok (.iconst 0, 1) := by decide +kernel
theorem dX0_tryKind_38 : decode cX0_tryKind 38 = .ok (.iload 5, 2) := by decide +kernel
theorem dX0_tryKind_40 : decode cX0_tryKind 40 = .ok (.invokevirtual 124, 3) := by decide +kernel
theorem dX0_tryKind_43 : decode cX0_tryKind 43 = .ok (.return_, 1) := by decide +kernel
theorem dX0_take_0 : decode cX0_take 0 = .ok (.aload_n 0, 1) := by decide +kernel
theorem dX0_take_1 : decode cX0_take 1 = .ok (.iload_n 1, 1) := by decide +kernel
theorem dX0_take_2 : decode cX0_take 2 = .ok (.putfield 18, 3) := by decide +kernel
theorem dX0_take_5 : decode cX0_take 5 = .ok (.aload_n 0, 1) := by decide +kernel
theorem dX0_take_6 : decode cX0_take 6 = .ok (.iload_n 2, 1) := by decide +kernel
theorem dX0_take_7 : decode cX0_take 7 = .ok (.putfield 22, 3) := by decide +kernel
theorem dX0_take_10 : decode cX0_take 10 = .ok (.aload_n 0, 1) := by decide +kernel
theorem dX0_take_11 : decode cX0_take 11 = .ok (.iload_n 3, 1) := by decide +kernel
theorem dX0_take_12 : decode cX0_take 12 = .ok (.putfield 25, 3) := by decide +kernel
theorem dX0_take_15 : decode cX0_take 15 = .ok (.aload_n 0, 1) := by decide +kernel
theorem dX0_take_16 : decode cX0_take 16 = .ok (.iload 4, 2) := by decide +kernel
theorem dX0_take_18 : decode cX0_take 18 = .ok (.putfield 28, 3) := by decide +kernel
theorem dX0_take_21 : decode cX0_take 21 = .ok (.return_, 1) := by decide +kernel
theorem dX1_init_0 : decode cX1_init 0 = .ok (.aload_n 0, 1) := by decide +kernel
theorem dX1_init_1 : decode cX1_init 1 = .ok (.invokespecial 3, 3) := by decide +kernel
theorem dX1_init_4 : decode cX1_init 4 = .ok (.aload_n 0, 1) := by decide +kernel
theorem dX1_init_5 : decode cX1_init 5 = .ok (.sipush 2487, 3) := by decide +kernel
theorem dX1_init_8 : decode cX1_init 8 = .ok (.newarray .int, 2) := by decide +kernel
theorem dX1_init_10 : decode cX1_init 10 = .ok (.putfield 11, 3) := by decide +kernel
theorem dX1_init_13 : decode cX1_init 13 = .ok (.aload_n 0, 1) := by decide +kernel
theorem dX1_init_14 : decode cX1_init 14 = .ok (.iconst 5, 1) := by decide +kernel
theorem dX1_init_15 : decode cX1_init 15 = .ok (.newarray .int, 2) := by decide +kernel
theorem dX1_init_17 : decode cX1_init 17 = .ok (.putfield 15, 3) := by decide +kernel
theorem dX1_init_20 : decode cX1_init 20 = .ok (.aload_n 0, 1) := by decide +kernel
theorem dX1_init_21 : decode cX1_init 21 = .ok (.iconst 3, 1) := by decide +kernel
theorem dX1_init_22 : decode cX1_init 22 = .ok (.newarray .int, 2) := by decide +kernel
theorem dX1_init_24 : decode cX1_init 24 = .ok (.putfield 18, 3) := by decide +kernel
theorem dX1_init_27 : decode cX1_init 27 = .ok (.aload_n 0, 1) := by decide +kernel
theorem dX1_init_28 : decode cX1_init 28 = .ok (.iconst 0, 1) := by decide +kernel
theorem dX1_init_29 : decode cX1_init 29 = .ok (.putfield 21, 3) := by decide +kernel
theorem dX1_init_32 : decode cX1_init 32 = .ok (.return_, 1) := by decide +kernel
set_option maxRecDepth 20000 in
theorem ggX1_copyOfBytes_X5_onRow : GoodIn wsX1_copyOfBytes wsX5_onRow := goodIn_r _ [4, 5, 6, 7, 8, 9, 10, 11] (by decide +kernel) (by decide +kernel)
set_option maxRecDepth 20000 in
theorem gX1_copyOfBytes_X5_onRow_n25 : GoodIn wsX1_copyOfBytes (wsX5_onRow) := ggX1_copyOfBytes_X5_onRow
set_option maxRecDepth 20000 in
theorem ggX1_copyOfBytes_J7_copyOf_59c91 : GoodIn wsX1_copyOfBytes wsJ7_copyOf_59c91 := goodIn_r _ [15, 16, 17, 18, 19, 20, 21, 22, 23, 6, 7, 8, 24, 25, 26, 27] (by decide +kernel) (by decide +kernel)
set_option maxRecDepth 20000 in
theorem gX1_copyOfBytes_J7_copyOf_59c91 : GoodIn wsX1_copyOfBytes (va_wsS RX1 29 yJ7_copyOf_59c91 wsJ7_copyOf_59c91) := goodIn_app (goodIn_of _ (by decide +kernel)) ggX1_copyOfBytes_J7_copyOf_59c91
theorem dX1_copyOfBytes_0 : decode cX1_copyOfBytes 0 = .ok (.aload_n 0, 1) := by decide +kernel
theorem dX1_copyOfBytes_1 : decode cX1_copyOfBytes 1 = .ok (.getfield 11, 3) := by decide +kernel
theorem dX1_copyOfBytes_4 : decode cX1_copyOfBytes 4 = .ok (.iload_n 1, 1) := by decide +kernel
theorem dX1_copyOfBytes_5 : decode cX1_copyOfBytes 5 = .ok (.sipush 2488, 3) := by decide +kernel
theorem dX1_copyOfBytes_8 : decode cX1_copyOfBytes 8 = .ok (.invokestatic 25, 3) := by decide +kernel
theorem dX1_copyOfBytes_11 : decode cX1_copyOfBytes 11 = .ok (.invokestatic 29, 3) := by decide +kernel
theorem dX1_copyOfBytes_14 : decode cX1_copyOfBytes 14 = .ok (.areturn, 1) := by decide +kernel
set_option maxRecDepth 20000 in
theorem ggX1_write_J7_fill_53178 : GoodIn wsX1_write wsJ7_fill_53178 := goodIn_r _ [7] (by decide +kernel) (by decide +kernel)
set_option maxRecDepth 20000 in
theorem gX1_write_J7_fill_53178 : GoodIn wsX1_write (va_wsS RX1 35 yJ7_fill_53178 wsJ7_fill_53178) := goodIn_app (goodIn_of _ (by decide +kernel)) ggX1_write_J7_fill_53178
set_option maxRecDepth 20000 in
theorem ggX1_write_X1_startBand : GoodIn wsX1_write wsX1_startBand := goodIn_r _ [12, 13, 14, 15, 16, 17, 18, 4, 5, 6, 7, 19, 20, 21, 11, 22, 2, 1, 72, 73, 74, 75, 76, 77, 78, 79, 80, 81, 82, 83, 84, 85, 86, 87, 88, 89] (by decide +kernel) (by decide +kernel)
set_option maxRecDepth 20000 in
theorem gX1_write_X1_startBand : GoodIn wsX1_write (wsV RX1 39 RX1 yX1_startBand wsX1_startBand) := goodIn_app (goodIn_of _ (by decide +kernel)) ggX1_write_X1_startBand
set_option maxRecDepth 20000 in
theorem ggX1_write_X1_writeBlock : GoodIn wsX1_write wsX1_writeBlock := goodIn_r _ [26, 27, 28, 29, 30, 31, 32, 33, 11, 34, 13, 35, 36, 37, 38, 19, 20, 21, 22, 2, 1, 39, 40, 41, 42, 43, 44, 45, 46, 47, 48, 49, 50, 51, 52, 53, 54, 55, 56, 57, 58, 59, 60, 61, 62, 63, 64, 65, 66, 14, 76, 77, 78, 79, 80, 81, 82, 83, 84, 85, 86, 87, 88, 89, 72, 73, 74, 75] (by decide +kernel) (by decide +kernel)
set_option maxRecDepth 20000 in
theorem gX1_write_X1_writeBlock : GoodIn wsX1_write (wsV RX1 43 RX1 yX1_writeBlock wsX1_writeBlock) := goodIn_app (goodIn_of _ (by decide +kernel)) ggX1_write_X1_writeBlock
set_option maxRecDepth 20000 in
theorem ggX1_write_X2_bytesIn : GoodIn wsX1_write wsX2_bytesIn := goodIn_r _ [70, 71, 76, 77, 78, 79, 80, 81, 82, 83, 84, 85, 86, 87, 88, 89] (by decide +kernel) (by decide +kernel)
set_option maxRecDepth 20000 in
theorem gX1_write_X2_bytesIn : GoodIn wsX1_write (wsV RX1 52 RX2 yX2_bytesIn wsX2_bytesIn) := goodIn_app (goodIn_of _ (by decide +kernel)) ggX1_write_X2_bytesIn
theorem dX1_write_0 : decode cX1_write 0 = .ok (.aload_n 0, 1) := by decide +kernel
theorem dX1_write_1 : decode cX1_write 1 = .ok (.getfield 11, 3) := by decide +kernel
theorem dX1_write_4 : decode cX1_write 4 = .ok (.iconst 0, 1) := by decide +kernel
theorem dX1_write_5 : decode cX1_write 5 = .ok (.invokestatic 35, 3) := by decide +kernel
theorem dX1_write_8 : decode cX1_write 8 = .ok (.aload_n 0, 1) := by decide +kernel
theorem dX1_write_9 : decode cX1_write 9 = .ok (.iconst 0, 1) := by decide +kernel
theorem dX1_write_10 : decode cX1_write 10 = .ok (.putfield 21, 3) := by decide +kernel
theorem dX1_write_13 : decode cX1_write 13 = .ok (.iconst 0, 1) := by decide +kernel
theorem dX1_write_14 : decode cX1_write 14 = .ok (.istore_n 2, 1) := by decide +kernel
theorem dX1_write_15 : decode cX1_write 15 = .ok (.iload_n 2, 1) := by decide +kernel
theorem dX1_write_16 : decode cX1_write 16 = .ok (.iconst 3, 1) := by decide +kernel
theorem dX1_write_17 : decode cX1_write 17 = .ok (.if_icmp .ge 71, 3) := by decide +kernel
theorem dX1_write_20 : decode cX1_write 20 = .ok (.aload_n 0, 1) := by decide +kernel
theorem dX1_write_21 : decode cX1_write 21 = .ok (.getfield 21, 3) := by decide +kernel
theorem dX1_write_24 : decode cX1_write 24 = .ok (.istore_n 3, 1) := by decide +kernel
theorem dX1_write_25 : decode cX1_write 25 = .ok (.aload_n 0, 1) := by decide +kernel
theorem dX1_write_26 : decode cX1_write 26 = .ok (.aload_n 1, 1) := by decide +kernel
theorem dX1_write_27 : decode cX1_write 27 = .ok (.invokevirtual 39, 3) := by decide +kernel
theorem dX1_write_30 : decode cX1_write 30 = .ok (.iconst 0, 1) := by decide +kernel
theorem dX1_write_31 : decode cX1_write 31 = .ok (.istore 4, 2) := by decide +kernel
theorem dX1_write_33 : decode cX1_write 33 = .ok (.iload 4, 2) := by decide +kernel
theorem dX1_write_35 : decode cX1_write 35 = .ok (.iconst 4, 1) := by decide +kernel
theorem dX1_write_36 : decode cX1_write 36 = .ok (.if_icmp .ge 20, 3) := by decide +kernel
theorem dX1_write_39 : decode cX1_write 39 = .ok (.aload_n 0, 1) := by decide +kernel
theorem dX1_write_40 : decode cX1_write 40 = .ok (.aload_n 1, 1) := by decide +kernel
theorem dX1_write_41 : decode cX1_write 41 = .ok (.iload_n 2, 1) := by decide +kernel
theorem dX1_write_42 : decode cX1_write 42 = .ok (.iconst 4, 1) := by decide +kernel
theorem dX1_write_43 : decode cX1_write 43 = .ok (.imul, 1) := by decide +kernel
theorem dX1_write_44 : decode cX1_write 44 = .ok (.iload 4, 2) := by decide +kernel
theorem dX1_write_46 : decode cX1_write 46 = .ok (.iadd, 1) := by decide +kernel
theorem dX1_write_47 : decode cX1_write 47 = .ok (.invokevirtual 43, 3) := by decide +kernel
theorem dX1_write_50 : decode cX1_write 50 = .ok (.iinc 4 1, 3) := by decide +kernel
theorem dX1_write_53 : decode cX1_write 53 = .ok (.goto (-20), 3) := by decide +kernel
theorem dX1_write_56 : decode cX1_write 56 = .ok (.aload_n 1, 1) := by decide +kernel
theorem dX1_write_57 : decode cX1_write 57 = .ok (.getfield 47, 3) := by decide +kernel
theorem dX1_write_60 : decode cX1_write 60 = .ok (.iload_n 2, 1) := by decide +kernel
theorem dX1_write_61 : decode cX1_write 61 = .ok (.aload_n 0, 1) := by decide +kernel
theorem dX1_write_62 : decode cX1_write 62 = .ok (.getfield 21, 3) := by decide +kernel
theorem dX1_write_65 : decode cX1_write 65 = .ok (.iload_n 3, 1) := by decide +kernel
theorem dX1_write_66 : decode cX1_write 66 = .ok (.isub, 1) := by decide +kernel
theorem dX1_write_67 : decode cX1_write 67 = .ok (.iastore, 1) := by decide +kernel
theorem dX1_write_68 : decode cX1_write 68 = .ok (.aload_n 0, 1) := by decide +kernel
theorem dX1_write_69 : decode cX1_write 69 = .ok (.iload_n 3, 1) := by decide +kernel
theorem dX1_write_70 : decode cX1_write 70 = .ok (.aload_n 1, 1) := by decide +kernel
theorem dX1_write_71 : decode cX1_write 71 = .ok (.iload_n 2, 1) := by decide +kernel
theorem dX1_write_72 : decode cX1_write 72 = .ok (.invokevirtual 52, 3) := by decide +kernel
theorem dX1_write_75 : decode cX1_write 75 = .ok (.bipush 8, 2) := by decide +kernel
theorem dX1_write_77 : decode cX1_write 77 = .ok (.imul, 1) := by decide +kernel
theorem dX1_write_78 : decode cX1_write 78 = .ok (.iadd, 1) := by decide +kernel
theorem dX1_write_79 : decode cX1_write 79 = .ok (.putfield 21, 3) := by decide +kernel
theorem dX1_write_82 : decode cX1_write 82 = .ok (.iinc 2 1, 3) := by decide +kernel
theorem dX1_write_85 : decode cX1_write 85 = .ok (.goto (-70), 3) := by decide +kernel
theorem dX1_write_88 : decode cX1_write 88 = .ok (.return_, 1) := by decide +kernel
set_option maxRecDepth 20000 in
theorem ggX1_startBand_J7_fill_53178 : GoodIn wsX1_startBand wsJ7_fill_53178 := goodIn_r _ [10] (by decide +kernel) (by decide +kernel)
set_option maxRecDepth 20000 in
theorem gX1_startBand_J7_fill_53178 : GoodIn wsX1_startBand (va_wsS RX1 35 yJ7_fill_53178 wsJ7_fill_53178) := goodIn_app (goodIn_of _ (by decide +kernel)) ggX1_startBand_J7_fill_53178
set_option maxRecDepth 20000 in
theorem ggX1_startBand_X1_put : GoodIn wsX1_startBand wsX1_put := goodIn_r _ [15, 16, 17, 18, 19, 20, 21] (by decide +kernel) (by decide +kernel)
set_option maxRecDepth 20000 in
theorem gX1_startBand_X1_put : GoodIn wsX1_startBand (wsV RX1 59 RX1 yX1_put wsX1_put) := goodIn_app (goodIn_of _ (by decide +kernel)) ggX1_startBand_X1_put
theorem dX1_startBand_0 : decode cX1_startBand 0 = .ok (.iconst 0, 1) := by decide +kernel
theorem dX1_startBand_1 : decode cX1_startBand 1 = .ok (.istore_n 2, 1) := by decide +kernel
theorem dX1_startBand_2 : decode cX1_startBand 2 = .ok (.iload_n 2, 1) := by decide +kernel
theorem dX1_startBand_3 : decode cX1_startBand 3 = .ok (.iconst 5, 1) := by decide +kernel
theorem dX1_startBand_4 : decode cX1_startBand 4 = .ok (.if_icmp .ge 16, 3) := by decide +kernel
theorem dX1_startBand_7 : decode cX1_startBand 7 = .ok (.aload_n 0, 1) := by decide +kernel
theorem dX1_startBand_8 : decode cX1_startBand 8 = .ok (.getfield 15, 3) := by decide +kernel
theorem dX1_startBand_11 : decode cX1_startBand 11 = .ok (.iload_n 2, 1) := by decide +kernel
theorem dX1_startBand_12 : decode cX1_startBand 12 = .ok (.iload_n 2, 1) := by decide +kernel
theorem dX1_startBand_13 : decode cX1_startBand 13 = .ok (.iastore, 1) := by decide +kernel
theorem dX1_startBand_14 : decode cX1_startBand 14 = .ok (.iinc 2 1, 3) := by decide +kernel
theorem dX1_startBand_17 : decode cX1_startBand 17 = .ok (.goto (-15), 3) := by decide +kernel
theorem dX1_startBand_20 : decode cX1_startBand 20 = .ok (.aload_n 0, 1) := by decide +kernel
theorem dX1_startBand_21 : decode cX1_startBand 21 = .ok (.getfield 18, 3) := by decide +kernel
theorem dX1_startBand_24 : decode cX1_startBand 24 = .ok (.iconst 4, 1) := by decide +kernel
theorem dX1_startBand_25 : decode cX1_startBand 25 = .ok (.invokestatic 35, 3) := by decide +kernel
theorem dX1_startBand_28 : decode cX1_startBand 28 = .ok (.aload_n 0, 1) := by decide +kernel
theorem dX1_startBand_29 : decode cX1_startBand 29 = .ok (.aload_n 1, 1) := by decide +kernel
theorem dX1_startBand_30 : decode cX1_startBand 30 = .ok (.getfield 56, 3) := by decide +kernel
theorem dX1_startBand_33 : decode cX1_startBand 33 = .ok (.iconst 5, 1) := by decide +kernel
theorem dX1_startBand_34 : decode cX1_startBand 34 = .ok (.invokevirtual 59, 3) := by decide +kernel
theorem dX1_startBand_37 : decode cX1_startBand 37 = .ok (.aload_n 0, 1) := by decide +kernel
theorem dX1_startBand_38 : decode cX1_startBand 38 = .ok (.aload_n 1, 1) := by decide +kernel
theorem dX1_startBand_39 : decode cX1_startBand 39 = .ok (.getfield 63, 3) := by decide +kernel
theorem dX1_startBand_42 : decode cX1_startBand 42 = .ok (.ifCond .eq 7, 3) := by decide +kernel
theorem dX1_startBand_45 : decode cX1_startBand 45 = .ok (.iconst 1, 1) := by decide +kernel
theorem dX1_startBand_46 : decode cX1_startBand 46 = .ok (.goto 4, 3) := by decide +kernel
theorem dX1_startBand_49 : decode cX1_startBand 49 = .ok (.iconst 0, 1) := by decide +kernel
theorem dX1_startBand_50 : decode cX1_startBand 50 = .ok (.iconst 1, 1) := by decide +kernel
theorem dX1_startBand_51 : decode cX1_startBand 51 = .ok (.invokevirtual 59, 3) := by decide +kernel
theorem dX1_startBand_54 : decode cX1_startBand 54 = .ok (.aload_n 0, 1) := by decide +kernel
theorem dX1_startBand_55 : decode cX1_startBand 55 = .ok (.aload_n 1, 1) := by decide +kernel
theorem dX1_startBand_56 : decode cX1_startBand 56 = .ok (.getfield 67, 3) := by decide +kernel
theorem dX1_startBand_59 : decode cX1_startBand 59 = .ok (.bipush 6, 2) := by decide +kernel
theorem dX1_startBand_61 : decode cX1_startBand 61 = .ok (.invokevirtual 59, 3) := by decide +kernel
theorem dX1_startBand_64 : decode cX1_startBand 64 = .ok (.aload_n 0, 1) := by decide +kernel
theorem dX1_startBand_65 : decode cX1_startBand 65 = .ok (.aload_n 1, 1) := by decide +kernel
theorem dX1_startBand_66 : decode cX1_startBand 66 = .ok (.getfield 70, 3) := by decide +kernel
theorem dX1_startBand_69 : decode cX1_startBand 69 = .ok (.ifCond .eq 7, 3) := by decide +kernel
theorem dX1_startBand_72 : decode cX1_startBand 72 = .ok (.iconst 1, 1) := by decide +kernel
theorem dX1_startBand_73 : decode cX1_startBand 73 = .ok (.goto 4, 3) := by decide +kernel
theorem dX1_startBand_76 : decode cX1_startBand 76 = .ok (.iconst 0, 1) := by decide +kernel
theorem dX1_startBand_77 : decode cX1_startBand 77 = .ok (.iconst 1, 1) := by decide +kernel
theorem dX1_startBand_78 : decode cX1_startBand 78 = .ok (.invokevirtual 59, 3) := by decide +kernel
theorem dX1_startBand_81 : decode cX1_startBand 81 = .ok (.return_, 1) := by decide +kernel
set_option maxRecDepth 20000 in
theorem ggX1_writeBlock_X1_writeKind : GoodIn wsX1_writeBlock wsX1_writeKind := goodIn_r _ [9, 10, 11, 12, 13, 8, 14, 15, 16, 17, 18, 19, 20, 64, 65, 66, 67] (by decide +kernel) (by decide +kernel)
set_option maxRecDepth 20000 in
theorem gX1_writeBlock_X1_writeKind : GoodIn wsX1_writeBlock (wsV RX1 76 RX1 yX1_writeKind wsX1_writeKind) := goodIn_app (goodIn_of _ (by decide +kernel)) ggX1_writeBlock_X1_writeKind
set_option maxRecDepth 20000 in
theorem ggX1_writeBlock_X2_expectedX : GoodIn wsX1_writeBlock wsX2_expectedX := goodIn_r _ [25, 26, 27, 28, 29, 50, 51, 52, 53, 54, 55, 56, 57, 58, 59, 60, 61, 62, 63] (by decide +kernel) (by decide +kernel)
set_option maxRecDepth 20000 in
theorem gX1_writeBlock_X2_expectedX : GoodIn wsX1_writeBlock (wsV RX1 83 RX2 yX2_expectedX wsX2_expectedX) := goodIn_app (goodIn_of _ (by decide +kernel)) ggX1_writeBlock_X2_expectedX
set_option maxRecDepth 20000 in
theorem ggX1_writeBlock_X1_writeSigned : GoodIn wsX1_writeBlock wsX1_writeSigned := goodIn_r _ [33, 34, 28, 35, 15, 16, 17, 8, 18, 19, 20, 64, 65, 66, 67] (by decide +kernel) (by decide +kernel)
set_option maxRecDepth 20000 in
theorem gX1_writeBlock_X1_writeSigned : GoodIn wsX1_writeBlock (wsV RX1 86 RX1 yX1_writeSigned wsX1_writeSigned) := goodIn_app (goodIn_of _ (by decide +kernel)) ggX1_writeBlock_X1_writeSigned
set_option maxRecDepth 20000 in
theorem ggX1_writeBlock_X2_expectedY : GoodIn wsX1_writeBlock wsX2_expectedY := goodIn_r _ [39, 40, 27, 28, 29, 50, 51, 52, 53, 54, 55, 56, 57, 58, 59, 60, 61, 62, 63] (by decide +kernel) (by decide +kernel)
set_option maxRecDepth 20000 in
theorem gX1_writeBlock_X2_expectedY : GoodIn wsX1_writeBlock (wsV RX1 92 RX2 yX2_expectedY wsX2_expectedY) := goodIn_app (goodIn_of _ (by decide +kernel)) ggX1_writeBlock_X2_expectedY
set_option maxRecDepth 20000 in
theorem ggX1_writeBlock_X1_writeLevels : GoodIn wsX1_writeBlock wsX1_writeLevels := goodIn_r _ [44, 45, 46, 47, 8, 48, 49, 15, 16, 17, 18, 19, 20, 11, 12, 13, 14, 34, 28, 35, 64, 65, 66, 67] (by decide +kernel) (by decide +kernel)
set_option maxRecDepth 20000 in
theorem gX1_writeBlock_X1_writeLevels : GoodIn wsX1_writeBlock (wsV RX1 98 RX1 yX1_writeLevels wsX1_writeLevels) := goodIn_app (goodIn_of _ (by decide +kernel)) ggX1_writeBlock_X1_writeLevels
theorem dX1_writeBlock_0 : decode cX1_writeBlock 0 = .ok (.aload_n 1, 1) := by decide +kernel
theorem dX1_writeBlock_1 : decode cX1_writeBlock 1 = .ok (.getfield 73, 3) := by decide +kernel
theorem dX1_writeBlock_4 : decode cX1_writeBlock 4 = .ok (.iload_n 2, 1) := by decide +kernel
theorem dX1_writeBlock_5 : decode cX1_writeBlock 5 = .ok (.iaload, 1) := by decide +kernel
theorem dX1_writeBlock_6 : decode cX1_writeBlock 6 = .ok (.istore_n 3, 1) := by decide +kernel
theorem dX1_writeBlock_7 : decode cX1_writeBlock 7 = .ok (.aload_n 0, 1) := by decide +kernel
theorem dX1_writeBlock_8 : decode cX1_writeBlock 8 = .ok (.iload_n 3, 1) := by decide +kernel
theorem dX1_writeBlock_9 : decode cX1_writeBlock 9 = .ok (.invokevirtual 76, 3) := by decide +kernel
theorem dX1_writeBlock_12 : decode cX1_writeBlock 12 = .ok (.iload_n 3, 1) := by decide +kernel
theorem dX1_writeBlock_13 : decode cX1_writeBlock 13 = .ok (.iconst 1, 1) := by decide +kernel
theorem dX1_writeBlock_14 : decode cX1_writeBlock 14 = .ok (.if_icmp .ne 35, 3) := by decide +kernel
theorem dX1_writeBlock_17 : decode cX1_writeBlock 17 = .ok (.aload_n 0, 1) := by decide +kernel
theorem dX1_writeBlock_18 : decode cX1_writeBlock 18 = .ok (.aload_n 1, 1) := by decide +kernel
theorem dX1_writeBlock_19 : decode cX1_writeBlock 19 = .ok (.getfield 80, 3) := by decide +kernel
theorem dX1_writeBlock_22 : decode cX1_writeBlock 22 = .ok (.iload_n 2, 1) := by decide +kernel
theorem dX1_writeBlock_23 : decode cX1_writeBlock 23 = .ok (.iaload, 1) := by decide +kernel
theorem dX1_writeBlock_24 : decode cX1_writeBlock 24 = .ok (.aload_n 1, 1) := by decide +kernel
theorem dX1_writeBlock_25 : decode cX1_writeBlock 25 = .ok (.iload_n 2, 1) := by decide +kernel
theorem dX1_writeBlock_26 : decode cX1_writeBlock 26 = .ok (.invokevirtual 83, 3) := by decide +kernel
theorem dX1_writeBlock_29 : decode cX1_writeBlock 29 = .ok (.isub, 1) := by decide +kernel
theorem dX1_writeBlock_30 : decode cX1_writeBlock 30 = .ok (.invokevirtual 86, 3) := by decide +kernel
theorem dX1_writeBlock_33 : decode cX1_writeBlock 33 = .ok (.aload_n 0, 1) := by decide +kernel
theorem dX1_writeBlock_34 : decode cX1_writeBlock 34 = .ok (.aload_n 1, 1) := by decide +kernel
theorem dX1_writeBlock_35 : decode cX1_writeBlock 35 = .ok (.getfield 89, 3) := by decide +kernel
theorem dX1_writeBlock_38 : decode cX1_writeBlock 38 = .ok (.iload_n 2, 1) := by decide +kernel
theorem dX1_writeBlock_39 : decode cX1_writeBlock 39 = .ok (.iaload, 1) := by decide +kernel
theorem dX1_writeBlock_40 : decode cX1_writeBlock 40 = .ok (.aload_n 1, 1) := by decide +kernel
theorem dX1_writeBlock_41 : decode cX1_writeBlock 41 = .ok (.iload_n 2, 1) := by decide +kernel
theorem dX1_writeBlock_42 : decode cX1_writeBlock 42 = .ok (.invokevirtual 92, 3) := by decide +kernel
theorem dX1_writeBlock_45 : decode cX1_writeBlock 45 = .ok (.isub, 1) := by decide +kernel
theorem dX1_writeBlock_46 : decode cX1_writeBlock 46 = .ok (.invokevirtual 86, 3) := by decide +kernel
theorem dX1_writeBlock_49 : decode cX1_writeBlock 49 = .ok (.iload_n 3, 1) := by decide +kernel
theorem dX1_writeBlock_50 : decode cX1_writeBlock 50 = .ok (.ifCond .eq 36, 3) := by decide +kernel
theorem dX1_writeBlock_53 : decode cX1_writeBlock 53 = .ok (.iconst 0, 1) := by decide +kernel
theorem dX1_writeBlock_54 : decode cX1_writeBlock 54 = .ok (.istore 4, 2) := by decide +kernel
theorem dX1_writeBlock_56 : decode cX1_writeBlock 56 = .ok (.iload 4, 2) := by decide +kernel
theorem dX1_writeBlock_58 : decode cX1_writeBlock 58 = .ok (.iconst 4, 1) := by decide +kernel
theorem dX1_writeBlock_59 : decode cX1_writeBlock 59 = .ok (.if_icmp .ge 27, 3) := by decide +kernel
theorem dX1_writeBlock_62 : decode cX1_writeBlock 62 = .ok (.aload_n 0, 1) := by decide +kernel
theorem dX1_writeBlock_63 : decode cX1_writeBlock 63 = .ok (.aload_n 1, 1) := by decide +kernel
theorem dX1_writeBlock_64 : decode cX1_writeBlock 64 = .ok (.getfield 95, 3) := by decide +kernel
theorem dX1_writeBlock_67 : decode cX1_writeBlock 67 = .ok (.iload_n 2, 1) := by decide +kernel
theorem dX1_writeBlock_68 : decode cX1_writeBlock 68 = .ok (.bipush 64, 2) := by decide +kernel
theorem dX1_writeBlock_70 : decode cX1_writeBlock 70 = .ok (.imul, 1) := by decide +kernel
theorem dX1_writeBlock_71 : decode cX1_writeBlock 71 = .ok (.iload 4, 2) := by decide +kernel
theorem dX1_writeBlock_73 : decode cX1_writeBlock 73 = .ok (.bipush 16, 2) := by decide +kernel
theorem dX1_writeBlock_75 : decode cX1_writeBlock 75 = .ok (.imul, 1) := by decide +kernel
theorem dX1_writeBlock_76 : decode cX1_writeBlock 76 = .ok (.iadd, 1) := by decide +kernel
theorem dX1_writeBlock_77 : decode cX1_writeBlock 77 = .ok (.invokevirtual 98, 3) := by decide +kernel
theorem dX1_writeBlock_80 : decode cX1_writeBlock 80 = .ok (.iinc 4 1, 3) := by decide +kernel
theorem dX1_writeBlock_83 : decode cX1_writeBlock 83 = .ok (.goto (-27), 3) := by decide +kernel
theorem dX1_writeBlock_86 : decode cX1_writeBlock 86 = .ok (.return_, 1) := by decide +kernel
set_option maxRecDepth 20000 in
theorem ggX1_writeKind_X1_putOnes : GoodIn wsX1_writeKind wsX1_putOnes := goodIn_r _ [6, 7, 8, 9, 5, 10, 11, 12, 13, 14, 15, 16] (by decide +kernel) (by decide +kernel)
set_option maxRecDepth 20000 in
theorem gX1_writeKind_X1_putOnes : GoodIn wsX1_writeKind (wsV RX1 101 RX1 yX1_putOnes wsX1_putOnes) := goodIn_app (goodIn_of _ (by decide +kernel)) ggX1_writeKind_X1_putOnes
set_option maxRecDepth 20000 in
theorem ggX1_writeKind_X1_put : GoodIn wsX1_writeKind wsX1_put := goodIn_r _ [10, 11, 12, 13, 14, 15, 16] (by decide +kernel) (by decide +kernel)
set_option maxRecDepth 20000 in
theorem gX1_writeKind_X1_put : GoodIn wsX1_writeKind (wsV RX1 59 RX1 yX1_put wsX1_put) := goodIn_app (goodIn_of _ (by decide +kernel)) ggX1_writeKind_X1_put
theorem dX1_writeKind_0 : decode cX1_writeKind 0 = .ok (.iconst 0, 1) := by decide +kernel
theorem dX1_writeKind_1 : decode cX1_writeKind 1 = .ok (.istore_n 2, 1) := by decide +kernel
theorem dX1_writeKind_2 : decode cX1_writeKind 2 = .ok (.iload_n 2, 1) := by decide +kernel
theorem dX1_writeKind_3 : decode cX1_writeKind 3 = .ok (.iconst 4, 1) := by decide +kernel
theorem dX1_writeKind_4 : decode cX1_writeKind 4 = .ok (.if_icmp .ge 19, 3) := by decide +kernel
theorem dX1_writeKind_7 : decode cX1_writeKind 7 = .ok (.aload_n 0, 1) := by decide +kernel
theorem dX1_writeKind_8 : decode cX1_writeKind 8 = .ok (.getfield 15, 3) := by decide +kernel
theorem dX1_writeKind_11 : decode cX1_writeKind 11 = .ok (.iload_n 2, 1) := by decide +kernel
theorem dX1_writeKind_12 : decode cX1_writeKind 12 = .ok (.iaload, 1) := by decide +kernel
theorem dX1_writeKind_13 : decode cX1_writeKind 13 = .ok (.iload_n 1, 1) := by decide +kernel
theorem dX1_writeKind_14 : decode cX1_writeKind 14 = .ok (.if_icmp .eq 9, 3) := by decide +kernel
theorem dX1_writeKind_17 : decode cX1_writeKind 17 = .ok (.iinc 2 1, 3) := by decide +kernel
theorem dX1_writeKind_20 : decode cX1_writeKind 20 = .ok (.goto (-18), 3) := by decide +kernel
theorem dX1_writeKind_23 : decode cX1_writeKind 23 = .ok (.iload_n 2, 1) := by decide +kernel
theorem dX1_writeKind_24 : decode cX1_writeKind 24 = .ok (.istore_n 3, 1) := by decide +kernel
theorem dX1_writeKind_25 : decode cX1_writeKind 25 = .ok (.iload_n 3, 1) := by decide +kernel
theorem dX1_writeKind_26 : decode cX1_writeKind 26 = .ok (.ifCond .le 23, 3) := by decide +kernel
theorem dX1_writeKind_29 : decode cX1_writeKind 29 = .ok (.aload_n 0, 1) := by decide +kernel
theorem dX1_writeKind_30 : decode cX1_writeKind 30 = .ok (.getfield 15, 3) := by decide +kernel
theorem dX1_writeKind_33 : decode cX1_writeKind 33 = .ok (.iload_n 3, 1) := by decide +kernel
theorem dX1_writeKind_34 : decode cX1_writeKind 34 = .ok (.aload_n 0, 1) := by decide +kernel
theorem dX1_writeKind_35 : decode cX1_writeKind 35 = .ok (.getfield 15, 3) := by decide +kernel
theorem dX1_writeKind_38 : decode cX1_writeKind 38 = .ok (.iload_n 3, 1) := by decide +kernel
theorem dX1_writeKind_39 : decode cX1_writeKind 39 = .ok (.iconst 1, 1) := by decide +kernel
theorem dX1_writeKind_40 : decode cX1_writeKind 40 = .ok (.isub, 1) := by decide +kernel
theorem dX1_writeKind_41 : decode cX1_writeKind 41 = .ok (.iaload, 1) := by decide +kernel
theorem dX1_writeKind_42 : decode cX1_writeKind 42 = .ok (.iastore, 1) := by decide +kernel
theorem dX1_writeKind_43 : decode cX1_writeKind 43 = .ok (.iinc 3 (-1), 3) := by decide +kernel
theorem dX1_writeKind_46 : decode cX1_writeKind 46 = .ok (.goto (-21), 3) := by decide +kernel
theorem dX1_writeKind_49 : decode cX1_writeKind 49 = .ok (.aload_n 0, 1) := by decide +kernel
theorem dX1_writeKind_50 : decode cX1_writeKind 50 = .ok (.getfield 15, 3) := by decide +kernel
theorem dX1_writeKind_53 : decode cX1_writeKind 53 = .ok (.iconst 0, 1) := by decide +kernel
theorem dX1_writeKind_54 : decode cX1_writeKind 54 = .ok (.iload_n 1, 1) := by decide +kernel
theorem dX1_writeKind_55 : decode cX1_writeKind 55 = .ok (.iastore, 1) := by decide +kernel
theorem dX1_writeKind_56 : decode cX1_writeKind 56 = .ok (.iload_n 2, 1) := by decide +kernel
theorem dX1_writeKind_57 : decode cX1_writeKind 57 = .ok (.iconst 4, 1) := by decide +kernel
theorem dX1_writeKind_58 : decode cX1_writeKind 58 = .ok (.if_icmp .ge 11, 3) := by decide +kernel
theorem dX1_writeKind_61 : decode cX1_writeKind 61 = .ok (.aload_n 0, 1) := by decide +kernel
theorem dX1_writeKind_62 : decode cX1_writeKind 62 = .ok (.iload_n 2, 1) := by decide +kernel
theorem dX1_writeKind_63 : decode cX1_writeKind 63 = .ok (.invokevirtual 101, 3) := by decide +kernel
theorem dX1_writeKind_66 : decode cX1_writeKind 66 = .ok (.goto 13, 3) := by decide +kernel
theorem dX1_writeKind_69 : decode cX1_writeKind 69 = .ok (.aload_n 0, 1) := by decide +kernel
theorem dX1_writeKind_70 : decode cX1_writeKind 70 = .ok (.iconst 1, 1) := by decide +kernel
theorem dX1_writeKind_71 : decode cX1_writeKind 71 = .ok (.iload_n 2, 1) := by decide +kernel
theorem dX1_writeKind_72 : decode cX1_writeKind 72 = .ok (.ishl, 1) := by decide +kernel
theorem dX1_writeKind_73 : decode cX1_writeKind 73 = .ok (.iconst 1, 1) := by decide +kernel
theorem dX1_writeKind_74 : decode cX1_writeKind 74 = .ok (.isub, 1) := by decide +kernel
theorem dX1_writeKind_75 : decode cX1_writeKind 75 = .ok (.iload_n 2, 1) := by decide +kernel
theorem dX1_writeKind_76 : decode cX1_writeKind 76 = .ok (.invokevirtual 59, 3) := by decide +kernel
theorem dX1_writeKind_79 : decode cX1_writeKind 79 = .ok (.return_, 1) := by decide +kernel
set_option maxRecDepth 20000 in
theorem ggX1_writeSigned_X5_folded : GoodIn wsX1_writeSigned wsX5_folded := goodIn_r _ [3] (by decide +kernel) (by decide +kernel)
set_option maxRecDepth 20000 in
theorem gX1_writeSigned_X5_folded_n104 : GoodIn wsX1_writeSigned (wsX5_folded) := ggX1_writeSigned_X5_folded
set_option maxRecDepth 20000 in
theorem ggX1_writeSigned_X1_put : GoodIn wsX1_writeSigned wsX1_put := goodIn_r _ [8, 9, 10, 11, 12, 13, 14] (by decide +kernel) (by decide +kernel)
set_option maxRecDepth 20000 in
theorem gX1_writeSigned_X1_put : GoodIn wsX1_writeSigned (wsV RX1 59 RX1 yX1_put wsX1_put) := goodIn_app (goodIn_of _ (by decide +kernel)) ggX1_writeSigned_X1_put
theorem dX1_writeSigned_0 : decode cX1_writeSigned 0 = .ok (.iload_n 1, 1) := by decide +kernel
theorem dX1_writeSigned_1 : decode cX1_writeSigned 1 = .ok (.invokestatic 104, 3) := by decide +kernel
theorem dX1_writeSigned_4 : decode cX1_writeSigned 4 = .ok (.iconst 1, 1) := by decide +kernel
theorem dX1_writeSigned_5 : decode cX1_writeSigned 5 = .ok (.iadd, 1) := by decide +kernel
theorem dX1_writeSigned_6 : decode cX1_writeSigned 6 = .ok (.istore_n 2, 1) := by decide +kernel
theorem dX1_writeSigned_7 : decode cX1_writeSigned 7 = .ok (.iconst 1, 1) := by decide +kernel
theorem dX1_writeSigned_8 : decode cX1_writeSigned 8 = .ok (.istore_n 3, 1) := by decide +kernel
theorem dX1_writeSigned_9 : decode cX1_writeSigned 9 = .ok (.iload_n 3, 1) := by decide +kernel
theorem dX1_writeSigned_10 : decode cX1_writeSigned 10 = .ok (.bipush 16, 2) := by decide +kernel
theorem dX1_writeSigned_12 : decode cX1_writeSigned 12 = .ok (.if_icmp .ge 15, 3) := by decide +kernel
theorem dX1_writeSigned_15 : decode cX1_writeSigned 15 = .ok (.iload_n 2, 1) := by decide +kernel
theorem dX1_writeSigned_16 : decode cX1_writeSigned 16 = .ok (.iload_n 3, 1) := by decide +kernel
theorem dX1_writeSigned_17 : decode cX1_writeSigned 17 = .ok (.ishr, 1) := by decide +kernel
theorem dX1_writeSigned_18 : decode cX1_writeSigned 18 = .ok (.ifCond .le 9, 3) := by decide +kernel
theorem dX1_writeSigned_21 : decode cX1_writeSigned 21 = .ok (.iinc 3 1, 3) := by decide +kernel
theorem dX1_writeSigned_24 : decode cX1_writeSigned 24 = .ok (.goto (-15), 3) := by decide +kernel
theorem dX1_writeSigned_27 : decode cX1_writeSigned 27 = .ok (.aload_n 0, 1) := by decide +kernel
theorem dX1_writeSigned_28 : decode cX1_writeSigned 28 = .ok (.iload_n 2, 1) := by decide +kernel
theorem dX1_writeSigned_29 : decode cX1_writeSigned 29 = .ok (.iconst 2, 1) := by decide +kernel
theorem dX1_writeSigned_30 : decode cX1_writeSigned 30 = .ok (.iload_n 3, 1) := by decide +kernel
theorem dX1_writeSigned_31 : decode cX1_writeSigned 31 = .ok (.imul, 1) := by decide +kernel
theorem dX1_writeSigned_32 : decode cX1_writeSigned 32 = .ok (.iconst 1, 1) := by decide +kernel
theorem dX1_writeSigned_33 : decode cX1_writeSigned 33 = .ok (.isub, 1) := by decide +kernel
theorem dX1_writeSigned_34 : decode cX1_writeSigned 34 = .ok (.invokevirtual 59, 3) := by decide +kernel
theorem dX1_writeSigned_37 : decode cX1_writeSigned 37 = .ok (.return_, 1) := by decide +kernel
set_option maxRecDepth 20000 in
theorem ggX1_writeLevels_X1_writeNumber : GoodIn wsX1_writeLevels wsX1_writeNumber := goodIn_r _ [5, 6, 7, 8, 9, 4, 10, 11, 12, 13, 14, 15, 16, 20, 21, 22, 23] (by decide +kernel) (by decide +kernel)
set_option maxRecDepth 20000 in
theorem gX1_writeLevels_X1_writeNumber : GoodIn wsX1_writeLevels (wsV RX1 107 RX1 yX1_writeNumber wsX1_writeNumber) := goodIn_app (goodIn_of _ (by decide +kernel)) ggX1_writeLevels_X1_writeNumber
set_option maxRecDepth 20000 in
theorem ggX1_writeLevels_X5_folded : GoodIn wsX1_writeLevels wsX5_folded := goodIn_r _ [19] (by decide +kernel) (by decide +kernel)
set_option maxRecDepth 20000 in
theorem gX1_writeLevels_X5_folded_n104 : GoodIn wsX1_writeLevels (wsX5_folded) := ggX1_writeLevels_X5_folded
theorem dX1_writeLevels_0 : decode cX1_writeLevels 0 = .ok (.bipush 16, 2) := by decide +kernel
theorem dX1_writeLevels_2 : decode cX1_writeLevels 2 = .ok (.istore_n 3, 1) := by decide +kernel
theorem dX1_writeLevels_3 : decode cX1_writeLevels 3 = .ok (.iload_n 3, 1) := by decide +kernel
theorem dX1_writeLevels_4 : decode cX1_writeLevels 4 = .ok (.ifCond .le 19, 3) := by decide +kernel
theorem dX1_writeLevels_7 : decode cX1_writeLevels 7 = .ok (.aload_n 1, 1) := by decide +kernel
theorem dX1_writeLevels_8 : decode cX1_writeLevels 8 = .ok (.iload_n 2, 1) := by decide +kernel
theorem dX1_writeLevels_9 : decode cX1_writeLevels 9 = .ok (.iload_n 3, 1) := by decide +kernel
theorem dX1_writeLevels_10 : decode cX1_writeLevels 10 = .ok (.iadd, 1) := by decide +kernel
theorem dX1_writeLevels_11 : decode cX1_writeLevels 11 = .ok (.iconst 1, 1) := by decide +kernel
theorem dX1_writeLevels_12 : decode cX1_writeLevels 12 = .ok (.isub, 1) := by decide +kernel
theorem dX1_writeLevels_13 : decode cX1_writeLevels 13 = .ok (.iaload, 1) := by decide +kernel
theorem dX1_writeLevels_14 : decode cX1_writeLevels 14 = .ok (.ifCond .ne 9, 3) := by decide +kernel
theorem dX1_writeLevels_17 : decode cX1_writeLevels 17 = .ok (.iinc 3 (-1), 3) := by decide +kernel
theorem dX1_writeLevels_20 : decode cX1_writeLevels 20 = .ok (.goto (-17), 3) := by decide +kernel
theorem dX1_writeLevels_23 : decode cX1_writeLevels 23 = .ok (.aload_n 0, 1) := by decide +kernel
theorem dX1_writeLevels_24 : decode cX1_writeLevels 24 = .ok (.iload_n 3, 1) := by decide +kernel
theorem dX1_writeLevels_25 : decode cX1_writeLevels 25 = .ok (.iconst 0, 1) := by decide +kernel
theorem dX1_writeLevels_26 : decode cX1_writeLevels 26 = .ok (.invokevirtual 107, 3) := by decide +kernel
theorem dX1_writeLevels_29 : decode cX1_writeLevels 29 = .ok (.iconst 0, 1) := by decide +kernel
theorem dX1_writeLevels_30 : decode cX1_writeLevels 30 = .ok (.istore 4, 2) := by decide +kernel
theorem dX1_writeLevels_32 : decode cX1_writeLevels 32 = .ok (.iload 4, 2) := by decide +kernel
theorem dX1_writeLevels_34 : decode cX1_writeLevels 34 = .ok (.iload_n 3, 1) := by decide +kernel
theorem dX1_writeLevels_35 : decode cX1_writeLevels 35 = .ok (.if_icmp .ge 36, 3) := by decide +kernel
theorem dX1_writeLevels_38 : decode cX1_writeLevels 38 = .ok (.iload 4, 2) := by decide +kernel
theorem dX1_writeLevels_40 : decode cX1_writeLevels 40 = .ok (.ifCond .ne 7, 3) := by decide +kernel
theorem dX1_writeLevels_43 : decode cX1_writeLevels 43 = .ok (.iconst 2, 1) := by decide +kernel
theorem dX1_writeLevels_44 : decode cX1_writeLevels 44 = .ok (.goto 4, 3) := by decide +kernel
theorem dX1_writeLevels_47 : decode cX1_writeLevels 47 = .ok (.iconst 1, 1) := by decide +kernel
theorem dX1_writeLevels_48 : decode cX1_writeLevels 48 = .ok (.istore 5, 2) := by decide +kernel
theorem dX1_writeLevels_50 : decode cX1_writeLevels 50 = .ok (.aload_n 0, 1) := by decide +kernel
theorem dX1_writeLevels_51 : decode cX1_writeLevels 51 = .ok (.aload_n 1, 1) := by decide +kernel
theorem dX1_writeLevels_52 : decode cX1_writeLevels 52 = .ok (.iload_n 2, 1) := by decide +kernel
theorem dX1_writeLevels_53 : decode cX1_writeLevels 53 = .ok (.iload 4, 2) := by decide +kernel
theorem dX1_writeLevels_55 : decode cX1_writeLevels 55 = .ok (.iadd, 1) := by decide +kernel
theorem dX1_writeLevels_56 : decode cX1_writeLevels 56 = .ok (.iaload, 1) := by decide +kernel
theorem dX1_writeLevels_57 : decode cX1_writeLevels 57 = .ok (.invokestatic 104, 3) := by decide +kernel
theorem dX1_writeLevels_60 : decode cX1_writeLevels 60 = .ok (.iload 5, 2) := by decide +kernel
theorem dX1_writeLevels_62 : decode cX1_writeLevels 62 = .ok (.invokevirtual 107, 3) := by decide +kernel
theorem dX1_writeLevels_65 : decode cX1_writeLevels 65 = .ok (.iinc 4 1, 3) := by decide +kernel
theorem dX1_writeLevels_68 : decode cX1_writeLevels 68 = .ok (.goto (-36), 3) := by decide +kernel
theorem dX1_writeLevels_71 : decode cX1_writeLevels 71 = .ok (.return_, 1) := by decide +kernel
set_option maxRecDepth 20000 in
theorem ggX1_writeNumber_X1_put : GoodIn wsX1_writeNumber wsX1_put := goodIn_r _ [6, 7, 8, 13, 14, 15, 16] (by decide +kernel) (by decide +kernel)
set_option maxRecDepth 20000 in
theorem gX1_writeNumber_X1_put : GoodIn wsX1_writeNumber (wsV RX1 59 RX1 yX1_put wsX1_put) := goodIn_app (goodIn_of _ (by decide +kernel)) ggX1_writeNumber_X1_put
set_option maxRecDepth 20000 in
theorem ggX1_writeNumber_X1_putOnes : GoodIn wsX1_writeNumber wsX1_putOnes := goodIn_r _ [12, 2, 3, 4, 5, 6, 7, 8, 13, 14, 15, 16] (by decide +kernel) (by decide +kernel)
set_option maxRecDepth 20000 in
theorem gX1_writeNumber_X1_putOnes : GoodIn wsX1_writeNumber (wsV RX1 101 RX1 yX1_putOnes wsX1_putOnes) := goodIn_app (goodIn_of _ (by decide +kernel)) ggX1_writeNumber_X1_putOnes
theorem dX1_writeNumber_0 : decode cX1_writeNumber 0 = .ok (.iconst 0, 1) := by decide +kernel
theorem dX1_writeNumber_1 : decode cX1_writeNumber 1 = .ok (.istore_n 3, 1) := by decide +kernel
theorem dX1_writeNumber_2 : decode cX1_writeNumber 2 = .ok (.iload_n 3, 1) := by decide +kernel
theorem dX1_writeNumber_3 : decode cX1_writeNumber 3 = .ok (.bipush 12, 2) := by decide +kernel
theorem dX1_writeNumber_5 : decode cX1_writeNumber 5 = .ok (.if_icmp .ge 21, 3) := by decide +kernel
theorem dX1_writeNumber_8 : decode cX1_writeNumber 8 = .ok (.iconst 4, 1) := by decide +kernel
theorem dX1_writeNumber_9 : decode cX1_writeNumber 9 = .ok (.iload_n 3, 1) := by decide +kernel
theorem dX1_writeNumber_10 : decode cX1_writeNumber 10 = .ok (.ishl, 1) := by decide +kernel
theorem dX1_writeNumber_11 : decode cX1_writeNumber 11 = .ok (.aload_n 0, 1) := by decide +kernel
theorem dX1_writeNumber_12 : decode cX1_writeNumber 12 = .ok (.getfield 18, 3) := by decide +kernel
theorem dX1_writeNumber_15 : decode cX1_writeNumber 15 = .ok (.iload_n 2, 1) := by decide +kernel
theorem dX1_writeNumber_16 : decode cX1_writeNumber 16 = .ok (.iaload, 1) := by decide +kernel
theorem dX1_writeNumber_17 : decode cX1_writeNumber 17 = .ok (.if_icmp .ge 9, 3) := by decide +kernel
theorem dX1_writeNumber_20 : decode cX1_writeNumber 20 = .ok (.iinc 3 1, 3) := by decide +kernel
theorem dX1_writeNumber_23 : decode cX1_writeNumber 23 = .ok (.goto (-21), 3) := by decide +kernel
theorem dX1_writeNumber_26 : decode cX1_writeNumber 26 = .ok (.iload_n 1, 1) := by decide +kernel
theorem dX1_writeNumber_27 : decode cX1_writeNumber 27 = .ok (.iload_n 3, 1) := by decide +kernel
theorem dX1_writeNumber_28 : decode cX1_writeNumber 28 = .ok (.ishr, 1) := by decide +kernel
theorem dX1_writeNumber_29 : decode cX1_writeNumber 29 = .ok (.bipush 12, 2) := by decide +kernel
theorem dX1_writeNumber_31 : decode cX1_writeNumber 31 = .ok (.if_icmp .lt 22, 3) := by decide +kernel
theorem dX1_writeNumber_34 : decode cX1_writeNumber 34 = .ok (.aload_n 0, 1) := by decide +kernel
theorem dX1_writeNumber_35 : decode cX1_writeNumber 35 = .ok (.sipush 4095, 3) := by decide +kernel
theorem dX1_writeNumber_38 : decode cX1_writeNumber 38 = .ok (.bipush 12, 2) := by decide +kernel
theorem dX1_writeNumber_40 : decode cX1_writeNumber 40 = .ok (.invokevirtual 59, 3) := by decide +kernel
theorem dX1_writeNumber_43 : decode cX1_writeNumber 43 = .ok (.aload_n 0, 1) := by decide +kernel
theorem dX1_writeNumber_44 : decode cX1_writeNumber 44 = .ok (.iload_n 1, 1) := by decide +kernel
theorem dX1_writeNumber_45 : decode cX1_writeNumber 45 = .ok (.bipush 12, 2) := by decide +kernel
theorem dX1_writeNumber_47 : decode cX1_writeNumber 47 = .ok (.invokevirtual 59, 3) := by decide +kernel
theorem dX1_writeNumber_50 : decode cX1_writeNumber 50 = .ok (.goto 22, 3) := by decide +kernel
theorem dX1_writeNumber_53 : decode cX1_writeNumber 53 = .ok (.aload_n 0, 1) := by decide +kernel
theorem dX1_writeNumber_54 : decode cX1_writeNumber 54 = .ok (.iload_n 1, 1) := by decide +kernel
theorem dX1_writeNumber_55 : decode cX1_writeNumber 55 = .ok (.iload_n 3, 1) := by decide +kernel
theorem dX1_writeNumber_56 : decode cX1_writeNumber 56 = .ok (.ishr, 1) := by decide +kernel
theorem dX1_writeNumber_57 : decode cX1_writeNumber 57 = .ok (.invokevirtual 101, 3) := by decide +kernel
theorem dX1_writeNumber_60 : decode cX1_writeNumber 60 = .ok (.aload_n 0, 1) := by decide +kernel
theorem dX1_writeNumber_61 : decode cX1_writeNumber 61 = .ok (.iload_n 1, 1) := by decide +kernel
theorem dX1_writeNumber_62 : decode cX1_writeNumber 62 = .ok (.iconst 1, 1) := by decide +kernel
theorem dX1_writeNumber_63 : decode cX1_writeNumber 63 = .ok (.iload_n 3, 1) := by decide +kernel
theorem dX1_writeNumber_64 : decode cX1_writeNumber 64 = .ok (.ishl, 1) := by decide +kernel
theorem dX1_writeNumber_65 : decode cX1_writeNumber 65 = .ok (.iconst 1, 1) := by decide +kernel
theorem dX1_writeNumber_66 : decode cX1_writeNumber 66 = .ok (.isub, 1) := by decide +kernel
theorem dX1_writeNumber_67 : decode cX1_writeNumber 67 = .ok (.iand, 1) := by decide +kernel
theorem dX1_writeNumber_68 : decode cX1_writeNumber 68 = .ok (.iload_n 3, 1) := by decide +kernel
theorem dX1_writeNumber_69 : decode cX1_writeNumber 69 = .ok (.invokevirtual 59, 3) := by decide +kernel
theorem dX1_writeNumber_72 : decode cX1_writeNumber 72 = .ok (.aload_n 0, 1) := by decide +kernel
theorem dX1_writeNumber_73 : decode cX1_writeNumber 73 = .ok (.getfield 18, 3) := by decide +kernel
theorem dX1_writeNumber_76 : decode cX1_writeNumber 76 = .ok (.iload_n 2, 1) := by decide +kernel
theorem dX1_writeNumber_77 : decode cX1_writeNumber 77 = .ok (.dup2, 1) := by decide +kernel
theorem dX1_writeNumber_78 : decode cX1_writeNumber 78 = .ok (.iaload, 1) := by decide +kernel
theorem dX1_writeNumber_79 : decode cX1_writeNumber 79 = .ok (.iload_n 1, 1) := by decide +kernel
theorem dX1_writeNumber_80 : decode cX1_writeNumber 80 = .ok (.aload_n 0, 1) := by decide +kernel
theorem dX1_writeNumber_81 : decode cX1_writeNumber 81 = .ok (.getfield 18, 3) := by decide +kernel
theorem dX1_writeNumber_84 : decode cX1_writeNumber 84 = .ok (.iload_n 2, 1) := by decide +kernel
theorem dX1_writeNumber_85 : decode cX1_writeNumber 85 = .ok (.iaload, 1) := by decide +kernel
theorem dX1_writeNumber_86 : decode cX1_writeNumber 86 = .ok (.iconst 4, 1) := by decide +kernel
theorem dX1_writeNumber_87 : decode cX1_writeNumber 87 = .ok (.idiv, 1) := by decide +kernel
theorem dX1_writeNumber_88 : decode cX1_writeNumber 88 = .ok (.isub, 1) := by decide +kernel
theorem dX1_writeNumber_89 : decode cX1_writeNumber 89 = .ok (.iadd, 1) := by decide +kernel
theorem dX1_writeNumber_90 : decode cX1_writeNumber 90 = .ok (.iastore, 1) := by decide +kernel
theorem dX1_writeNumber_91 : decode cX1_writeNumber 91 = .ok (.return_, 1) := by decide +kernel
set_option maxRecDepth 20000 in
theorem ggX1_putOnes_X1_put : GoodIn wsX1_putOnes wsX1_put := goodIn_r _ [5, 6, 7, 8, 9, 10, 11] (by decide +kernel) (by decide +kernel)
set_option maxRecDepth 20000 in
theorem gX1_putOnes_X1_put : GoodIn wsX1_putOnes (wsV RX1 59 RX1 yX1_put wsX1_put) := goodIn_app (goodIn_of _ (by decide +kernel)) ggX1_putOnes_X1_put
theorem dX1_putOnes_0 : decode cX1_putOnes 0 = .ok (.aload_n 0, 1) := by decide +kernel
theorem dX1_putOnes_1 : decode cX1_putOnes 1 = .ok (.iconst 2, 1) := by decide +kernel
theorem dX1_putOnes_2 : decode cX1_putOnes 2 = .ok (.iload_n 1, 1) := by decide +kernel
theorem dX1_putOnes_3 : decode cX1_putOnes 3 = .ok (.ishl, 1) := by decide +kernel
theorem dX1_putOnes_4 : decode cX1_putOnes 4 = .ok (.iconst 2, 1) := by decide +kernel
theorem dX1_putOnes_5 : decode cX1_putOnes 5 = .ok (.isub, 1) := by decide +kernel
theorem dX1_putOnes_6 : decode cX1_putOnes 6 = .ok (.iload_n 1, 1) := by decide +kernel
theorem dX1_putOnes_7 : decode cX1_putOnes 7 = .ok (.iconst 1, 1) := by decide +kernel
theorem dX1_putOnes_8 : decode cX1_putOnes 8 = .ok (.iadd, 1) := by decide +kernel
theorem dX1_putOnes_9 : decode cX1_putOnes 9 = .ok (.invokevirtual 59, 3) := by decide +kernel
theorem dX1_putOnes_12 : decode cX1_putOnes 12 = .ok (.return_, 1) := by decide +kernel
theorem dX1_put_0 : decode cX1_put 0 = .ok (.iload_n 2, 1) := by decide +kernel
theorem dX1_put_1 : decode cX1_put 1 = .ok (.iconst 1, 1) := by decide +kernel
theorem dX1_put_2 : decode cX1_put 2 = .ok (.isub, 1) := by decide +kernel
theorem dX1_put_3 : decode cX1_put 3 = .ok (.istore_n 3, 1) := by decide +kernel
theorem dX1_put_4 : decode cX1_put 4 = .ok (.iload_n 3, 1) := by decide +kernel
theorem dX1_put_5 : decode cX1_put 5 = .ok (.ifCond .lt 64, 3) := by decide +kernel
theorem dX1_put_8 : decode cX1_put 8 = .ok (.aload_n 0, 1) := by decide +kernel
theorem dX1_put_9 : decode cX1_put 9 = .ok (.getfield 21, 3) := by decide +kernel
theorem dX1_put_12 : decode cX1_put 12 = .ok (.bipush 8, 2) := by decide +kernel
theorem dX1_put_14 : decode cX1_put 14 = .ok (.idiv, 1) := by decide +kernel
theorem dX1_put_15 : decode cX1_put 15 = .ok (.istore 4, 2) := by decide +kernel
theorem dX1_put_17 : decode cX1_put 17 = .ok (.iload 4, 2) := by decide +kernel
theorem dX1_put_19 : decode cX1_put 19 = .ok (.aload_n 0, 1) := by decide +kernel
theorem dX1_put_20 : decode cX1_put 20 = .ok (.getfield 11, 3) := by decide +kernel
theorem dX1_put_23 : decode cX1_put 23 = .ok (.arraylength, 1) := by decide +kernel
theorem dX1_put_24 : decode cX1_put 24 = .ok (.if_icmp .ge 29, 3) := by decide +kernel
theorem dX1_put_27 : decode cX1_put 27 = .ok (.aload_n 0, 1) := by decide +kernel
theorem dX1_put_28 : decode cX1_put 28 = .ok (.getfield 11, 3) := by decide +kernel
theorem dX1_put_31 : decode cX1_put 31 = .ok (.iload 4, 2) := by decide +kernel
theorem dX1_put_33 : decode cX1_put 33 = .ok (.dup2, 1) := by decide +kernel
theorem dX1_put_34 : decode cX1_put 34 = .ok (.iaload, 1) := by decide +kernel
theorem dX1_put_35 : decode cX1_put 35 = .ok (.iload_n 1, 1) := by decide +kernel
theorem dX1_put_36 : decode cX1_put 36 = .ok (.iload_n 3, 1) := by decide +kernel
theorem dX1_put_37 : decode cX1_put 37 = .ok (.ishr, 1) := by decide +kernel
theorem dX1_put_38 : decode cX1_put 38 = .ok (.iconst 1, 1) := by decide +kernel
theorem dX1_put_39 : decode cX1_put 39 = .ok (.iand, 1) := by decide +kernel
theorem dX1_put_40 : decode cX1_put 40 = .ok (.bipush 7, 2) := by decide +kernel
theorem dX1_put_42 : decode cX1_put 42 = .ok (.aload_n 0, 1) := by decide +kernel
theorem dX1_put_43 : decode cX1_put 43 = .ok (.getfield 21, 3) := by decide +kernel
theorem dX1_put_46 : decode cX1_put 46 = .ok (.bipush 8, 2) := by decide +kernel
theorem dX1_put_48 : decode cX1_put 48 = .ok (.irem, 1) := by decide +kernel
theorem dX1_put_49 : decode cX1_put 49 = .ok (.isub, 1) := by decide +kernel
theorem dX1_put_50 : decode cX1_put 50 = .ok (.ishl, 1) := by decide +kernel
theorem dX1_put_51 : decode cX1_put 51 = .ok (.ior, 1) := by decide +kernel
theorem dX1_put_52 : decode cX1_put 52 = .ok (.iastore, 1) := by decide +kernel
theorem dX1_put_53 : decode cX1_put 53 = .ok (.aload_n 0, 1) := by decide +kernel
theorem dX1_put_54 : decode cX1_put 54 = .ok (.dup, 1) := by decide +kernel
theorem dX1_put_55 : decode cX1_put 55 = .ok (.getfield 21, 3) := by decide +kernel
theorem dX1_put_58 : decode cX1_put 58 = .ok (.iconst 1, 1) := by decide +kernel
theorem dX1_put_59 : decode cX1_put 59 = .ok (.iadd, 1) := by decide +kernel
theorem dX1_put_60 : decode cX1_put 60 = .ok (.putfield 21, 3) := by decide +kernel
theorem dX1_put_63 : decode cX1_put 63 = .ok (.iinc 3 (-1), 3) := by decide +kernel
theorem dX1_put_66 : decode cX1_put 66 = .ok (.goto (-62), 3) := by decide +kernel
theorem dX1_put_69 : decode cX1_put 69 = .ok (.return_, 1) := by decide +kernel
theorem dX2_init_0 : decode cX2_init 0 = .ok (.aload_n 0, 1) := by decide +kernel
theorem dX2_init_1 : decode cX2_init 1 = .ok (.invokespecial 3, 3) := by decide +kernel
theorem dX2_init_4 : decode cX2_init 4 = .ok (.aload_n 0, 1) := by decide +kernel
theorem dX2_init_5 : decode cX2_init 5 = .ok (.bipush 12, 2) := by decide +kernel
theorem dX2_init_7 : decode cX2_init 7 = .ok (.newarray .int, 2) := by decide +kernel
theorem dX2_init_9 : decode cX2_init 9 = .ok (.putfield 9, 3) := by decide +kernel
theorem dX2_init_12 : decode cX2_init 12 = .ok (.aload_n 0, 1) := by decide +kernel
theorem dX2_init_13 : decode cX2_init 13 = .ok (.bipush 12, 2) := by decide +kernel
theorem dX2_init_15 : decode cX2_init 15 = .ok (.newarray .int, 2) := by decide +kernel
theorem dX2_init_17 : decode cX2_init 17 = .ok (.putfield 15, 3) := by decide +kernel
theorem dX2_init_20 : decode cX2_init 20 = .ok (.aload_n 0, 1) := by decide +kernel
theorem dX2_init_21 : decode cX2_init 21 = .ok (.bipush 12, 2) := by decide +kernel
theorem dX2_init_23 : decode cX2_init 23 = .ok (.newarray .int, 2) := by decide +kernel
theorem dX2_init_25 : decode cX2_init 25 = .ok (.putfield 18, 3) := by decide +kernel
theorem dX2_init_28 : decode cX2_init 28 = .ok (.aload_n 0, 1) := by decide +kernel
theorem dX2_init_29 : decode cX2_init 29 = .ok (.bipush 12, 2) := by decide +kernel
theorem dX2_init_31 : decode cX2_init 31 = .ok (.newarray .int, 2) := by decide +kernel
theorem dX2_init_33 : decode cX2_init 33 = .ok (.putfield 21, 3) := by decide +kernel
theorem dX2_init_36 : decode cX2_init 36 = .ok (.aload_n 0, 1) := by decide +kernel
theorem dX2_init_37 : decode cX2_init 37 = .ok (.sipush 768, 3) := by decide +kernel
theorem dX2_init_40 : decode cX2_init 40 = .ok (.newarray .int, 2) := by decide +kernel
theorem dX2_init_42 : decode cX2_init 42 = .ok (.putfield 24, 3) := by decide +kernel
theorem dX2_init_45 : decode cX2_init 45 = .ok (.aload_n 0, 1) := by decide +kernel
theorem dX2_init_46 : decode cX2_init 46 = .ok (.sipush 768, 3) := by decide +kernel
theorem dX2_init_49 : decode cX2_init 49 = .ok (.newarray .int, 2) := by decide +kernel
theorem dX2_init_51 : decode cX2_init 51 = .ok (.putfield 27, 3) := by decide +kernel
theorem dX2_init_54 : decode cX2_init 54 = .ok (.aload_n 0, 1) := by decide +kernel
theorem dX2_init_55 : decode cX2_init 55 = .ok (.iconst 3, 1) := by decide +kernel
theorem dX2_init_56 : decode cX2_init 56 = .ok (.newarray .int, 2) := by decide +kernel
theorem dX2_init_58 : decode cX2_init 58 = .ok (.putfield 30, 3) := by decide +kernel
theorem dX2_init_61 : decode cX2_init 61 = .ok (.aload_n 0, 1) := by decide +kernel
theorem dX2_init_62 : decode cX2_init 62 = .ok (.iconst 3, 1) := by decide +kernel
theorem dX2_init_63 : decode cX2_init 63 = .ok (.newarray .boolean, 2) := by decide +kernel
theorem dX2_init_65 : decode cX2_init 65 = .ok (.putfield 33, 3) := by decide +kernel
theorem dX2_init_68 : decode cX2_init 68 = .ok (.aload_n 0, 1) := by decide +kernel
theorem dX2_init_69 : decode cX2_init 69 = .ok (.iconst 0, 1) := by decide +kernel
theorem dX2_init_70 : decode cX2_init 70 = .ok (.newarray .int, 2) := by decide +kernel
theorem dX2_init_72 : decode cX2_init 72 = .ok (.putfield 37, 3) := by decide +kernel
theorem dX2_init_75 : decode cX2_init 75 = .ok (.aload_n 0, 1) := by decide +kernel
theorem dX2_init_76 : decode cX2_init 76 = .ok (.iconst 0, 1) := by decide +kernel
theorem dX2_init_77 : decode cX2_init 77 = .ok (.putfield 40, 3) := by decide +kernel
theorem dX2_init_80 : decode cX2_init 80 = .ok (.aload_n 0, 1) := by decide +kernel
theorem dX2_init_81 : decode cX2_init 81 = .ok (.iconst 1, 1) := by decide +kernel
theorem dX2_init_82 : decode cX2_init 82 = .ok (.putfield 44, 3) := by decide +kernel
theorem dX2_init_85 : decode cX2_init 85 = .ok (.aload_n 0, 1) := by decide +kernel
theorem dX2_init_86 : decode cX2_init 86 = .ok (.iconst 0, 1) := by decide +kernel
theorem dX2_init_87 : decode cX2_init 87 = .ok (.putfield 47, 3) := by decide +kernel
theorem dX2_init_90 : decode cX2_init 90 = .ok (.aload_n 0, 1) := by decide +kernel
theorem dX2_init_91 : decode cX2_init 91 = .ok (.iconst 1, 1) := by decide +kernel
theorem dX2_init_92 : decode cX2_init 92 = .ok (.putfield 50, 3) := by decide +kernel
theorem dX2_init_95 : decode cX2_init 95 = .ok (.aload_n 0, 1) := by decide +kernel
theorem dX2_init_96 : decode cX2_init 96 = .ok (.iconst 1, 1) := by decide +kernel
theorem dX2_init_97 : decode cX2_init 97 = .ok (.putfield 54, 3) := by decide +kernel
theorem dX2_init_100 : decode cX2_init 100 = .ok (.return_, 1) := by decide +kernel
theorem dX2_bytesIn_0 : decode cX2_bytesIn 0 = .ok (.aload_n 0, 1) := by decide +kernel
theorem dX2_bytesIn_1 : decode cX2_bytesIn 1 = .ok (.getfield 30, 3) := by decide +kernel
theorem dX2_bytesIn_4 : decode cX2_bytesIn 4 = .ok (.iload_n 1, 1) := by decide +kernel
theorem dX2_bytesIn_5 : decode cX2_bytesIn 5 = .ok (.iaload, 1) := by decide +kernel
theorem dX2_bytesIn_6 : decode cX2_bytesIn 6 = .ok (.bipush 7, 2) := by decide +kernel
theorem dX2_bytesIn_8 : decode cX2_bytesIn 8 = .ok (.iadd, 1) := by decide +kernel
theorem dX2_bytesIn_9 : decode cX2_bytesIn 9 = .ok (.bipush 8, 2) := by decide +kernel
theorem dX2_bytesIn_11 : decode cX2_bytesIn 11 = .ok (.idiv, 1) := by decide +kernel
theorem dX2_bytesIn_12 : decode cX2_bytesIn 12 = .ok (.ireturn, 1) := by decide +kernel
set_option maxRecDepth 20000 in
theorem ggX2_firstByteOf_X2_bytesIn : GoodIn wsX2_firstByteOf wsX2_bytesIn := goodIn_r _ [5, 6, 7, 8, 9, 10, 11, 12, 13, 14, 15, 16, 17, 18, 19, 20] (by decide +kernel) (by decide +kernel)
set_option maxRecDepth 20000 in
theorem gX2_firstByteOf_X2_bytesIn : GoodIn wsX2_firstByteOf (wsV RX2 57 RX2 yX2_bytesIn wsX2_bytesIn) := goodIn_app (goodIn_of _ (by decide +kernel)) ggX2_firstByteOf_X2_bytesIn
theorem dX2_firstByteOf_0 : decode cX2_firstByteOf 0 = .ok (.iconst 0, 1) := by decide +kernel
theorem dX2_firstByteOf_1 : decode cX2_firstByteOf 1 = .ok (.istore_n 2, 1) := by decide +kernel
theorem dX2_firstByteOf_2 : decode cX2_firstByteOf 2 = .ok (.iconst 0, 1) := by decide +kernel
theorem dX2_firstByteOf_3 : decode cX2_firstByteOf 3 = .ok (.istore_n 3, 1) := by decide +kernel
theorem dX2_firstByteOf_4 : decode cX2_firstByteOf 4 = .ok (.iload_n 3, 1) := by decide +kernel
theorem dX2_firstByteOf_5 : decode cX2_firstByteOf 5 = .ok (.iload_n 1, 1) := by decide +kernel
theorem dX2_firstByteOf_6 : decode cX2_firstByteOf 6 = .ok (.if_icmp .ge 17, 3) := by decide +kernel
theorem dX2_firstByteOf_9 : decode cX2_firstByteOf 9 = .ok (.iload_n 2, 1) := by decide +kernel
theorem dX2_firstByteOf_10 : decode cX2_firstByteOf 10 = .ok (.aload_n 0, 1) := by decide +kernel
theorem dX2_firstByteOf_11 : decode cX2_firstByteOf 11 = .ok (.iload_n 3, 1) := by decide +kernel
theorem dX2_firstByteOf_12 : decode cX2_firstByteOf 12 = .ok (.invokevirtual 57, 3) := by decide +kernel
theorem dX2_firstByteOf_15 : decode cX2_firstByteOf 15 = .ok (.iadd, 1) := by decide +kernel
theorem dX2_firstByteOf_16 : decode cX2_firstByteOf 16 = .ok (.istore_n 2, 1) := by decide +kernel
theorem dX2_firstByteOf_17 : decode cX2_firstByteOf 17 = .ok (.iinc 3 1, 3) := by decide +kernel
theorem dX2_firstByteOf_20 : decode cX2_firstByteOf 20 = .ok (.goto (-16), 3) := by decide +kernel
theorem dX2_firstByteOf_23 : decode cX2_firstByteOf 23 = .ok (.iload_n 2, 1) := by decide +kernel
theorem dX2_firstByteOf_24 : decode cX2_firstByteOf 24 = .ok (.ireturn, 1) := by decide +kernel
set_option maxRecDepth 20000 in
theorem ggX2_bytesInAll_X2_firstByteOf : GoodIn wsX2_bytesInAll wsX2_firstByteOf := goodIn_r _ [5, 6, 7, 8, 4, 9, 10, 11, 12, 13, 14, 15, 16, 17, 18, 19, 20, 21, 22, 23, 24] (by decide +kernel) (by decide +kernel)
set_option maxRecDepth 20000 in
theorem gX2_bytesInAll_X2_firstByteOf : GoodIn wsX2_bytesInAll (wsV RX2 61 RX2 yX2_firstByteOf wsX2_firstByteOf) := goodIn_app (goodIn_of _ (by decide +kernel)) ggX2_bytesInAll_X2_firstByteOf
theorem dX2_bytesInAll_0 : decode cX2_bytesInAll 0 = .ok (.aload_n 0, 1) := by decide +kernel
theorem dX2_bytesInAll_1 : decode cX2_bytesInAll 1 = .ok (.iconst 3, 1) := by decide +kernel
theorem dX2_bytesInAll_2 : decode cX2_bytesInAll 2 = .ok (.invokevirtual 61, 3) := by decide +kernel
theorem dX2_bytesInAll_5 : decode cX2_bytesInAll 5 = .ok (.ireturn, 1) := by decide +kernel
theorem dX2_levelsNotZero_0 : decode cX2_levelsNotZero 0 = .ok (.iconst 0, 1) := by decide +kernel
theorem dX2_levelsNotZero_1 : decode cX2_levelsNotZero 1 = .ok (.istore_n 2, 1) := by decide +kernel
theorem dX2_levelsNotZero_2 : decode cX2_levelsNotZero 2 = .ok (.iconst 0, 1) := by decide +kernel
theorem dX2_levelsNotZero_3 : decode cX2_levelsNotZero 3 = .ok (.istore_n 3, 1) := by decide +kernel
theorem dX2_levelsNotZero_4 : decode cX2_levelsNotZero 4 = .ok (.iload_n 3, 1) := by decide +kernel
theorem dX2_levelsNotZero_5 : decode cX2_levelsNotZero 5 = .ok (.bipush 64, 2) := by decide +kernel
theorem dX2_levelsNotZero_7 : decode cX2_levelsNotZero 7 = .ok (.if_icmp .ge 31, 3) := by decide +kernel
theorem dX2_levelsNotZero_10 : decode cX2_levelsNotZero 10 = .ok (.iload_n 2, 1) := by decide +kernel
theorem dX2_levelsNotZero_11 : decode cX2_levelsNotZero 11 = .ok (.aload_n 0, 1) := by decide +kernel
theorem dX2_levelsNotZero_12 : decode cX2_levelsNotZero 12 = .ok (.getfield 24, 3) := by decide +kernel
theorem dX2_levelsNotZero_15 : decode cX2_levelsNotZero 15 = .ok (.iload_n 1, 1) := by decide +kernel
theorem dX2_levelsNotZero_16 : decode cX2_levelsNotZero 16 = .ok (.bipush 64, 2) := by decide +kernel
theorem dX2_levelsNotZero_18 : decode cX2_levelsNotZero 18 = .ok (.imul, 1) := by decide +kernel
theorem dX2_levelsNotZero_19 : decode cX2_levelsNotZero 19 = .ok (.iload_n 3, 1) := by decide +kernel
theorem dX2_levelsNotZero_20 : decode cX2_levelsNotZero 20 = .ok (.iadd, 1) := by decide +kernel
theorem dX2_levelsNotZero_21 : decode cX2_levelsNotZero 21 = .ok (.iaload, 1) := by decide +kernel
theorem dX2_levelsNotZero_22 : decode cX2_levelsNotZero 22 = .ok (.ifCond .ne 7, 3) := by decide +kernel
theorem dX2_levelsNotZero_25 : decode cX2_levelsNotZero 25 = .ok (.iconst 0, 1) := by decide +kernel
theorem dX2_levelsNotZero_26 : decode cX2_levelsNotZero 26 = .ok (.goto 4, 3) := by decide +kernel
theorem dX2_levelsNotZero_29 : decode cX2_levelsNotZero 29 = .ok (.iconst 1, 1) := by decide +kernel
theorem dX2_levelsNotZero_30 : decode cX2_levelsNotZero 30 = .ok (.iadd, 1) := by decide +kernel
theorem dX2_levelsNotZero_31 : decode cX2_levelsNotZero 31 = .ok (.istore_n 2, 1) := by decide +kernel
theorem dX2_levelsNotZero_32 : decode cX2_levelsNotZero 32 = .ok (.iinc 3 1, 3) := by decide +kernel
theorem dX2_levelsNotZero_35 : decode cX2_levelsNotZero 35 = .ok (.goto (-31), 3) := by decide +kernel
theorem dX2_levelsNotZero_38 : decode cX2_levelsNotZero 38 = .ok (.iload_n 2, 1) := by decide +kernel
theorem dX2_levelsNotZero_39 : decode cX2_levelsNotZero 39 = .ok (.ireturn, 1) := by decide +kernel
theorem dX2_blocksOf_0 : decode cX2_blocksOf 0 = .ok (.iconst 0, 1) := by decide +kernel
theorem dX2_blocksOf_1 : decode cX2_blocksOf 1 = .ok (.istore_n 2, 1) := by decide +kernel
theorem dX2_blocksOf_2 : decode cX2_blocksOf 2 = .ok (.iconst 0, 1) := by decide +kernel
theorem dX2_blocksOf_3 : decode cX2_blocksOf 3 = .ok (.istore_n 3, 1) := by decide +kernel
theorem dX2_blocksOf_4 : decode cX2_blocksOf 4 = .ok (.iload_n 3, 1) := by decide +kernel
theorem dX2_blocksOf_5 : decode cX2_blocksOf 5 = .ok (.bipush 12, 2) := by decide +kernel
theorem dX2_blocksOf_7 : decode cX2_blocksOf 7 = .ok (.if_icmp .ge 27, 3) := by decide +kernel
theorem dX2_blocksOf_10 : decode cX2_blocksOf 10 = .ok (.iload_n 2, 1) := by decide +kernel
theorem dX2_blocksOf_11 : decode cX2_blocksOf 11 = .ok (.aload_n 0, 1) := by decide +kernel
theorem dX2_blocksOf_12 : decode cX2_blocksOf 12 = .ok (.getfield 9, 3) := by decide +kernel
theorem dX2_blocksOf_15 : decode cX2_blocksOf 15 = .ok (.iload_n 3, 1) := by decide +kernel
theorem dX2_blocksOf_16 : decode cX2_blocksOf 16 = .ok (.iaload, 1) := by decide +kernel
theorem dX2_blocksOf_17 : decode cX2_blocksOf 17 = .ok (.iload_n 1, 1) := by decide +kernel
theorem dX2_blocksOf_18 : decode cX2_blocksOf 18 = .ok (.if_icmp .ne 7, 3) := by decide +kernel
theorem dX2_blocksOf_21 : decode cX2_blocksOf 21 = .ok (.iconst 1, 1) := by decide +kernel
theorem dX2_blocksOf_22 : decode cX2_blocksOf 22 = .ok (.goto 4, 3) := by decide +kernel
theorem dX2_blocksOf_25 : decode cX2_blocksOf 25 = .ok (.iconst 0, 1) := by decide +kernel
theorem dX2_blocksOf_26 : decode cX2_blocksOf 26 = .ok (.iadd, 1) := by decide +kernel
theorem dX2_blocksOf_27 : decode cX2_blocksOf 27 = .ok (.istore_n 2, 1) := by decide +kernel
theorem dX2_blocksOf_28 : decode cX2_blocksOf 28 = .ok (.iinc 3 1, 3) := by decide +kernel
theorem dX2_blocksOf_31 : decode cX2_blocksOf 31 = .ok (.goto (-27), 3) := by decide +kernel
theorem dX2_blocksOf_34 : decode cX2_blocksOf 34 = .ok (.iload_n 2, 1) := by decide +kernel
theorem dX2_blocksOf_35 : decode cX2_blocksOf 35 = .ok (.ireturn, 1) := by decide +kernel
set_option maxRecDepth 20000 in
theorem ggX2_freshBlocks_X2_blocksOf : GoodIn wsX2_freshBlocks wsX2_blocksOf := goodIn_r _ [5, 6, 7, 8, 9, 10, 11, 12, 13, 14, 15, 16, 17, 18, 19, 20] (by decide +kernel) (by decide +kernel)
set_option maxRecDepth 20000 in
theorem gX2_freshBlocks_X2_blocksOf : GoodIn wsX2_freshBlocks (wsV RX2 64 RX2 yX2_blocksOf wsX2_blocksOf) := goodIn_app (goodIn_of _ (by decide +kernel)) ggX2_freshBlocks_X2_blocksOf
theorem dX2_freshBlocks_0 : decode cX2_freshBlocks 0 = .ok (.bipush 12, 2) := by decide +kernel
theorem dX2_freshBlocks_2 : decode cX2_freshBlocks 2 = .ok (.aload_n 0, 1) := by decide +kernel
theorem dX2_freshBlocks_3 : decode cX2_freshBlocks 3 = .ok (.iconst 0, 1) := by decide +kernel
theorem dX2_freshBlocks_4 : decode cX2_freshBlocks 4 = .ok (.invokevirtual 64, 3) := by decide +kernel
theorem dX2_freshBlocks_7 : decode cX2_freshBlocks 7 = .ok (.isub, 1) := by decide +kernel
theorem dX2_freshBlocks_8 : decode cX2_freshBlocks 8 = .ok (.aload_n 0, 1) := by decide +kernel
theorem dX2_freshBlocks_9 : decode cX2_freshBlocks 9 = .ok (.iconst 1, 1) := by decide +kernel
theorem dX2_freshBlocks_10 : decode cX2_freshBlocks 10 = .ok (.invokevirtual 64, 3) := by decide +kernel
theorem dX2_freshBlocks_13 : decode cX2_freshBlocks 13 = .ok (.isub, 1) := by decide +kernel
theorem dX2_freshBlocks_14 : decode cX2_freshBlocks 14 = .ok (.ireturn, 1) := by decide +kernel
theorem dX2_bandsGot_0 : decode cX2_bandsGot 0 = .ok (.iconst 0, 1) := by decide +kernel
theorem dX2_bandsGot_1 : decode cX2_bandsGot 1 = .ok (.istore_n 1, 1) := by decide +kernel
theorem dX2_bandsGot_2 : decode cX2_bandsGot 2 = .ok (.iconst 0, 1) := by decide +kernel
theorem dX2_bandsGot_3 : decode cX2_bandsGot 3 = .ok (.istore_n 2, 1) := by decide +kernel
theorem dX2_bandsGot_4 : decode cX2_bandsGot 4 = .ok (.iload_n 2, 1) := by decide +kernel
theorem dX2_bandsGot_5 : decode cX2_bandsGot 5 = .ok (.iconst 3, 1) := by decide +kernel
theorem dX2_bandsGot_6 : decode cX2_bandsGot 6 = .ok (.if_icmp .ge 26, 3) := by decide +kernel
theorem dX2_bandsGot_9 : decode cX2_bandsGot 9 = .ok (.iload_n 1, 1) := by decide +kernel
theorem dX2_bandsGot_10 : decode cX2_bandsGot 10 = .ok (.aload_n 0, 1) := by decide +kernel
theorem dX2_bandsGot_11 : decode cX2_bandsGot 11 = .ok (.getfield 33, 3) := by decide +kernel
theorem dX2_bandsGot_14 : decode cX2_bandsGot 14 = .ok (.iload_n 2, 1) := by decide +kernel
theorem dX2_bandsGot_15 : decode cX2_bandsGot 15 = .ok (.baload, 1) := by decide +kernel
theorem dX2_bandsGot_16 : decode cX2_bandsGot 16 = .ok (.ifCond .eq 7, 3) := by decide +kernel
theorem dX2_bandsGot_19 : decode cX2_bandsGot 19 = .ok (.iconst 1, 1) := by decide +kernel
theorem dX2_bandsGot_20 : decode cX2_bandsGot 20 = .ok (.goto 4, 3) := by decide +kernel
theorem dX2_bandsGot_23 : decode cX2_bandsGot 23 = .ok (.iconst 0, 1) := by decide +kernel
theorem dX2_bandsGot_24 : decode cX2_bandsGot 24 = .ok (.iadd, 1) := by decide +kernel
theorem dX2_bandsGot_25 : decode cX2_bandsGot 25 = .ok (.istore_n 1, 1) := by decide +kernel
theorem dX2_bandsGot_26 : decode cX2_bandsGot 26 = .ok (.iinc 2 1, 3) := by decide +kernel
theorem dX2_bandsGot_29 : decode cX2_bandsGot 29 = .ok (.goto (-25), 3) := by decide +kernel
theorem dX2_bandsGot_32 : decode cX2_bandsGot 32 = .ok (.iload_n 1, 1) := by decide +kernel
theorem dX2_bandsGot_33 : decode cX2_bandsGot 33 = .ok (.ireturn, 1) := by decide +kernel
set_option maxRecDepth 20000 in
theorem ggX2_expectedX_X5_isFirstOfBand : GoodIn wsX2_expectedX wsX5_isFirstOfBand := goodIn_r _ [4] (by decide +kernel) (by decide +kernel)
set_option maxRecDepth 20000 in
theorem gX2_expectedX_X5_isFirstOfBand_n67 : GoodIn wsX2_expectedX (wsX5_isFirstOfBand) := ggX2_expectedX_X5_isFirstOfBand
theorem dX2_expectedX_0 : decode cX2_expectedX 0 = .ok (.iload_n 1, 1) := by decide +kernel
theorem dX2_expectedX_1 : decode cX2_expectedX 1 = .ok (.invokestatic 67, 3) := by decide +kernel
theorem dX2_expectedX_4 : decode cX2_expectedX 4 = .ok (.ifCond .eq 7, 3) := by decide +kernel
theorem dX2_expectedX_7 : decode cX2_expectedX 7 = .ok (.iconst 0, 1) := by decide +kernel
theorem dX2_expectedX_8 : decode cX2_expectedX 8 = .ok (.goto 11, 3) := by decide +kernel
theorem dX2_expectedX_11 : decode cX2_expectedX 11 = .ok (.aload_n 0, 1) := by decide +kernel
theorem dX2_expectedX_12 : decode cX2_expectedX 12 = .ok (.getfield 15, 3) := by decide +kernel
theorem dX2_expectedX_15 : decode cX2_expectedX 15 = .ok (.iload_n 1, 1) := by decide +kernel
theorem dX2_expectedX_16 : decode cX2_expectedX 16 = .ok (.iconst 1, 1) := by decide +kernel
theorem dX2_expectedX_17 : decode cX2_expectedX 17 = .ok (.isub, 1) := by decide +kernel
theorem dX2_expectedX_18 : decode cX2_expectedX 18 = .ok (.iaload, 1) := by decide +kernel
theorem dX2_expectedX_19 : decode cX2_expectedX 19 = .ok (.ireturn, 1) := by decide +kernel
set_option maxRecDepth 20000 in
theorem ggX2_expectedY_X5_isFirstOfBand : GoodIn wsX2_expectedY wsX5_isFirstOfBand := goodIn_r _ [4] (by decide +kernel) (by decide +kernel)
set_option maxRecDepth 20000 in
theorem gX2_expectedY_X5_isFirstOfBand_n67 : GoodIn wsX2_expectedY (wsX5_isFirstOfBand) := ggX2_expectedY_X5_isFirstOfBand
theorem dX2_expectedY_0 : decode cX2_expectedY 0 = .ok (.iload_n 1, 1) := by decide +kernel
theorem dX2_expectedY_1 : decode cX2_expectedY 1 = .ok (.invokestatic 67, 3) := by decide +kernel
theorem dX2_expectedY_4 : decode cX2_expectedY 4 = .ok (.ifCond .eq 7, 3) := by decide +kernel
theorem dX2_expectedY_7 : decode cX2_expectedY 7 = .ok (.iconst 0, 1) := by decide +kernel
theorem dX2_expectedY_8 : decode cX2_expectedY 8 = .ok (.goto 11, 3) := by decide +kernel
theorem dX2_expectedY_11 : decode cX2_expectedY 11 = .ok (.aload_n 0, 1) := by decide +kernel
theorem dX2_expectedY_12 : decode cX2_expectedY 12 = .ok (.getfield 18, 3) := by decide +kernel
theorem dX2_expectedY_15 : decode cX2_expectedY 15 = .ok (.iload_n 1, 1) := by decide +kernel
theorem dX2_expectedY_16 : decode cX2_expectedY 16 = .ok (.iconst 1, 1) := by decide +kernel
theorem dX2_expectedY_17 : decode cX2_expectedY 17 = .ok (.isub, 1) := by decide +kernel
theorem dX2_expectedY_18 : decode cX2_expectedY 18 = .ok (.iaload, 1) := by decide +kernel
theorem dX2_expectedY_19 : decode cX2_expectedY 19 = .ok (.ireturn, 1) := by decide +kernel
set_option maxRecDepth 20000 in
theorem ggX2_digestOn_X2_levelsNotZero : GoodIn wsX2_digestOn wsX2_levelsNotZero := goodIn_r _ [12, 13, 29, 30, 31, 32, 33, 34, 35, 36, 37, 38, 39, 40, 41, 42] (by decide +kernel) (by decide +kernel)
set_option maxRecDepth 20000 in
theorem gX2_digestOn_X2_levelsNotZero : GoodIn wsX2_digestOn (wsV RX2 73 RX2 yX2_levelsNotZero wsX2_levelsNotZero) := goodIn_app (goodIn_of _ (by decide +kernel)) ggX2_digestOn_X2_levelsNotZero
set_option maxRecDepth 20000 in
theorem ggX2_digestOn_X2_digestPacket : GoodIn wsX2_digestOn wsX2_digestPacket := goodIn_r _ [17, 1, 18, 19, 20, 21, 22, 23, 11, 24, 25, 26, 27, 28, 29, 30, 31, 32, 33, 34, 35, 36, 37, 38, 39, 40, 41, 42] (by decide +kernel) (by decide +kernel)
set_option maxRecDepth 20000 in
theorem gX2_digestOn_X2_digestPacket : GoodIn wsX2_digestOn (wsV RX2 76 RX2 yX2_digestPacket wsX2_digestPacket) := goodIn_app (goodIn_of _ (by decide +kernel)) ggX2_digestOn_X2_digestPacket
theorem dX2_digestOn_0 : decode cX2_digestOn 0 = .ok (.lload_n 1, 1) := by decide +kernel
theorem dX2_digestOn_1 : decode cX2_digestOn 1 = .ok (.ldc2_w 71, 3) := by decide +kernel
theorem dX2_digestOn_4 : decode cX2_digestOn 4 = .ok (.lmul, 1) := by decide +kernel
theorem dX2_digestOn_5 : decode cX2_digestOn 5 = .ok (.aload_n 0, 1) := by decide +kernel
theorem dX2_digestOn_6 : decode cX2_digestOn 6 = .ok (.getfield 50, 3) := by decide +kernel
theorem dX2_digestOn_9 : decode cX2_digestOn 9 = .ok (.ifCond .eq 7, 3) := by decide +kernel
theorem dX2_digestOn_12 : decode cX2_digestOn 12 = .ok (.iconst 1, 1) := by decide +kernel
theorem dX2_digestOn_13 : decode cX2_digestOn 13 = .ok (.goto 4, 3) := by decide +kernel
theorem dX2_digestOn_16 : decode cX2_digestOn 16 = .ok (.iconst 0, 1) := by decide +kernel
theorem dX2_digestOn_17 : decode cX2_digestOn 17 = .ok (.i2l, 1) := by decide +kernel
theorem dX2_digestOn_18 : decode cX2_digestOn 18 = .ok (.ladd, 1) := by decide +kernel
theorem dX2_digestOn_19 : decode cX2_digestOn 19 = .ok (.lstore_n 3, 1) := by decide +kernel
theorem dX2_digestOn_20 : decode cX2_digestOn 20 = .ok (.lload_n 3, 1) := by decide +kernel
theorem dX2_digestOn_21 : decode cX2_digestOn 21 = .ok (.ldc2_w 71, 3) := by decide +kernel
theorem dX2_digestOn_24 : decode cX2_digestOn 24 = .ok (.lmul, 1) := by decide +kernel
theorem dX2_digestOn_25 : decode cX2_digestOn 25 = .ok (.aload_n 0, 1) := by decide +kernel
theorem dX2_digestOn_26 : decode cX2_digestOn 26 = .ok (.getfield 44, 3) := by decide +kernel
theorem dX2_digestOn_29 : decode cX2_digestOn 29 = .ok (.i2l, 1) := by decide +kernel
theorem dX2_digestOn_30 : decode cX2_digestOn 30 = .ok (.ladd, 1) := by decide +kernel
theorem dX2_digestOn_31 : decode cX2_digestOn 31 = .ok (.lstore_n 3, 1) := by decide +kernel
theorem dX2_digestOn_32 : decode cX2_digestOn 32 = .ok (.lload_n 3, 1) := by decide +kernel
theorem dX2_digestOn_33 : decode cX2_digestOn 33 = .ok (.ldc2_w 71, 3) := by decide +kernel
theorem dX2_digestOn_36 : decode cX2_digestOn 36 = .ok (.lmul, 1) := by decide +kernel
theorem dX2_digestOn_37 : decode cX2_digestOn 37 = .ok (.aload_n 0, 1) := by decide +kernel
theorem dX2_digestOn_38 : decode cX2_digestOn 38 = .ok (.getfield 47, 3) := by decide +kernel
theorem dX2_digestOn_41 : decode cX2_digestOn 41 = .ok (.i2l, 1) := by decide +kernel
theorem dX2_digestOn_42 : decode cX2_digestOn 42 = .ok (.ladd, 1) := by decide +kernel
theorem dX2_digestOn_43 : decode cX2_digestOn 43 = .ok (.lstore_n 3, 1) := by decide +kernel
theorem dX2_digestOn_44 : decode cX2_digestOn 44 = .ok (.iconst 0, 1) := by decide +kernel
theorem dX2_digestOn_45 : decode cX2_digestOn 45 = .ok (.istore 5, 2) := by decide +kernel
theorem dX2_digestOn_47 : decode cX2_digestOn 47 = .ok (.iload 5, 2) := by decide +kernel
theorem dX2_digestOn_49 : decode cX2_digestOn 49 = .ok (.bipush 12, 2) := by decide +kernel
theorem dX2_digestOn_51 : decode cX2_digestOn 51 = .ok (.if_icmp .ge 68, 3) := by decide +kernel
theorem dX2_digestOn_54 : decode cX2_digestOn 54 = .ok (.lload_n 3, 1) := by decide +kernel
theorem dX2_digestOn_55 : decode cX2_digestOn 55 = .ok (.ldc2_w 71, 3) := by decide +kernel
theorem dX2_digestOn_58 : decode cX2_digestOn 58 = .ok (.lmul, 1) := by decide +kernel
theorem dX2_digestOn_59 : decode cX2_digestOn 59 = .ok (.aload_n 0, 1) := by decide +kernel
theorem dX2_digestOn_60 : decode cX2_digestOn 60 = .ok (.getfield 9, 3) := by decide +kernel
theorem dX2_digestOn_63 : decode cX2_digestOn 63 = .ok (.iload 5, 2) := by decide +kernel
theorem dX2_digestOn_65 : decode cX2_digestOn 65 = .ok (.iaload, 1) := by decide +kernel
theorem dX2_digestOn_66 : decode cX2_digestOn 66 = .ok (.i2l, 1) := by decide +kernel
theorem dX2_digestOn_67 : decode cX2_digestOn 67 = .ok (.ladd, 1) := by decide +kernel
theorem dX2_digestOn_68 : decode cX2_digestOn 68 = .ok (.lstore_n 3, 1) := by decide +kernel
theorem dX2_digestOn_69 : decode cX2_digestOn 69 = .ok (.lload_n 3, 1) := by decide +kernel
theorem dX2_digestOn_70 : decode cX2_digestOn 70 = .ok (.ldc2_w 71, 3) := by decide +kernel
theorem dX2_digestOn_73 : decode cX2_digestOn 73 = .ok (.lmul, 1) := by decide +kernel
theorem dX2_digestOn_74 : decode cX2_digestOn 74 = .ok (.aload_n 0, 1) := by decide +kernel
theorem dX2_digestOn_75 : decode cX2_digestOn 75 = .ok (.getfield 15, 3) := by decide +kernel
theorem dX2_digestOn_78 : decode cX2_digestOn 78 = .ok (.iload 5, 2) := by decide +kernel
theorem dX2_digestOn_80 : decode cX2_digestOn 80 = .ok (.iaload, 1) := by decide +kernel
theorem dX2_digestOn_81 : decode cX2_digestOn 81 = .ok (.i2l, 1) := by decide +kernel
theorem dX2_digestOn_82 : decode cX2_digestOn 82 = .ok (.ladd, 1) := by decide +kernel
theorem dX2_digestOn_83 : decode cX2_digestOn 83 = .ok (.lstore_n 3, 1) := by decide +kernel
theorem dX2_digestOn_84 : decode cX2_digestOn 84 = .ok (.lload_n 3, 1) := by decide +kernel
theorem dX2_digestOn_85 : decode cX2_digestOn 85 = .ok (.ldc2_w 71, 3) := by decide +kernel
theorem dX2_digestOn_88 : decode cX2_digestOn 88 = .ok (.lmul, 1) := by decide +kernel
theorem dX2_digestOn_89 : decode cX2_digestOn 89 = .ok (.aload_n 0, 1) := by decide +kernel
theorem dX2_digestOn_90 : decode cX2_digestOn 90 = .ok (.getfield 18, 3) := by decide +kernel
theorem dX2_digestOn_93 : decode cX2_digestOn 93 = .ok (.iload 5, 2) := by decide +kernel
theorem dX2_digestOn_95 : decode cX2_digestOn 95 = .ok (.iaload, 1) := by decide +kernel
theorem dX2_digestOn_96 : decode cX2_digestOn 96 = .ok (.i2l, 1) := by decide +kernel
theorem dX2_digestOn_97 : decode cX2_digestOn 97 = .ok (.ladd, 1) := by decide +kernel
theorem dX2_digestOn_98 : decode cX2_digestOn 98 = .ok (.lstore_n 3, 1) := by decide +kernel
theorem dX2_digestOn_99 : decode cX2_digestOn 99 = .ok (.lload_n 3, 1) := by decide +kernel
theorem dX2_digestOn_100 : decode cX2_digestOn 100 = .ok (.ldc2_w 71, 3) := by decide +kernel
theorem dX2_digestOn_103 : decode cX2_digestOn 103 = .ok (.lmul, 1) := by decide +kernel
theorem dX2_digestOn_104 : decode cX2_digestOn 104 = .ok (.aload_n 0, 1) := by decide +kernel
theorem dX2_digestOn_105 : decode cX2_digestOn 105 = .ok (.iload 5, 2) := by decide +kernel
theorem dX2_digestOn_107 : decode cX2_digestOn 107 = .ok (.invokevirtual 73, 3) := by decide +kernel
theorem dX2_digestOn_110 : decode cX2_digestOn 110 = .ok (.i2l, 1) := by decide +kernel
theorem dX2_digestOn_111 : decode cX2_digestOn 111 = .ok (.ladd, 1) := by decide +kernel
theorem dX2_digestOn_112 : decode cX2_digestOn 112 = .ok (.lstore_n 3, 1) := by decide +kernel
theorem dX2_digestOn_113 : decode cX2_digestOn 113 = .ok (.iinc 5 1, 3) := by decide +kernel
theorem dX2_digestOn_116 : decode cX2_digestOn 116 = .ok (.goto (-69), 3) := by decide +kernel
theorem dX2_digestOn_119 : decode cX2_digestOn 119 = .ok (.iconst 0, 1) := by decide +kernel
theorem dX2_digestOn_120 : decode cX2_digestOn 120 = .ok (.istore 5, 2) := by decide +kernel
theorem dX2_digestOn_122 : decode cX2_digestOn 122 = .ok (.iload 5, 2) := by decide +kernel
theorem dX2_digestOn_124 : decode cX2_digestOn 124 = .ok (.iconst 3, 1) := by decide +kernel
theorem dX2_digestOn_125 : decode cX2_digestOn 125 = .ok (.if_icmp .ge 17, 3) := by decide +kernel
theorem dX2_digestOn_128 : decode cX2_digestOn 128 = .ok (.aload_n 0, 1) := by decide +kernel
theorem dX2_digestOn_129 : decode cX2_digestOn 129 = .ok (.lload_n 3, 1) := by decide +kernel
theorem dX2_digestOn_130 : decode cX2_digestOn 130 = .ok (.iload 5, 2) := by decide +kernel
theorem dX2_digestOn_132 : decode cX2_digestOn 132 = .ok (.invokevirtual 76, 3) := by decide +kernel
theorem dX2_digestOn_135 : decode cX2_digestOn 135 = .ok (.lstore_n 3, 1) := by decide +kernel
theorem dX2_digestOn_136 : decode cX2_digestOn 136 = .ok (.iinc 5 1, 3) := by decide +kernel
theorem dX2_digestOn_139 : decode cX2_digestOn 139 = .ok (.goto (-17), 3) := by decide +kernel
theorem dX2_digestOn_142 : decode cX2_digestOn 142 = .ok (.lload_n 3, 1) := by decide +kernel
theorem dX2_digestOn_143 : decode cX2_digestOn 143 = .ok (.lreturn, 1) := by decide +kernel
set_option maxRecDepth 20000 in
theorem ggX2_digestPacket_X2_bytesIn : GoodIn wsX2_digestPacket wsX2_bytesIn := goodIn_r _ [9, 2, 14, 15, 16, 17, 18, 19, 20, 21, 22, 23, 24, 25, 26, 27] (by decide +kernel) (by decide +kernel)
set_option maxRecDepth 20000 in
theorem gX2_digestPacket_X2_bytesIn : GoodIn wsX2_digestPacket (wsV RX2 57 RX2 yX2_bytesIn wsX2_bytesIn) := goodIn_app (goodIn_of _ (by decide +kernel)) ggX2_digestPacket_X2_bytesIn
set_option maxRecDepth 20000 in
theorem ggX2_digestPacket_X2_firstByteOf : GoodIn wsX2_digestPacket wsX2_firstByteOf := goodIn_r _ [13, 5, 6, 7, 8, 9, 2, 14, 15, 16, 17, 18, 19, 20, 21, 22, 23, 24, 25, 26, 27] (by decide +kernel) (by decide +kernel)
set_option maxRecDepth 20000 in
theorem gX2_digestPacket_X2_firstByteOf : GoodIn wsX2_digestPacket (wsV RX2 61 RX2 yX2_firstByteOf wsX2_firstByteOf) := goodIn_app (goodIn_of _ (by decide +kernel)) ggX2_digestPacket_X2_firstByteOf
theorem dX2_digestPacket_0 : decode cX2_digestPacket 0 = .ok (.lload_n 1, 1) := by decide +kernel
theorem dX2_digestPacket_1 : decode cX2_digestPacket 1 = .ok (.ldc2_w 71, 3) := by decide +kernel
theorem dX2_digestPacket_4 : decode cX2_digestPacket 4 = .ok (.lmul, 1) := by decide +kernel
theorem dX2_digestPacket_5 : decode cX2_digestPacket 5 = .ok (.aload_n 0, 1) := by decide +kernel
theorem dX2_digestPacket_6 : decode cX2_digestPacket 6 = .ok (.iload_n 3, 1) := by decide +kernel
theorem dX2_digestPacket_7 : decode cX2_digestPacket 7 = .ok (.invokevirtual 57, 3) := by decide +kernel
theorem dX2_digestPacket_10 : decode cX2_digestPacket 10 = .ok (.i2l, 1) := by decide +kernel
theorem dX2_digestPacket_11 : decode cX2_digestPacket 11 = .ok (.ladd, 1) := by decide +kernel
theorem dX2_digestPacket_12 : decode cX2_digestPacket 12 = .ok (.lstore 4, 2) := by decide +kernel
theorem dX2_digestPacket_14 : decode cX2_digestPacket 14 = .ok (.lload 4, 2) := by decide +kernel
theorem dX2_digestPacket_16 : decode cX2_digestPacket 16 = .ok (.ldc2_w 71, 3) := by decide +kernel
theorem dX2_digestPacket_19 : decode cX2_digestPacket 19 = .ok (.lmul, 1) := by decide +kernel
theorem dX2_digestPacket_20 : decode cX2_digestPacket 20 = .ok (.aload_n 0, 1) := by decide +kernel
theorem dX2_digestPacket_21 : decode cX2_digestPacket 21 = .ok (.getfield 30, 3) := by decide +kernel
theorem dX2_digestPacket_24 : decode cX2_digestPacket 24 = .ok (.iload_n 3, 1) := by decide +kernel
theorem dX2_digestPacket_25 : decode cX2_digestPacket 25 = .ok (.iaload, 1) := by decide +kernel
theorem dX2_digestPacket_26 : decode cX2_digestPacket 26 = .ok (.i2l, 1) := by decide +kernel
theorem dX2_digestPacket_27 : decode cX2_digestPacket 27 = .ok (.ladd, 1) := by decide +kernel
theorem dX2_digestPacket_28 : decode cX2_digestPacket 28 = .ok (.lstore 4, 2) := by decide +kernel
theorem dX2_digestPacket_30 : decode cX2_digestPacket 30 = .ok (.lload 4, 2) := by decide +kernel
theorem dX2_digestPacket_32 : decode cX2_digestPacket 32 = .ok (.ldc2_w 71, 3) := by decide +kernel
theorem dX2_digestPacket_35 : decode cX2_digestPacket 35 = .ok (.lmul, 1) := by decide +kernel
theorem dX2_digestPacket_36 : decode cX2_digestPacket 36 = .ok (.aload_n 0, 1) := by decide +kernel
theorem dX2_digestPacket_37 : decode cX2_digestPacket 37 = .ok (.getfield 33, 3) := by decide +kernel
theorem dX2_digestPacket_40 : decode cX2_digestPacket 40 = .ok (.iload_n 3, 1) := by decide +kernel
theorem dX2_digestPacket_41 : decode cX2_digestPacket 41 = .ok (.baload, 1) := by decide +kernel
theorem dX2_digestPacket_42 : decode cX2_digestPacket 42 = .ok (.ifCond .eq 7, 3) := by decide +kernel
theorem dX2_digestPacket_45 : decode cX2_digestPacket 45 = .ok (.iconst 1, 1) := by decide +kernel
theorem dX2_digestPacket_46 : decode cX2_digestPacket 46 = .ok (.goto 4, 3) := by decide +kernel
theorem dX2_digestPacket_49 : decode cX2_digestPacket 49 = .ok (.iconst 0, 1) := by decide +kernel
theorem dX2_digestPacket_50 : decode cX2_digestPacket 50 = .ok (.i2l, 1) := by decide +kernel
theorem dX2_digestPacket_51 : decode cX2_digestPacket 51 = .ok (.ladd, 1) := by decide +kernel
theorem dX2_digestPacket_52 : decode cX2_digestPacket 52 = .ok (.lstore 4, 2) := by decide +kernel
theorem dX2_digestPacket_54 : decode cX2_digestPacket 54 = .ok (.aload_n 0, 1) := by decide +kernel
theorem dX2_digestPacket_55 : decode cX2_digestPacket 55 = .ok (.iload_n 3, 1) := by decide +kernel
theorem dX2_digestPacket_56 : decode cX2_digestPacket 56 = .ok (.invokevirtual 61, 3) := by decide +kernel
theorem dX2_digestPacket_59 : decode cX2_digestPacket 59 = .ok (.istore 6, 2) := by decide +kernel
theorem dX2_digestPacket_61 : decode cX2_digestPacket 61 = .ok (.iload 6, 2) := by decide +kernel
theorem dX2_digestPacket_63 : decode cX2_digestPacket 63 = .ok (.istore 7, 2) := by decide +kernel
theorem dX2_digestPacket_65 : decode cX2_digestPacket 65 = .ok (.iload 7, 2) := by decide +kernel
theorem dX2_digestPacket_67 : decode cX2_digestPacket 67 = .ok (.iload 6, 2) := by decide +kernel
theorem dX2_digestPacket_69 : decode cX2_digestPacket 69 = .ok (.aload_n 0, 1) := by decide +kernel
theorem dX2_digestPacket_70 : decode cX2_digestPacket 70 = .ok (.iload_n 3, 1) := by decide +kernel
theorem dX2_digestPacket_71 : decode cX2_digestPacket 71 = .ok (.invokevirtual 57, 3) := by decide +kernel
theorem dX2_digestPacket_74 : decode cX2_digestPacket 74 = .ok (.iadd, 1) := by decide +kernel
theorem dX2_digestPacket_75 : decode cX2_digestPacket 75 = .ok (.if_icmp .ge 36, 3) := by decide +kernel
theorem dX2_digestPacket_78 : decode cX2_digestPacket 78 = .ok (.iload 7, 2) := by decide +kernel
theorem dX2_digestPacket_80 : decode cX2_digestPacket 80 = .ok (.aload_n 0, 1) := by decide +kernel
theorem dX2_digestPacket_81 : decode cX2_digestPacket 81 = .ok (.getfield 37, 3) := by decide +kernel
theorem dX2_digestPacket_84 : decode cX2_digestPacket 84 = .ok (.arraylength, 1) := by decide +kernel
theorem dX2_digestPacket_85 : decode cX2_digestPacket 85 = .ok (.if_icmp .ge 26, 3) := by decide +kernel
theorem dX2_digestPacket_88 : decode cX2_digestPacket 88 = .ok (.lload 4, 2) := by decide +kernel
theorem dX2_digestPacket_90 : decode cX2_digestPacket 90 = .ok (.ldc2_w 71, 3) := by decide +kernel
theorem dX2_digestPacket_93 : decode cX2_digestPacket 93 = .ok (.lmul, 1) := by decide +kernel
theorem dX2_digestPacket_94 : decode cX2_digestPacket 94 = .ok (.aload_n 0, 1) := by decide +kernel
theorem dX2_digestPacket_95 : decode cX2_digestPacket 95 = .ok (.getfield 37, 3) := by decide +kernel
theorem dX2_digestPacket_98 : decode cX2_digestPacket 98 = .ok (.iload 7, 2) := by decide +kernel
theorem dX2_digestPacket_100 : decode cX2_digestPacket 100 = .ok (.iaload, 1) := by decide +kernel
theorem dX2_digestPacket_101 : decode cX2_digestPacket 101 = .ok (.i2l, 1) := by decide +kernel
theorem dX2_digestPacket_102 : decode cX2_digestPacket 102 = .ok (.ladd, 1) := by decide +kernel
theorem dX2_digestPacket_103 : decode cX2_digestPacket 103 = .ok (.lstore 4, 2) := by decide +kernel
theorem dX2_digestPacket_105 : decode cX2_digestPacket 105 = .ok (.iinc 7 1, 3) := by decide +kernel
theorem dX2_digestPacket_108 : decode cX2_digestPacket 108 = .ok (.goto (-43), 3) := by decide +kernel
theorem dX2_digestPacket_111 : decode cX2_digestPacket 111 = .ok (.lload 4, 2) := by decide +kernel
theorem dX2_digestPacket_113 : decode cX2_digestPacket 113 = .ok (.lreturn, 1) := by decide +kernel
theorem dX3_init_0 : decode cX3_init 0 = .ok (.aload_n 0, 1) := by decide +kernel
theorem dX3_init_1 : decode cX3_init 1 = .ok (.invokespecial 5, 3) := by decide +kernel
theorem dX3_init_4 : decode cX3_init 4 = .ok (.aload_n 0, 1) := by decide +kernel
theorem dX3_init_5 : decode cX3_init 5 = .ok (.sipush 1140, 3) := by decide +kernel
theorem dX3_init_8 : decode cX3_init 8 = .ok (.newarray .int, 2) := by decide +kernel
theorem dX3_init_10 : decode cX3_init 10 = .ok (.putfield 11, 3) := by decide +kernel
theorem dX3_init_13 : decode cX3_init 13 = .ok (.aload_n 0, 1) := by decide +kernel
theorem dX3_init_14 : decode cX3_init 14 = .ok (.bipush 16, 2) := by decide +kernel
theorem dX3_init_16 : decode cX3_init 16 = .ok (.newarray .int, 2) := by decide +kernel
theorem dX3_init_18 : decode cX3_init 18 = .ok (.putfield 15, 3) := by decide +kernel
theorem dX3_init_21 : decode cX3_init 21 = .ok (.aload_n 0, 1) := by decide +kernel
theorem dX3_init_22 : decode cX3_init 22 = .ok (.sipush 768, 3) := by decide +kernel
theorem dX3_init_25 : decode cX3_init 25 = .ok (.newarray .int, 2) := by decide +kernel
theorem dX3_init_27 : decode cX3_init 27 = .ok (.putfield 18, 3) := by decide +kernel
theorem dX3_init_30 : decode cX3_init 30 = .ok (.aload_n 0, 1) := by decide +kernel
theorem dX3_init_31 : decode cX3_init 31 = .ok (.bipush 64, 2) := by decide +kernel
theorem dX3_init_33 : decode cX3_init 33 = .ok (.newarray .int, 2) := by decide +kernel
theorem dX3_init_35 : decode cX3_init 35 = .ok (.putfield 21, 3) := by decide +kernel
theorem dX3_init_38 : decode cX3_init 38 = .ok (.return_, 1) := by decide +kernel
set_option maxRecDepth 20000 in
theorem ggX3_lookAhead_X5_onRow : GoodIn wsX3_lookAhead wsX5_onRow := goodIn_r _ [4, 5, 6, 7, 8, 9, 10, 11] (by decide +kernel) (by decide +kernel)
set_option maxRecDepth 20000 in
theorem gX3_lookAhead_X5_onRow_n24 : GoodIn wsX3_lookAhead (wsX5_onRow) := ggX3_lookAhead_X5_onRow
theorem dX3_lookAhead_0 : decode cX3_lookAhead 0 = .ok (.iconst 0, 1) := by decide +kernel
theorem dX3_lookAhead_1 : decode cX3_lookAhead 1 = .ok (.istore_n 2, 1) := by decide +kernel
theorem dX3_lookAhead_2 : decode cX3_lookAhead 2 = .ok (.iload_n 2, 1) := by decide +kernel
theorem dX3_lookAhead_3 : decode cX3_lookAhead 3 = .ok (.bipush 30, 2) := by decide +kernel
theorem dX3_lookAhead_5 : decode cX3_lookAhead 5 = .ok (.if_icmp .ge 62, 3) := by decide +kernel
theorem dX3_lookAhead_8 : decode cX3_lookAhead 8 = .ok (.iload_n 2, 1) := by decide +kernel
theorem dX3_lookAhead_9 : decode cX3_lookAhead 9 = .ok (.iconst 3, 1) := by decide +kernel
theorem dX3_lookAhead_10 : decode cX3_lookAhead 10 = .ok (.isub, 1) := by decide +kernel
theorem dX3_lookAhead_11 : decode cX3_lookAhead 11 = .ok (.bipush 24, 2) := by decide +kernel
theorem dX3_lookAhead_13 : decode cX3_lookAhead 13 = .ok (.invokestatic 24, 3) := by decide +kernel
theorem dX3_lookAhead_16 : decode cX3_lookAhead 16 = .ok (.bipush 32, 2) := by decide +kernel
theorem dX3_lookAhead_18 : decode cX3_lookAhead 18 = .ok (.imul, 1) := by decide +kernel
theorem dX3_lookAhead_19 : decode cX3_lookAhead 19 = .ok (.istore_n 3, 1) := by decide +kernel
theorem dX3_lookAhead_20 : decode cX3_lookAhead 20 = .ok (.iconst 0, 1) := by decide +kernel
theorem dX3_lookAhead_21 : decode cX3_lookAhead 21 = .ok (.istore 4, 2) := by decide +kernel
theorem dX3_lookAhead_23 : decode cX3_lookAhead 23 = .ok (.iload 4, 2) := by decide +kernel
theorem dX3_lookAhead_25 : decode cX3_lookAhead 25 = .ok (.bipush 38, 2) := by decide +kernel
theorem dX3_lookAhead_27 : decode cX3_lookAhead 27 = .ok (.if_icmp .ge 34, 3) := by decide +kernel
theorem dX3_lookAhead_30 : decode cX3_lookAhead 30 = .ok (.aload_n 0, 1) := by decide +kernel
theorem dX3_lookAhead_31 : decode cX3_lookAhead 31 = .ok (.getfield 11, 3) := by decide +kernel
theorem dX3_lookAhead_34 : decode cX3_lookAhead 34 = .ok (.iload_n 2, 1) := by decide +kernel
theorem dX3_lookAhead_35 : decode cX3_lookAhead 35 = .ok (.bipush 38, 2) := by decide +kernel
theorem dX3_lookAhead_37 : decode cX3_lookAhead 37 = .ok (.imul, 1) := by decide +kernel
theorem dX3_lookAhead_38 : decode cX3_lookAhead 38 = .ok (.iload 4, 2) := by decide +kernel
theorem dX3_lookAhead_40 : decode cX3_lookAhead 40 = .ok (.iadd, 1) := by decide +kernel
theorem dX3_lookAhead_41 : decode cX3_lookAhead 41 = .ok (.aload_n 1, 1) := by decide +kernel
theorem dX3_lookAhead_42 : decode cX3_lookAhead 42 = .ok (.iload_n 3, 1) := by decide +kernel
theorem dX3_lookAhead_43 : decode cX3_lookAhead 43 = .ok (.iload 4, 2) := by decide +kernel
theorem dX3_lookAhead_45 : decode cX3_lookAhead 45 = .ok (.iconst 3, 1) := by decide +kernel
theorem dX3_lookAhead_46 : decode cX3_lookAhead 46 = .ok (.isub, 1) := by decide +kernel
theorem dX3_lookAhead_47 : decode cX3_lookAhead 47 = .ok (.bipush 32, 2) := by decide +kernel
theorem dX3_lookAhead_49 : decode cX3_lookAhead 49 = .ok (.invokestatic 24, 3) := by decide +kernel
theorem dX3_lookAhead_52 : decode cX3_lookAhead 52 = .ok (.iadd, 1) := by decide +kernel
theorem dX3_lookAhead_53 : decode cX3_lookAhead 53 = .ok (.iaload, 1) := by decide +kernel
theorem dX3_lookAhead_54 : decode cX3_lookAhead 54 = .ok (.iastore, 1) := by decide +kernel
theorem dX3_lookAhead_55 : decode cX3_lookAhead 55 = .ok (.iinc 4 1, 3) := by decide +kernel
theorem dX3_lookAhead_58 : decode cX3_lookAhead 58 = .ok (.goto (-35), 3) := by decide +kernel
theorem dX3_lookAhead_61 : decode cX3_lookAhead 61 = .ok (.iinc 2 1, 3) := by decide +kernel
theorem dX3_lookAhead_64 : decode cX3_lookAhead 64 = .ok (.goto (-62), 3) := by decide +kernel
theorem dX3_lookAhead_67 : decode cX3_lookAhead 67 = .ok (.return_, 1) := by decide +kernel
set_option maxRecDepth 20000 in
theorem ggX3_foretell_X3_foretellMoved : GoodIn wsX3_foretell wsX3_foretellMoved := goodIn_r _ [5, 6, 7, 8, 9, 4, 10, 11, 12, 13, 14, 15, 40, 41, 42, 43] (by decide +kernel) (by decide +kernel)
set_option maxRecDepth 20000 in
theorem gX3_foretell_X3_foretellMoved : GoodIn wsX3_foretell (wsV RX3 28 RX3 yX3_foretellMoved wsX3_foretellMoved) := goodIn_app (goodIn_of _ (by decide +kernel)) ggX3_foretell_X3_foretellMoved
set_option maxRecDepth 20000 in
theorem ggX3_foretell_X3_foretellFlat : GoodIn wsX3_foretell wsX3_foretellFlat := goodIn_r _ [19, 20, 6, 21, 22, 23, 24, 25, 26, 27, 28, 29, 40, 41, 42, 43] (by decide +kernel) (by decide +kernel)
set_option maxRecDepth 20000 in
theorem gX3_foretell_X3_foretellFlat : GoodIn wsX3_foretell (wsV RX3 32 RX3 yX3_foretellFlat wsX3_foretellFlat) := goodIn_app (goodIn_of _ (by decide +kernel)) ggX3_foretell_X3_foretellFlat
set_option maxRecDepth 20000 in
theorem ggX3_foretell_X3_foretellLeft : GoodIn wsX3_foretell wsX3_foretellLeft := goodIn_r _ [33, 6, 20, 21, 22, 23, 24, 25, 40, 41, 42, 43] (by decide +kernel) (by decide +kernel)
set_option maxRecDepth 20000 in
theorem gX3_foretell_X3_foretellLeft : GoodIn wsX3_foretell (wsV RX3 36 RX3 yX3_foretellLeft wsX3_foretellLeft) := goodIn_app (goodIn_of _ (by decide +kernel)) ggX3_foretell_X3_foretellLeft
set_option maxRecDepth 20000 in
theorem ggX3_foretell_X3_foretellTrend : GoodIn wsX3_foretell wsX3_foretellTrend := goodIn_r _ [37, 20, 6, 21, 22, 23, 24, 25, 38, 39, 40, 41, 42, 43] (by decide +kernel) (by decide +kernel)
set_option maxRecDepth 20000 in
theorem gX3_foretell_X3_foretellTrend : GoodIn wsX3_foretell (wsV RX3 39 RX3 yX3_foretellTrend wsX3_foretellTrend) := goodIn_app (goodIn_of _ (by decide +kernel)) ggX3_foretell_X3_foretellTrend
theorem dX3_foretell_0 : decode cX3_foretell 0 = .ok (.iload_n 1, 1) := by decide +kernel
theorem dX3_foretell_1 : decode cX3_foretell 1 = .ok (.tableswitch 58 0 3 #[31, 31, 42, 50], 31) := by decide +kernel
theorem dX3_foretell_32 : decode cX3_foretell 32 = .ok (.aload_n 0, 1) := by decide +kernel
theorem dX3_foretell_33 : decode cX3_foretell 33 = .ok (.iload_n 2, 1) := by decide +kernel
theorem dX3_foretell_34 : decode cX3_foretell 34 = .ok (.iload_n 3, 1) := by decide +kernel
theorem dX3_foretell_35 : decode cX3_foretell 35 = .ok (.iload 4, 2) := by decide +kernel
theorem dX3_foretell_37 : decode cX3_foretell 37 = .ok (.invokevirtual 28, 3) := by decide +kernel
theorem dX3_foretell_40 : decode cX3_foretell 40 = .ok (.goto 24, 3) := by decide +kernel
theorem dX3_foretell_43 : decode cX3_foretell 43 = .ok (.aload_n 0, 1) := by decide +kernel
theorem dX3_foretell_44 : decode cX3_foretell 44 = .ok (.iload_n 2, 1) := by decide +kernel
theorem dX3_foretell_45 : decode cX3_foretell 45 = .ok (.invokevirtual 32, 3) := by decide +kernel
theorem dX3_foretell_48 : decode cX3_foretell 48 = .ok (.goto 16, 3) := by decide +kernel
theorem dX3_foretell_51 : decode cX3_foretell 51 = .ok (.aload_n 0, 1) := by decide +kernel
theorem dX3_foretell_52 : decode cX3_foretell 52 = .ok (.iload_n 2, 1) := by decide +kernel
theorem dX3_foretell_53 : decode cX3_foretell 53 = .ok (.invokevirtual 36, 3) := by decide +kernel
theorem dX3_foretell_56 : decode cX3_foretell 56 = .ok (.goto 8, 3) := by decide +kernel
theorem dX3_foretell_59 : decode cX3_foretell 59 = .ok (.aload_n 0, 1) := by decide +kernel
theorem dX3_foretell_60 : decode cX3_foretell 60 = .ok (.iload_n 2, 1) := by decide +kernel
theorem dX3_foretell_61 : decode cX3_foretell 61 = .ok (.invokevirtual 39, 3) := by decide +kernel
theorem dX3_foretell_64 : decode cX3_foretell 64 = .ok (.return_, 1) := by decide +kernel
set_option maxRecDepth 20000 in
theorem ggX3_foretellMoved_X3_startAhead : GoodIn wsX3_foretellMoved wsX3_startAhead := goodIn_r _ [6] (by decide +kernel) (by decide +kernel)
set_option maxRecDepth 20000 in
theorem gX3_foretellMoved_X3_startAhead : GoodIn wsX3_foretellMoved (wsV RX3 42 RX3 yX3_startAhead wsX3_startAhead) := goodIn_app (goodIn_of _ (by decide +kernel)) ggX3_foretellMoved_X3_startAhead
set_option maxRecDepth 20000 in
theorem ggX3_foretellMoved_X3_between : GoodIn wsX3_foretellMoved wsX3_between := goodIn_r _ [10, 11, 12, 13, 14, 15] (by decide +kernel) (by decide +kernel)
set_option maxRecDepth 20000 in
theorem gX3_foretellMoved_X3_between : GoodIn wsX3_foretellMoved (wsV RX3 46 RX3 yX3_between wsX3_between) := goodIn_app (goodIn_of _ (by decide +kernel)) ggX3_foretellMoved_X3_between
theorem dX3_foretellMoved_0 : decode cX3_foretellMoved 0 = .ok (.aload_n 0, 1) := by decide +kernel
theorem dX3_foretellMoved_1 : decode cX3_foretellMoved 1 = .ok (.iload_n 1, 1) := by decide +kernel
theorem dX3_foretellMoved_2 : decode cX3_foretellMoved 2 = .ok (.iload_n 2, 1) := by decide +kernel
theorem dX3_foretellMoved_3 : decode cX3_foretellMoved 3 = .ok (.iload_n 3, 1) := by decide +kernel
theorem dX3_foretellMoved_4 : decode cX3_foretellMoved 4 = .ok (.invokevirtual 42, 3) := by decide +kernel
theorem dX3_foretellMoved_7 : decode cX3_foretellMoved 7 = .ok (.istore 4, 2) := by decide +kernel
theorem dX3_foretellMoved_9 : decode cX3_foretellMoved 9 = .ok (.iload_n 2, 1) := by decide +kernel
theorem dX3_foretellMoved_10 : decode cX3_foretellMoved 10 = .ok (.iconst 1, 1) := by decide +kernel
theorem dX3_foretellMoved_11 : decode cX3_foretellMoved 11 = .ok (.iand, 1) := by decide +kernel
theorem dX3_foretellMoved_12 : decode cX3_foretellMoved 12 = .ok (.istore 5, 2) := by decide +kernel
theorem dX3_foretellMoved_14 : decode cX3_foretellMoved 14 = .ok (.iload_n 3, 1) := by decide +kernel
theorem dX3_foretellMoved_15 : decode cX3_foretellMoved 15 = .ok (.iconst 1, 1) := by decide +kernel
theorem dX3_foretellMoved_16 : decode cX3_foretellMoved 16 = .ok (.iand, 1) := by decide +kernel
theorem dX3_foretellMoved_17 : decode cX3_foretellMoved 17 = .ok (.bipush 38, 2) := by decide +kernel
theorem dX3_foretellMoved_19 : decode cX3_foretellMoved 19 = .ok (.imul, 1) := by decide +kernel
theorem dX3_foretellMoved_20 : decode cX3_foretellMoved 20 = .ok (.istore 6, 2) := by decide +kernel
theorem dX3_foretellMoved_22 : decode cX3_foretellMoved 22 = .ok (.iconst 0, 1) := by decide +kernel
theorem dX3_foretellMoved_23 : decode cX3_foretellMoved 23 = .ok (.istore 7, 2) := by decide +kernel
theorem dX3_foretellMoved_25 : decode cX3_foretellMoved 25 = .ok (.iload 7, 2) := by decide +kernel
theorem dX3_foretellMoved_27 : decode cX3_foretellMoved 27 = .ok (.bipush 64, 2) := by decide +kernel
theorem dX3_foretellMoved_29 : decode cX3_foretellMoved 29 = .ok (.if_icmp .ge 45, 3) := by decide +kernel
theorem dX3_foretellMoved_32 : decode cX3_foretellMoved 32 = .ok (.iload 4, 2) := by decide +kernel
theorem dX3_foretellMoved_34 : decode cX3_foretellMoved 34 = .ok (.iload 7, 2) := by decide +kernel
theorem dX3_foretellMoved_36 : decode cX3_foretellMoved 36 = .ok (.bipush 8, 2) := by decide +kernel
theorem dX3_foretellMoved_38 : decode cX3_foretellMoved 38 = .ok (.idiv, 1) := by decide +kernel
theorem dX3_foretellMoved_39 : decode cX3_foretellMoved 39 = .ok (.bipush 38, 2) := by decide +kernel
theorem dX3_foretellMoved_41 : decode cX3_foretellMoved 41 = .ok (.imul, 1) := by decide +kernel
theorem dX3_foretellMoved_42 : decode cX3_foretellMoved 42 = .ok (.iadd, 1) := by decide +kernel
theorem dX3_foretellMoved_43 : decode cX3_foretellMoved 43 = .ok (.iload 7, 2) := by decide +kernel
theorem dX3_foretellMoved_45 : decode cX3_foretellMoved 45 = .ok (.bipush 8, 2) := by decide +kernel
theorem dX3_foretellMoved_47 : decode cX3_foretellMoved 47 = .ok (.irem, 1) := by decide +kernel
theorem dX3_foretellMoved_48 : decode cX3_foretellMoved 48 = .ok (.iadd, 1) := by decide +kernel
theorem dX3_foretellMoved_49 : decode cX3_foretellMoved 49 = .ok (.istore 8, 2) := by decide +kernel
theorem dX3_foretellMoved_51 : decode cX3_foretellMoved 51 = .ok (.aload_n 0, 1) := by decide +kernel
theorem dX3_foretellMoved_52 : decode cX3_foretellMoved 52 = .ok (.getfield 21, 3) := by decide +kernel
theorem dX3_foretellMoved_55 : decode cX3_foretellMoved 55 = .ok (.iload 7, 2) := by decide +kernel
theorem dX3_foretellMoved_57 : decode cX3_foretellMoved 57 = .ok (.aload_n 0, 1) := by decide +kernel
theorem dX3_foretellMoved_58 : decode cX3_foretellMoved 58 = .ok (.iload 8, 2) := by decide +kernel
theorem dX3_foretellMoved_60 : decode cX3_foretellMoved 60 = .ok (.iload 5, 2) := by decide +kernel
theorem dX3_foretellMoved_62 : decode cX3_foretellMoved 62 = .ok (.iload 6, 2) := by decide +kernel
theorem dX3_foretellMoved_64 : decode cX3_foretellMoved 64 = .ok (.invokevirtual 46, 3) := by decide +kernel
theorem dX3_foretellMoved_67 : decode cX3_foretellMoved 67 = .ok (.iastore, 1) := by decide +kernel
theorem dX3_foretellMoved_68 : decode cX3_foretellMoved 68 = .ok (.iinc 7 1, 3) := by decide +kernel
theorem dX3_foretellMoved_71 : decode cX3_foretellMoved 71 = .ok (.goto (-46), 3) := by decide +kernel
theorem dX3_foretellMoved_74 : decode cX3_foretellMoved 74 = .ok (.return_, 1) := by decide +kernel
set_option maxRecDepth 20000 in
theorem ggX3_differenceMoved_X3_startAhead : GoodIn wsX3_differenceMoved wsX3_startAhead := goodIn_r _ [9] (by decide +kernel) (by decide +kernel)
set_option maxRecDepth 20000 in
theorem gX3_differenceMoved_X3_startAhead : GoodIn wsX3_differenceMoved (wsV RX3 42 RX3 yX3_startAhead wsX3_startAhead) := goodIn_app (goodIn_of _ (by decide +kernel)) ggX3_differenceMoved_X3_startAhead
set_option maxRecDepth 20000 in
theorem ggX3_differenceMoved_X5_firstPointOf : GoodIn wsX3_differenceMoved wsX5_firstPointOf := goodIn_r _ [12] (by decide +kernel) (by decide +kernel)
set_option maxRecDepth 20000 in
theorem gX3_differenceMoved_X5_firstPointOf_n49 : GoodIn wsX3_differenceMoved (wsX5_firstPointOf) := ggX3_differenceMoved_X5_firstPointOf
set_option maxRecDepth 20000 in
theorem ggX3_differenceMoved_X3_between : GoodIn wsX3_differenceMoved wsX3_between := goodIn_r _ [16, 17, 18, 19, 20, 21] (by decide +kernel) (by decide +kernel)
set_option maxRecDepth 20000 in
theorem gX3_differenceMoved_X3_between : GoodIn wsX3_differenceMoved (wsV RX3 46 RX3 yX3_between wsX3_between) := goodIn_app (goodIn_of _ (by decide +kernel)) ggX3_differenceMoved_X3_between
theorem dX3_differenceMoved_0 : decode cX3_differenceMoved 0 = .ok (.aload_n 0, 1) := by decide +kernel
theorem dX3_differenceMoved_1 : decode cX3_differenceMoved 1 = .ok (.iload_n 2, 1) := by decide +kernel
theorem dX3_differenceMoved_2 : decode cX3_differenceMoved 2 = .ok (.iload_n 3, 1) := by decide +kernel
theorem dX3_differenceMoved_3 : decode cX3_differenceMoved 3 = .ok (.iload 4, 2) := by decide +kernel
theorem dX3_differenceMoved_5 : decode cX3_differenceMoved 5 = .ok (.invokevirtual 42, 3) := by decide +kernel
theorem dX3_differenceMoved_8 : decode cX3_differenceMoved 8 = .ok (.istore 6, 2) := by decide +kernel
theorem dX3_differenceMoved_10 : decode cX3_differenceMoved 10 = .ok (.iload_n 3, 1) := by decide +kernel
theorem dX3_differenceMoved_11 : decode cX3_differenceMoved 11 = .ok (.iconst 1, 1) := by decide +kernel
theorem dX3_differenceMoved_12 : decode cX3_differenceMoved 12 = .ok (.iand, 1) := by decide +kernel
theorem dX3_differenceMoved_13 : decode cX3_differenceMoved 13 = .ok (.istore 7, 2) := by decide +kernel
theorem dX3_differenceMoved_15 : decode cX3_differenceMoved 15 = .ok (.iload 4, 2) := by decide +kernel
theorem dX3_differenceMoved_17 : decode cX3_differenceMoved 17 = .ok (.iconst 1, 1) := by decide +kernel
theorem dX3_differenceMoved_18 : decode cX3_differenceMoved 18 = .ok (.iand, 1) := by decide +kernel
theorem dX3_differenceMoved_19 : decode cX3_differenceMoved 19 = .ok (.bipush 38, 2) := by decide +kernel
theorem dX3_differenceMoved_21 : decode cX3_differenceMoved 21 = .ok (.imul, 1) := by decide +kernel
theorem dX3_differenceMoved_22 : decode cX3_differenceMoved 22 = .ok (.istore 8, 2) := by decide +kernel
theorem dX3_differenceMoved_24 : decode cX3_differenceMoved 24 = .ok (.iload_n 2, 1) := by decide +kernel
theorem dX3_differenceMoved_25 : decode cX3_differenceMoved 25 = .ok (.invokestatic 49, 3) := by decide +kernel
theorem dX3_differenceMoved_28 : decode cX3_differenceMoved 28 = .ok (.istore 9, 2) := by decide +kernel
theorem dX3_differenceMoved_30 : decode cX3_differenceMoved 30 = .ok (.iconst 0, 1) := by decide +kernel
theorem dX3_differenceMoved_31 : decode cX3_differenceMoved 31 = .ok (.istore 10, 2) := by decide +kernel
theorem dX3_differenceMoved_33 : decode cX3_differenceMoved 33 = .ok (.iconst 0, 1) := by decide +kernel
theorem dX3_differenceMoved_34 : decode cX3_differenceMoved 34 = .ok (.istore 11, 2) := by decide +kernel
theorem dX3_differenceMoved_36 : decode cX3_differenceMoved 36 = .ok (.iload 11, 2) := by decide +kernel
theorem dX3_differenceMoved_38 : decode cX3_differenceMoved 38 = .ok (.bipush 8, 2) := by decide +kernel
theorem dX3_differenceMoved_40 : decode cX3_differenceMoved 40 = .ok (.if_icmp .ge 77, 3) := by decide +kernel
theorem dX3_differenceMoved_43 : decode cX3_differenceMoved 43 = .ok (.iload 10, 2) := by decide +kernel
theorem dX3_differenceMoved_45 : decode cX3_differenceMoved 45 = .ok (.iload 5, 2) := by decide +kernel
theorem dX3_differenceMoved_47 : decode cX3_differenceMoved 47 = .ok (.if_icmp .ge 70, 3) := by decide +kernel
theorem dX3_differenceMoved_50 : decode cX3_differenceMoved 50 = .ok (.iconst 0, 1) := by decide +kernel
theorem dX3_differenceMoved_51 : decode cX3_differenceMoved 51 = .ok (.istore 12, 2) := by decide +kernel
theorem dX3_differenceMoved_53 : decode cX3_differenceMoved 53 = .ok (.iload 12, 2) := by decide +kernel
theorem dX3_differenceMoved_55 : decode cX3_differenceMoved 55 = .ok (.bipush 8, 2) := by decide +kernel
theorem dX3_differenceMoved_57 : decode cX3_differenceMoved 57 = .ok (.if_icmp .ge 54, 3) := by decide +kernel
theorem dX3_differenceMoved_60 : decode cX3_differenceMoved 60 = .ok (.aload_n 0, 1) := by decide +kernel
theorem dX3_differenceMoved_61 : decode cX3_differenceMoved 61 = .ok (.iload 6, 2) := by decide +kernel
theorem dX3_differenceMoved_63 : decode cX3_differenceMoved 63 = .ok (.iload 11, 2) := by decide +kernel
theorem dX3_differenceMoved_65 : decode cX3_differenceMoved 65 = .ok (.bipush 38, 2) := by decide +kernel
theorem dX3_differenceMoved_67 : decode cX3_differenceMoved 67 = .ok (.imul, 1) := by decide +kernel
theorem dX3_differenceMoved_68 : decode cX3_differenceMoved 68 = .ok (.iadd, 1) := by decide +kernel
theorem dX3_differenceMoved_69 : decode cX3_differenceMoved 69 = .ok (.iload 12, 2) := by decide +kernel
theorem dX3_differenceMoved_71 : decode cX3_differenceMoved 71 = .ok (.iadd, 1) := by decide +kernel
theorem dX3_differenceMoved_72 : decode cX3_differenceMoved 72 = .ok (.iload 7, 2) := by decide +kernel
theorem dX3_differenceMoved_74 : decode cX3_differenceMoved 74 = .ok (.iload 8, 2) := by decide +kernel
theorem dX3_differenceMoved_76 : decode cX3_differenceMoved 76 = .ok (.invokevirtual 46, 3) := by decide +kernel
theorem dX3_differenceMoved_79 : decode cX3_differenceMoved 79 = .ok (.istore 13, 2) := by decide +kernel
theorem dX3_differenceMoved_81 : decode cX3_differenceMoved 81 = .ok (.iload 10, 2) := by decide +kernel
theorem dX3_differenceMoved_83 : decode cX3_differenceMoved 83 = .ok (.aload_n 1, 1) := by decide +kernel
theorem dX3_differenceMoved_84 : decode cX3_differenceMoved 84 = .ok (.iload 9, 2) := by decide +kernel
theorem dX3_differenceMoved_86 : decode cX3_differenceMoved 86 = .ok (.iload 11, 2) := by decide +kernel
theorem dX3_differenceMoved_88 : decode cX3_differenceMoved 88 = .ok (.bipush 32, 2) := by decide +kernel
theorem dX3_differenceMoved_90 : decode cX3_differenceMoved 90 = .ok (.imul, 1) := by decide +kernel
theorem dX3_differenceMoved_91 : decode cX3_differenceMoved 91 = .ok (.iadd, 1) := by decide +kernel
theorem dX3_differenceMoved_92 : decode cX3_differenceMoved 92 = .ok (.iload 12, 2) := by decide +kernel
theorem dX3_differenceMoved_94 : decode cX3_differenceMoved 94 = .ok (.iadd, 1) := by decide +kernel
theorem dX3_differenceMoved_95 : decode cX3_differenceMoved 95 = .ok (.iaload, 1) := by decide +kernel
theorem dX3_differenceMoved_96 : decode cX3_differenceMoved 96 = .ok (.iload 13, 2) := by decide +kernel
theorem dX3_differenceMoved_98 : decode cX3_differenceMoved 98 = .ok (.isub, 1) := by decide +kernel
theorem dX3_differenceMoved_99 : decode cX3_differenceMoved 99 = .ok (.invokestatic 53, 3) := by decide +kernel
theorem dX3_differenceMoved_102 : decode cX3_differenceMoved 102 = .ok (.iadd, 1) := by decide +kernel
theorem dX3_differenceMoved_103 : decode cX3_differenceMoved 103 = .ok (.istore 10, 2) := by decide +kernel
theorem dX3_differenceMoved_105 : decode cX3_differenceMoved 105 = .ok (.iinc 12 1, 3) := by decide +kernel
theorem dX3_differenceMoved_108 : decode cX3_differenceMoved 108 = .ok (.goto (-55), 3) := by decide +kernel
theorem dX3_differenceMoved_111 : decode cX3_differenceMoved 111 = .ok (.iinc 11 1, 3) := by decide +kernel
theorem dX3_differenceMoved_114 : decode cX3_differenceMoved 114 = .ok (.goto (-78), 3) := by decide +kernel
theorem dX3_differenceMoved_117 : decode cX3_differenceMoved 117 = .ok (.iload 10, 2) := by decide +kernel
theorem dX3_differenceMoved_119 : decode cX3_differenceMoved 119 = .ok (.ireturn, 1) := by decide +kernel
theorem dX3_startAhead_0 : decode cX3_startAhead 0 = .ok (.iload_n 2, 1) := by decide +kernel
theorem dX3_startAhead_1 : decode cX3_startAhead 1 = .ok (.bipush (-6), 2) := by decide +kernel
theorem dX3_startAhead_3 : decode cX3_startAhead 3 = .ok (.if_icmp .lt 9, 3) := by decide +kernel
theorem dX3_startAhead_6 : decode cX3_startAhead 6 = .ok (.iload_n 2, 1) := by decide +kernel
theorem dX3_startAhead_7 : decode cX3_startAhead 7 = .ok (.bipush 6, 2) := by decide +kernel
theorem dX3_startAhead_9 : decode cX3_startAhead 9 = .ok (.if_icmp .le 7, 3) := by decide +kernel
theorem dX3_startAhead_12 : decode cX3_startAhead 12 = .ok (.iconst 0, 1) := by decide +kernel
theorem dX3_startAhead_13 : decode cX3_startAhead 13 = .ok (.goto 4, 3) := by decide +kernel
theorem dX3_startAhead_16 : decode cX3_startAhead 16 = .ok (.iload_n 2, 1) := by decide +kernel
theorem dX3_startAhead_17 : decode cX3_startAhead 17 = .ok (.istore 4, 2) := by decide +kernel
theorem dX3_startAhead_19 : decode cX3_startAhead 19 = .ok (.iload_n 3, 1) := by decide +kernel
theorem dX3_startAhead_20 : decode cX3_startAhead 20 = .ok (.bipush (-6), 2) := by decide +kernel
theorem dX3_startAhead_22 : decode cX3_startAhead 22 = .ok (.if_icmp .lt 9, 3) := by decide +kernel
theorem dX3_startAhead_25 : decode cX3_startAhead 25 = .ok (.iload_n 3, 1) := by decide +kernel
theorem dX3_startAhead_26 : decode cX3_startAhead 26 = .ok (.bipush 6, 2) := by decide +kernel
theorem dX3_startAhead_28 : decode cX3_startAhead 28 = .ok (.if_icmp .le 7, 3) := by decide +kernel
theorem dX3_startAhead_31 : decode cX3_startAhead 31 = .ok (.iconst 0, 1) := by decide +kernel
theorem dX3_startAhead_32 : decode cX3_startAhead 32 = .ok (.goto 4, 3) := by decide +kernel
theorem dX3_startAhead_35 : decode cX3_startAhead 35 = .ok (.iload_n 3, 1) := by decide +kernel
theorem dX3_startAhead_36 : decode cX3_startAhead 36 = .ok (.istore 5, 2) := by decide +kernel
theorem dX3_startAhead_38 : decode cX3_startAhead 38 = .ok (.iload_n 1, 1) := by decide +kernel
theorem dX3_startAhead_39 : decode cX3_startAhead 39 = .ok (.iconst 4, 1) := by decide +kernel
theorem dX3_startAhead_40 : decode cX3_startAhead 40 = .ok (.irem, 1) := by decide +kernel
theorem dX3_startAhead_41 : decode cX3_startAhead 41 = .ok (.bipush 8, 2) := by decide +kernel
theorem dX3_startAhead_43 : decode cX3_startAhead 43 = .ok (.imul, 1) := by decide +kernel
theorem dX3_startAhead_44 : decode cX3_startAhead 44 = .ok (.iconst 3, 1) := by decide +kernel
theorem dX3_startAhead_45 : decode cX3_startAhead 45 = .ok (.iadd, 1) := by decide +kernel
theorem dX3_startAhead_46 : decode cX3_startAhead 46 = .ok (.iload 4, 2) := by decide +kernel
theorem dX3_startAhead_48 : decode cX3_startAhead 48 = .ok (.iconst 1, 1) := by decide +kernel
theorem dX3_startAhead_49 : decode cX3_startAhead 49 = .ok (.ishr, 1) := by decide +kernel
theorem dX3_startAhead_50 : decode cX3_startAhead 50 = .ok (.iadd, 1) := by decide +kernel
theorem dX3_startAhead_51 : decode cX3_startAhead 51 = .ok (.istore 6, 2) := by decide +kernel
theorem dX3_startAhead_53 : decode cX3_startAhead 53 = .ok (.iload_n 1, 1) := by decide +kernel
theorem dX3_startAhead_54 : decode cX3_startAhead 54 = .ok (.iconst 4, 1) := by decide +kernel
theorem dX3_startAhead_55 : decode cX3_startAhead 55 = .ok (.idiv, 1) := by decide +kernel
theorem dX3_startAhead_56 : decode cX3_startAhead 56 = .ok (.bipush 8, 2) := by decide +kernel
theorem dX3_startAhead_58 : decode cX3_startAhead 58 = .ok (.imul, 1) := by decide +kernel
theorem dX3_startAhead_59 : decode cX3_startAhead 59 = .ok (.iconst 3, 1) := by decide +kernel
theorem dX3_startAhead_60 : decode cX3_startAhead 60 = .ok (.iadd, 1) := by decide +kernel
theorem dX3_startAhead_61 : decode cX3_startAhead 61 = .ok (.iload 5, 2) := by decide +kernel
theorem dX3_startAhead_63 : decode cX3_startAhead 63 = .ok (.iconst 1, 1) := by decide +kernel
theorem dX3_startAhead_64 : decode cX3_startAhead 64 = .ok (.ishr, 1) := by decide +kernel
theorem dX3_startAhead_65 : decode cX3_startAhead 65 = .ok (.iadd, 1) := by decide +kernel
theorem dX3_startAhead_66 : decode cX3_startAhead 66 = .ok (.istore 7, 2) := by decide +kernel
theorem dX3_startAhead_68 : decode cX3_startAhead 68 = .ok (.iload 7, 2) := by decide +kernel
theorem dX3_startAhead_70 : decode cX3_startAhead 70 = .ok (.bipush 38, 2) := by decide +kernel
theorem dX3_startAhead_72 : decode cX3_startAhead 72 = .ok (.imul, 1) := by decide +kernel
