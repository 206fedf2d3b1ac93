theorem dX3_startAhead_73 : decode cX3_startAhead 73 = .ok (.iload 6, 2) := by decide +kernel
theorem dX3_startAhead_75 : decode cX3_startAhead 75 = .ok (.iadd, 1) := by decide +kernel
theorem dX3_startAhead_76 : decode cX3_startAhead 76 = .ok (.ireturn, 1) := by decide +kernel
theorem dX3_between_0 : decode cX3_between 0 = .ok (.iload_n 2, 1) := by decide +kernel
theorem dX3_between_1 : decode cX3_between 1 = .ok (.ifCond .ne 14, 3) := by decide +kernel
theorem dX3_between_4 : decode cX3_between 4 = .ok (.iload_n 3, 1) := by decide +kernel
theorem dX3_between_5 : decode cX3_between 5 = .ok (.ifCond .ne 10, 3) := by decide +kernel
theorem dX3_between_8 : decode cX3_between 8 = .ok (.aload_n 0, 1) := by decide +kernel
theorem dX3_between_9 : decode cX3_between 9 = .ok (.getfield 11, 3) := by decide +kernel
theorem dX3_between_12 : decode cX3_between 12 = .ok (.iload_n 1, 1) := by decide +kernel
theorem dX3_between_13 : decode cX3_between 13 = .ok (.iaload, 1) := by decide +kernel
theorem dX3_between_14 : decode cX3_between 14 = .ok (.ireturn, 1) := by decide +kernel
theorem dX3_between_15 : decode cX3_between 15 = .ok (.aload_n 0, 1) := by decide +kernel
theorem dX3_between_16 : decode cX3_between 16 = .ok (.getfield 11, 3) := by decide +kernel
theorem dX3_between_19 : decode cX3_between 19 = .ok (.iload_n 1, 1) := by decide +kernel
theorem dX3_between_20 : decode cX3_between 20 = .ok (.iaload, 1) := by decide +kernel
theorem dX3_between_21 : decode cX3_between 21 = .ok (.aload_n 0, 1) := by decide +kernel
theorem dX3_between_22 : decode cX3_between 22 = .ok (.getfield 11, 3) := by decide +kernel
theorem dX3_between_25 : decode cX3_between 25 = .ok (.iload_n 1, 1) := by decide +kernel
theorem dX3_between_26 : decode cX3_between 26 = .ok (.iload_n 2, 1) := by decide +kernel
theorem dX3_between_27 : decode cX3_between 27 = .ok (.iadd, 1) := by decide +kernel
theorem dX3_between_28 : decode cX3_between 28 = .ok (.iaload, 1) := by decide +kernel
theorem dX3_between_29 : decode cX3_between 29 = .ok (.iadd, 1) := by decide +kernel
theorem dX3_between_30 : decode cX3_between 30 = .ok (.istore 4, 2) := by decide +kernel
theorem dX3_between_32 : decode cX3_between 32 = .ok (.aload_n 0, 1) := by decide +kernel
theorem dX3_between_33 : decode cX3_between 33 = .ok (.getfield 11, 3) := by decide +kernel
theorem dX3_between_36 : decode cX3_between 36 = .ok (.iload_n 1, 1) := by decide +kernel
theorem dX3_between_37 : decode cX3_between 37 = .ok (.iload_n 3, 1) := by decide +kernel
theorem dX3_between_38 : decode cX3_between 38 = .ok (.iadd, 1) := by decide +kernel
theorem dX3_between_39 : decode cX3_between 39 = .ok (.iaload, 1) := by decide +kernel
theorem dX3_between_40 : decode cX3_between 40 = .ok (.aload_n 0, 1) := by decide +kernel
theorem dX3_between_41 : decode cX3_between 41 = .ok (.getfield 11, 3) := by decide +kernel
theorem dX3_between_44 : decode cX3_between 44 = .ok (.iload_n 1, 1) := by decide +kernel
theorem dX3_between_45 : decode cX3_between 45 = .ok (.iload_n 3, 1) := by decide +kernel
theorem dX3_between_46 : decode cX3_between 46 = .ok (.iadd, 1) := by decide +kernel
theorem dX3_between_47 : decode cX3_between 47 = .ok (.iload_n 2, 1) := by decide +kernel
theorem dX3_between_48 : decode cX3_between 48 = .ok (.iadd, 1) := by decide +kernel
theorem dX3_between_49 : decode cX3_between 49 = .ok (.iaload, 1) := by decide +kernel
theorem dX3_between_50 : decode cX3_between 50 = .ok (.iadd, 1) := by decide +kernel
theorem dX3_between_51 : decode cX3_between 51 = .ok (.istore 5, 2) := by decide +kernel
theorem dX3_between_53 : decode cX3_between 53 = .ok (.iload 4, 2) := by decide +kernel
theorem dX3_between_55 : decode cX3_between 55 = .ok (.iload 5, 2) := by decide +kernel
theorem dX3_between_57 : decode cX3_between 57 = .ok (.iadd, 1) := by decide +kernel
theorem dX3_between_58 : decode cX3_between 58 = .ok (.iconst 2, 1) := by decide +kernel
theorem dX3_between_59 : decode cX3_between 59 = .ok (.iadd, 1) := by decide +kernel
theorem dX3_between_60 : decode cX3_between 60 = .ok (.iconst 2, 1) := by decide +kernel
theorem dX3_between_61 : decode cX3_between 61 = .ok (.ishr, 1) := by decide +kernel
theorem dX3_between_62 : decode cX3_between 62 = .ok (.ireturn, 1) := by decide +kernel
set_option maxRecDepth 20000 in
theorem ggX3_foretellFlat_X5_isFirstOfBand : GoodIn wsX3_foretellFlat wsX5_isFirstOfBand := goodIn_r _ [5] (by decide +kernel) (by decide +kernel)
set_option maxRecDepth 20000 in
theorem gX3_foretellFlat_X5_isFirstOfBand_n58 : GoodIn wsX3_foretellFlat (wsX5_isFirstOfBand) := ggX3_foretellFlat_X5_isFirstOfBand
set_option maxRecDepth 20000 in
theorem ggX3_foretellFlat_X5_firstPointOf : GoodIn wsX3_foretellFlat wsX5_firstPointOf := goodIn_r _ [7] (by decide +kernel) (by decide +kernel)
set_option maxRecDepth 20000 in
theorem gX3_foretellFlat_X5_firstPointOf_n49 : GoodIn wsX3_foretellFlat (wsX5_firstPointOf) := ggX3_foretellFlat_X5_firstPointOf
set_option maxRecDepth 20000 in
theorem ggX3_foretellFlat_J7_fill_53178 : GoodIn wsX3_foretellFlat wsJ7_fill_53178 := goodIn_r _ [11] (by decide +kernel) (by decide +kernel)
set_option maxRecDepth 20000 in
theorem gX3_foretellFlat_J7_fill_53178 : GoodIn wsX3_foretellFlat (va_wsS RX3 62 yJ7_fill_53178 wsJ7_fill_53178) := goodIn_app (goodIn_of _ (by decide +kernel)) ggX3_foretellFlat_J7_fill_53178
theorem dX3_foretellFlat_0 : decode cX3_foretellFlat 0 = .ok (.sipush 128, 3) := by decide +kernel
theorem dX3_foretellFlat_3 : decode cX3_foretellFlat 3 = .ok (.istore_n 2, 1) := by decide +kernel
theorem dX3_foretellFlat_4 : decode cX3_foretellFlat 4 = .ok (.iload_n 1, 1) := by decide +kernel
theorem dX3_foretellFlat_5 : decode cX3_foretellFlat 5 = .ok (.invokestatic 58, 3) := by decide +kernel
theorem dX3_foretellFlat_8 : decode cX3_foretellFlat 8 = .ok (.ifCond .ne 53, 3) := by decide +kernel
theorem dX3_foretellFlat_11 : decode cX3_foretellFlat 11 = .ok (.iload_n 1, 1) := by decide +kernel
theorem dX3_foretellFlat_12 : decode cX3_foretellFlat 12 = .ok (.invokestatic 49, 3) := by decide +kernel
theorem dX3_foretellFlat_15 : decode cX3_foretellFlat 15 = .ok (.iconst 1, 1) := by decide +kernel
theorem dX3_foretellFlat_16 : decode cX3_foretellFlat 16 = .ok (.isub, 1) := by decide +kernel
theorem dX3_foretellFlat_17 : decode cX3_foretellFlat 17 = .ok (.istore_n 3, 1) := by decide +kernel
theorem dX3_foretellFlat_18 : decode cX3_foretellFlat 18 = .ok (.iconst 0, 1) := by decide +kernel
theorem dX3_foretellFlat_19 : decode cX3_foretellFlat 19 = .ok (.istore 4, 2) := by decide +kernel
theorem dX3_foretellFlat_21 : decode cX3_foretellFlat 21 = .ok (.iconst 0, 1) := by decide +kernel
theorem dX3_foretellFlat_22 : decode cX3_foretellFlat 22 = .ok (.istore 5, 2) := by decide +kernel
theorem dX3_foretellFlat_24 : decode cX3_foretellFlat 24 = .ok (.iload 5, 2) := by decide +kernel
theorem dX3_foretellFlat_26 : decode cX3_foretellFlat 26 = .ok (.bipush 8, 2) := by decide +kernel
theorem dX3_foretellFlat_28 : decode cX3_foretellFlat 28 = .ok (.if_icmp .ge 26, 3) := by decide +kernel
theorem dX3_foretellFlat_31 : decode cX3_foretellFlat 31 = .ok (.iload 4, 2) := by decide +kernel
theorem dX3_foretellFlat_33 : decode cX3_foretellFlat 33 = .ok (.aload_n 0, 1) := by decide +kernel
theorem dX3_foretellFlat_34 : decode cX3_foretellFlat 34 = .ok (.getfield 18, 3) := by decide +kernel
theorem dX3_foretellFlat_37 : decode cX3_foretellFlat 37 = .ok (.iload_n 3, 1) := by decide +kernel
theorem dX3_foretellFlat_38 : decode cX3_foretellFlat 38 = .ok (.iload 5, 2) := by decide +kernel
theorem dX3_foretellFlat_40 : decode cX3_foretellFlat 40 = .ok (.bipush 32, 2) := by decide +kernel
theorem dX3_foretellFlat_42 : decode cX3_foretellFlat 42 = .ok (.imul, 1) := by decide +kernel
theorem dX3_foretellFlat_43 : decode cX3_foretellFlat 43 = .ok (.iadd, 1) := by decide +kernel
theorem dX3_foretellFlat_44 : decode cX3_foretellFlat 44 = .ok (.iaload, 1) := by decide +kernel
theorem dX3_foretellFlat_45 : decode cX3_foretellFlat 45 = .ok (.iadd, 1) := by decide +kernel
theorem dX3_foretellFlat_46 : decode cX3_foretellFlat 46 = .ok (.istore 4, 2) := by decide +kernel
theorem dX3_foretellFlat_48 : decode cX3_foretellFlat 48 = .ok (.iinc 5 1, 3) := by decide +kernel
theorem dX3_foretellFlat_51 : decode cX3_foretellFlat 51 = .ok (.goto (-27), 3) := by decide +kernel
theorem dX3_foretellFlat_54 : decode cX3_foretellFlat 54 = .ok (.iload 4, 2) := by decide +kernel
theorem dX3_foretellFlat_56 : decode cX3_foretellFlat 56 = .ok (.iconst 4, 1) := by decide +kernel
theorem dX3_foretellFlat_57 : decode cX3_foretellFlat 57 = .ok (.iadd, 1) := by decide +kernel
theorem dX3_foretellFlat_58 : decode cX3_foretellFlat 58 = .ok (.iconst 3, 1) := by decide +kernel
theorem dX3_foretellFlat_59 : decode cX3_foretellFlat 59 = .ok (.ishr, 1) := by decide +kernel
theorem dX3_foretellFlat_60 : decode cX3_foretellFlat 60 = .ok (.istore_n 2, 1) := by decide +kernel
theorem dX3_foretellFlat_61 : decode cX3_foretellFlat 61 = .ok (.aload_n 0, 1) := by decide +kernel
theorem dX3_foretellFlat_62 : decode cX3_foretellFlat 62 = .ok (.getfield 21, 3) := by decide +kernel
theorem dX3_foretellFlat_65 : decode cX3_foretellFlat 65 = .ok (.iload_n 2, 1) := by decide +kernel
theorem dX3_foretellFlat_66 : decode cX3_foretellFlat 66 = .ok (.invokestatic 62, 3) := by decide +kernel
theorem dX3_foretellFlat_69 : decode cX3_foretellFlat 69 = .ok (.return_, 1) := by decide +kernel
set_option maxRecDepth 20000 in
theorem ggX3_foretellLeft_X5_isFirstOfBand : GoodIn wsX3_foretellLeft wsX5_isFirstOfBand := goodIn_r _ [5] (by decide +kernel) (by decide +kernel)
set_option maxRecDepth 20000 in
theorem gX3_foretellLeft_X5_isFirstOfBand_n58 : GoodIn wsX3_foretellLeft (wsX5_isFirstOfBand) := ggX3_foretellLeft_X5_isFirstOfBand
set_option maxRecDepth 20000 in
theorem ggX3_foretellLeft_X5_firstPointOf : GoodIn wsX3_foretellLeft wsX5_firstPointOf := goodIn_r _ [7] (by decide +kernel) (by decide +kernel)
set_option maxRecDepth 20000 in
theorem gX3_foretellLeft_X5_firstPointOf_n49 : GoodIn wsX3_foretellLeft (wsX5_firstPointOf) := ggX3_foretellLeft_X5_firstPointOf
theorem dX3_foretellLeft_0 : decode cX3_foretellLeft 0 = .ok (.iload_n 1, 1) := by decide +kernel
theorem dX3_foretellLeft_1 : decode cX3_foretellLeft 1 = .ok (.invokestatic 58, 3) := by decide +kernel
theorem dX3_foretellLeft_4 : decode cX3_foretellLeft 4 = .ok (.ifCond .eq 4, 3) := by decide +kernel
theorem dX3_foretellLeft_7 : decode cX3_foretellLeft 7 = .ok (.return_, 1) := by decide +kernel
theorem dX3_foretellLeft_8 : decode cX3_foretellLeft 8 = .ok (.iload_n 1, 1) := by decide +kernel
theorem dX3_foretellLeft_9 : decode cX3_foretellLeft 9 = .ok (.invokestatic 49, 3) := by decide +kernel
theorem dX3_foretellLeft_12 : decode cX3_foretellLeft 12 = .ok (.iconst 1, 1) := by decide +kernel
theorem dX3_foretellLeft_13 : decode cX3_foretellLeft 13 = .ok (.isub, 1) := by decide +kernel
theorem dX3_foretellLeft_14 : decode cX3_foretellLeft 14 = .ok (.istore_n 2, 1) := by decide +kernel
theorem dX3_foretellLeft_15 : decode cX3_foretellLeft 15 = .ok (.iconst 0, 1) := by decide +kernel
theorem dX3_foretellLeft_16 : decode cX3_foretellLeft 16 = .ok (.istore_n 3, 1) := by decide +kernel
theorem dX3_foretellLeft_17 : decode cX3_foretellLeft 17 = .ok (.iload_n 3, 1) := by decide +kernel
theorem dX3_foretellLeft_18 : decode cX3_foretellLeft 18 = .ok (.bipush 64, 2) := by decide +kernel
theorem dX3_foretellLeft_20 : decode cX3_foretellLeft 20 = .ok (.if_icmp .ge 29, 3) := by decide +kernel
theorem dX3_foretellLeft_23 : decode cX3_foretellLeft 23 = .ok (.aload_n 0, 1) := by decide +kernel
theorem dX3_foretellLeft_24 : decode cX3_foretellLeft 24 = .ok (.getfield 21, 3) := by decide +kernel
theorem dX3_foretellLeft_27 : decode cX3_foretellLeft 27 = .ok (.iload_n 3, 1) := by decide +kernel
theorem dX3_foretellLeft_28 : decode cX3_foretellLeft 28 = .ok (.aload_n 0, 1) := by decide +kernel
theorem dX3_foretellLeft_29 : decode cX3_foretellLeft 29 = .ok (.getfield 18, 3) := by decide +kernel
theorem dX3_foretellLeft_32 : decode cX3_foretellLeft 32 = .ok (.iload_n 2, 1) := by decide +kernel
theorem dX3_foretellLeft_33 : decode cX3_foretellLeft 33 = .ok (.iload_n 3, 1) := by decide +kernel
theorem dX3_foretellLeft_34 : decode cX3_foretellLeft 34 = .ok (.bipush 8, 2) := by decide +kernel
theorem dX3_foretellLeft_36 : decode cX3_foretellLeft 36 = .ok (.idiv, 1) := by decide +kernel
theorem dX3_foretellLeft_37 : decode cX3_foretellLeft 37 = .ok (.bipush 32, 2) := by decide +kernel
theorem dX3_foretellLeft_39 : decode cX3_foretellLeft 39 = .ok (.imul, 1) := by decide +kernel
theorem dX3_foretellLeft_40 : decode cX3_foretellLeft 40 = .ok (.iadd, 1) := by decide +kernel
theorem dX3_foretellLeft_41 : decode cX3_foretellLeft 41 = .ok (.iaload, 1) := by decide +kernel
theorem dX3_foretellLeft_42 : decode cX3_foretellLeft 42 = .ok (.iastore, 1) := by decide +kernel
theorem dX3_foretellLeft_43 : decode cX3_foretellLeft 43 = .ok (.iinc 3 1, 3) := by decide +kernel
theorem dX3_foretellLeft_46 : decode cX3_foretellLeft 46 = .ok (.goto (-29), 3) := by decide +kernel
theorem dX3_foretellLeft_49 : decode cX3_foretellLeft 49 = .ok (.return_, 1) := by decide +kernel
set_option maxRecDepth 20000 in
theorem ggX3_foretellTrend_X5_isFirstOfBand : GoodIn wsX3_foretellTrend wsX5_isFirstOfBand := goodIn_r _ [5] (by decide +kernel) (by decide +kernel)
set_option maxRecDepth 20000 in
theorem gX3_foretellTrend_X5_isFirstOfBand_n58 : GoodIn wsX3_foretellTrend (wsX5_isFirstOfBand) := ggX3_foretellTrend_X5_isFirstOfBand
set_option maxRecDepth 20000 in
theorem ggX3_foretellTrend_X5_firstPointOf : GoodIn wsX3_foretellTrend wsX5_firstPointOf := goodIn_r _ [7] (by decide +kernel) (by decide +kernel)
set_option maxRecDepth 20000 in
theorem gX3_foretellTrend_X5_firstPointOf_n49 : GoodIn wsX3_foretellTrend (wsX5_firstPointOf) := ggX3_foretellTrend_X5_firstPointOf
set_option maxRecDepth 20000 in
theorem ggX3_foretellTrend_X5_clip : GoodIn wsX3_foretellTrend wsX5_clip := goodIn_r _ [9] (by decide +kernel) (by decide +kernel)
set_option maxRecDepth 20000 in
theorem gX3_foretellTrend_X5_clip_n68 : GoodIn wsX3_foretellTrend (wsX5_clip) := ggX3_foretellTrend_X5_clip
theorem dX3_foretellTrend_0 : decode cX3_foretellTrend 0 = .ok (.iload_n 1, 1) := by decide +kernel
theorem dX3_foretellTrend_1 : decode cX3_foretellTrend 1 = .ok (.invokestatic 58, 3) := by decide +kernel
theorem dX3_foretellTrend_4 : decode cX3_foretellTrend 4 = .ok (.ifCond .eq 4, 3) := by decide +kernel
theorem dX3_foretellTrend_7 : decode cX3_foretellTrend 7 = .ok (.return_, 1) := by decide +kernel
theorem dX3_foretellTrend_8 : decode cX3_foretellTrend 8 = .ok (.iload_n 1, 1) := by decide +kernel
theorem dX3_foretellTrend_9 : decode cX3_foretellTrend 9 = .ok (.invokestatic 49, 3) := by decide +kernel
theorem dX3_foretellTrend_12 : decode cX3_foretellTrend 12 = .ok (.iconst 1, 1) := by decide +kernel
theorem dX3_foretellTrend_13 : decode cX3_foretellTrend 13 = .ok (.isub, 1) := by decide +kernel
theorem dX3_foretellTrend_14 : decode cX3_foretellTrend 14 = .ok (.istore_n 2, 1) := by decide +kernel
theorem dX3_foretellTrend_15 : decode cX3_foretellTrend 15 = .ok (.iconst 0, 1) := by decide +kernel
theorem dX3_foretellTrend_16 : decode cX3_foretellTrend 16 = .ok (.istore_n 3, 1) := by decide +kernel
theorem dX3_foretellTrend_17 : decode cX3_foretellTrend 17 = .ok (.iload_n 3, 1) := by decide +kernel
theorem dX3_foretellTrend_18 : decode cX3_foretellTrend 18 = .ok (.bipush 64, 2) := by decide +kernel
theorem dX3_foretellTrend_20 : decode cX3_foretellTrend 20 = .ok (.if_icmp .ge 69, 3) := by decide +kernel
theorem dX3_foretellTrend_23 : decode cX3_foretellTrend 23 = .ok (.aload_n 0, 1) := by decide +kernel
theorem dX3_foretellTrend_24 : decode cX3_foretellTrend 24 = .ok (.getfield 18, 3) := by decide +kernel
theorem dX3_foretellTrend_27 : decode cX3_foretellTrend 27 = .ok (.iload_n 2, 1) := by decide +kernel
theorem dX3_foretellTrend_28 : decode cX3_foretellTrend 28 = .ok (.iload_n 3, 1) := by decide +kernel
theorem dX3_foretellTrend_29 : decode cX3_foretellTrend 29 = .ok (.bipush 8, 2) := by decide +kernel
theorem dX3_foretellTrend_31 : decode cX3_foretellTrend 31 = .ok (.idiv, 1) := by decide +kernel
theorem dX3_foretellTrend_32 : decode cX3_foretellTrend 32 = .ok (.bipush 32, 2) := by decide +kernel
theorem dX3_foretellTrend_34 : decode cX3_foretellTrend 34 = .ok (.imul, 1) := by decide +kernel
theorem dX3_foretellTrend_35 : decode cX3_foretellTrend 35 = .ok (.iadd, 1) := by decide +kernel
theorem dX3_foretellTrend_36 : decode cX3_foretellTrend 36 = .ok (.iaload, 1) := by decide +kernel
theorem dX3_foretellTrend_37 : decode cX3_foretellTrend 37 = .ok (.istore 4, 2) := by decide +kernel
theorem dX3_foretellTrend_39 : decode cX3_foretellTrend 39 = .ok (.aload_n 0, 1) := by decide +kernel
theorem dX3_foretellTrend_40 : decode cX3_foretellTrend 40 = .ok (.getfield 18, 3) := by decide +kernel
theorem dX3_foretellTrend_43 : decode cX3_foretellTrend 43 = .ok (.iload_n 2, 1) := by decide +kernel
theorem dX3_foretellTrend_44 : decode cX3_foretellTrend 44 = .ok (.iload_n 3, 1) := by decide +kernel
theorem dX3_foretellTrend_45 : decode cX3_foretellTrend 45 = .ok (.bipush 8, 2) := by decide +kernel
theorem dX3_foretellTrend_47 : decode cX3_foretellTrend 47 = .ok (.idiv, 1) := by decide +kernel
theorem dX3_foretellTrend_48 : decode cX3_foretellTrend 48 = .ok (.bipush 32, 2) := by decide +kernel
theorem dX3_foretellTrend_50 : decode cX3_foretellTrend 50 = .ok (.imul, 1) := by decide +kernel
theorem dX3_foretellTrend_51 : decode cX3_foretellTrend 51 = .ok (.iadd, 1) := by decide +kernel
theorem dX3_foretellTrend_52 : decode cX3_foretellTrend 52 = .ok (.iconst 4, 1) := by decide +kernel
theorem dX3_foretellTrend_53 : decode cX3_foretellTrend 53 = .ok (.isub, 1) := by decide +kernel
theorem dX3_foretellTrend_54 : decode cX3_foretellTrend 54 = .ok (.iaload, 1) := by decide +kernel
theorem dX3_foretellTrend_55 : decode cX3_foretellTrend 55 = .ok (.istore 5, 2) := by decide +kernel
theorem dX3_foretellTrend_57 : decode cX3_foretellTrend 57 = .ok (.aload_n 0, 1) := by decide +kernel
theorem dX3_foretellTrend_58 : decode cX3_foretellTrend 58 = .ok (.getfield 21, 3) := by decide +kernel
theorem dX3_foretellTrend_61 : decode cX3_foretellTrend 61 = .ok (.iload_n 3, 1) := by decide +kernel
theorem dX3_foretellTrend_62 : decode cX3_foretellTrend 62 = .ok (.iload 4, 2) := by decide +kernel
theorem dX3_foretellTrend_64 : decode cX3_foretellTrend 64 = .ok (.iload 4, 2) := by decide +kernel
theorem dX3_foretellTrend_66 : decode cX3_foretellTrend 66 = .ok (.iload 5, 2) := by decide +kernel
theorem dX3_foretellTrend_68 : decode cX3_foretellTrend 68 = .ok (.isub, 1) := by decide +kernel
theorem dX3_foretellTrend_69 : decode cX3_foretellTrend 69 = .ok (.iload_n 3, 1) := by decide +kernel
theorem dX3_foretellTrend_70 : decode cX3_foretellTrend 70 = .ok (.bipush 8, 2) := by decide +kernel
theorem dX3_foretellTrend_72 : decode cX3_foretellTrend 72 = .ok (.irem, 1) := by decide +kernel
theorem dX3_foretellTrend_73 : decode cX3_foretellTrend 73 = .ok (.iconst 1, 1) := by decide +kernel
theorem dX3_foretellTrend_74 : decode cX3_foretellTrend 74 = .ok (.iadd, 1) := by decide +kernel
theorem dX3_foretellTrend_75 : decode cX3_foretellTrend 75 = .ok (.imul, 1) := by decide +kernel
theorem dX3_foretellTrend_76 : decode cX3_foretellTrend 76 = .ok (.iconst 2, 1) := by decide +kernel
theorem dX3_foretellTrend_77 : decode cX3_foretellTrend 77 = .ok (.ishr, 1) := by decide +kernel
theorem dX3_foretellTrend_78 : decode cX3_foretellTrend 78 = .ok (.iadd, 1) := by decide +kernel
theorem dX3_foretellTrend_79 : decode cX3_foretellTrend 79 = .ok (.invokestatic 68, 3) := by decide +kernel
theorem dX3_foretellTrend_82 : decode cX3_foretellTrend 82 = .ok (.iastore, 1) := by decide +kernel
theorem dX3_foretellTrend_83 : decode cX3_foretellTrend 83 = .ok (.iinc 3 1, 3) := by decide +kernel
theorem dX3_foretellTrend_86 : decode cX3_foretellTrend 86 = .ok (.goto (-69), 3) := by decide +kernel
theorem dX3_foretellTrend_89 : decode cX3_foretellTrend 89 = .ok (.return_, 1) := by decide +kernel
set_option maxRecDepth 20000 in
theorem ggX3_difference_X5_firstPointOf : GoodIn wsX3_difference wsX5_firstPointOf := goodIn_r _ [8] (by decide +kernel) (by decide +kernel)
set_option maxRecDepth 20000 in
theorem gX3_difference_X5_firstPointOf_n49 : GoodIn wsX3_difference (wsX5_firstPointOf) := ggX3_difference_X5_firstPointOf
theorem dX3_difference_0 : decode cX3_difference 0 = .ok (.iload_n 2, 1) := by decide +kernel
theorem dX3_difference_1 : decode cX3_difference 1 = .ok (.invokestatic 49, 3) := by decide +kernel
theorem dX3_difference_4 : decode cX3_difference 4 = .ok (.istore_n 3, 1) := by decide +kernel
theorem dX3_difference_5 : decode cX3_difference 5 = .ok (.iconst 0, 1) := by decide +kernel
theorem dX3_difference_6 : decode cX3_difference 6 = .ok (.istore 4, 2) := by decide +kernel
theorem dX3_difference_8 : decode cX3_difference 8 = .ok (.iconst 0, 1) := by decide +kernel
theorem dX3_difference_9 : decode cX3_difference 9 = .ok (.istore 5, 2) := by decide +kernel
theorem dX3_difference_11 : decode cX3_difference 11 = .ok (.iload 5, 2) := by decide +kernel
theorem dX3_difference_13 : decode cX3_difference 13 = .ok (.bipush 64, 2) := by decide +kernel
theorem dX3_difference_15 : decode cX3_difference 15 = .ok (.if_icmp .ge 43, 3) := by decide +kernel
theorem dX3_difference_18 : decode cX3_difference 18 = .ok (.iload 4, 2) := by decide +kernel
theorem dX3_difference_20 : decode cX3_difference 20 = .ok (.aload_n 1, 1) := by decide +kernel
theorem dX3_difference_21 : decode cX3_difference 21 = .ok (.iload_n 3, 1) := by decide +kernel
theorem dX3_difference_22 : decode cX3_difference 22 = .ok (.iload 5, 2) := by decide +kernel
theorem dX3_difference_24 : decode cX3_difference 24 = .ok (.bipush 8, 2) := by decide +kernel
theorem dX3_difference_26 : decode cX3_difference 26 = .ok (.idiv, 1) := by decide +kernel
theorem dX3_difference_27 : decode cX3_difference 27 = .ok (.bipush 32, 2) := by decide +kernel
theorem dX3_difference_29 : decode cX3_difference 29 = .ok (.imul, 1) := by decide +kernel
theorem dX3_difference_30 : decode cX3_difference 30 = .ok (.iadd, 1) := by decide +kernel
theorem dX3_difference_31 : decode cX3_difference 31 = .ok (.iload 5, 2) := by decide +kernel
theorem dX3_difference_33 : decode cX3_difference 33 = .ok (.bipush 8, 2) := by decide +kernel
theorem dX3_difference_35 : decode cX3_difference 35 = .ok (.irem, 1) := by decide +kernel
theorem dX3_difference_36 : decode cX3_difference 36 = .ok (.iadd, 1) := by decide +kernel
theorem dX3_difference_37 : decode cX3_difference 37 = .ok (.iaload, 1) := by decide +kernel
theorem dX3_difference_38 : decode cX3_difference 38 = .ok (.aload_n 0, 1) := by decide +kernel
theorem dX3_difference_39 : decode cX3_difference 39 = .ok (.getfield 21, 3) := by decide +kernel
theorem dX3_difference_42 : decode cX3_difference 42 = .ok (.iload 5, 2) := by decide +kernel
theorem dX3_difference_44 : decode cX3_difference 44 = .ok (.iaload, 1) := by decide +kernel
theorem dX3_difference_45 : decode cX3_difference 45 = .ok (.isub, 1) := by decide +kernel
theorem dX3_difference_46 : decode cX3_difference 46 = .ok (.invokestatic 53, 3) := by decide +kernel
theorem dX3_difference_49 : decode cX3_difference 49 = .ok (.iadd, 1) := by decide +kernel
theorem dX3_difference_50 : decode cX3_difference 50 = .ok (.istore 4, 2) := by decide +kernel
theorem dX3_difference_52 : decode cX3_difference 52 = .ok (.iinc 5 1, 3) := by decide +kernel
theorem dX3_difference_55 : decode cX3_difference 55 = .ok (.goto (-44), 3) := by decide +kernel
theorem dX3_difference_58 : decode cX3_difference 58 = .ok (.iload 4, 2) := by decide +kernel
theorem dX3_difference_60 : decode cX3_difference 60 = .ok (.ireturn, 1) := by decide +kernel
set_option maxRecDepth 20000 in
theorem ggX3_measure_X3_placeInBlock : GoodIn wsX3_measure wsX3_placeInBlock := goodIn_r _ [7] (by decide +kernel) (by decide +kernel)
set_option maxRecDepth 20000 in
theorem gX3_measure_X3_placeInBlock : GoodIn wsX3_measure (va_wsS RX3 71 yX3_placeInBlock wsX3_placeInBlock) := goodIn_app (goodIn_of _ (by decide +kernel)) ggX3_measure_X3_placeInBlock
set_option maxRecDepth 20000 in
theorem ggX3_measure_X3_pointOf : GoodIn wsX3_measure wsX3_pointOf := goodIn_r _ [10, 11, 12, 13] (by decide +kernel) (by decide +kernel)
set_option maxRecDepth 20000 in
theorem gX3_measure_X3_pointOf : GoodIn wsX3_measure (va_wsS RX3 74 yX3_pointOf wsX3_pointOf) := goodIn_app (goodIn_of _ (by decide +kernel)) ggX3_measure_X3_pointOf
set_option maxRecDepth 20000 in
theorem ggX3_measure_X3_turnQuarter : GoodIn wsX3_measure wsX3_turnQuarter := goodIn_r _ [17, 18, 19, 20, 6, 21, 1, 29, 30, 31, 32] (by decide +kernel) (by decide +kernel)
set_option maxRecDepth 20000 in
theorem gX3_measure_X3_turnQuarter : GoodIn wsX3_measure (wsV RX3 77 RX3 yX3_turnQuarter wsX3_turnQuarter) := goodIn_app (goodIn_of _ (by decide +kernel)) ggX3_measure_X3_turnQuarter
set_option maxRecDepth 20000 in
theorem ggX3_measure_X3_levelOf : GoodIn wsX3_measure wsX3_levelOf := goodIn_r _ [24, 25, 26, 27, 28] (by decide +kernel) (by decide +kernel)
set_option maxRecDepth 20000 in
theorem gX3_measure_X3_levelOf : GoodIn wsX3_measure (va_wsS RX3 83 yX3_levelOf wsX3_levelOf) := goodIn_app (goodIn_of _ (by decide +kernel)) ggX3_measure_X3_levelOf
theorem dX3_measure_0 : decode cX3_measure 0 = .ok (.iconst 1, 1) := by decide +kernel
theorem dX3_measure_1 : decode cX3_measure 1 = .ok (.istore 5, 2) := by decide +kernel
theorem dX3_measure_3 : decode cX3_measure 3 = .ok (.iconst 0, 1) := by decide +kernel
theorem dX3_measure_4 : decode cX3_measure 4 = .ok (.istore 6, 2) := by decide +kernel
theorem dX3_measure_6 : decode cX3_measure 6 = .ok (.iload 6, 2) := by decide +kernel
theorem dX3_measure_8 : decode cX3_measure 8 = .ok (.iconst 4, 1) := by decide +kernel
theorem dX3_measure_9 : decode cX3_measure 9 = .ok (.if_icmp .ge 139, 3) := by decide +kernel
theorem dX3_measure_12 : decode cX3_measure 12 = .ok (.iconst 0, 1) := by decide +kernel
theorem dX3_measure_13 : decode cX3_measure 13 = .ok (.istore 7, 2) := by decide +kernel
theorem dX3_measure_15 : decode cX3_measure 15 = .ok (.iload 7, 2) := by decide +kernel
theorem dX3_measure_17 : decode cX3_measure 17 = .ok (.bipush 16, 2) := by decide +kernel
theorem dX3_measure_19 : decode cX3_measure 19 = .ok (.if_icmp .ge 45, 3) := by decide +kernel
theorem dX3_measure_22 : decode cX3_measure 22 = .ok (.iload 6, 2) := by decide +kernel
theorem dX3_measure_24 : decode cX3_measure 24 = .ok (.iload 7, 2) := by decide +kernel
theorem dX3_measure_26 : decode cX3_measure 26 = .ok (.invokestatic 71, 3) := by decide +kernel
theorem dX3_measure_29 : decode cX3_measure 29 = .ok (.istore 8, 2) := by decide +kernel
theorem dX3_measure_31 : decode cX3_measure 31 = .ok (.iload_n 2, 1) := by decide +kernel
theorem dX3_measure_32 : decode cX3_measure 32 = .ok (.iload 8, 2) := by decide +kernel
theorem dX3_measure_34 : decode cX3_measure 34 = .ok (.invokestatic 74, 3) := by decide +kernel
theorem dX3_measure_37 : decode cX3_measure 37 = .ok (.istore 9, 2) := by decide +kernel
theorem dX3_measure_39 : decode cX3_measure 39 = .ok (.aload_n 0, 1) := by decide +kernel
theorem dX3_measure_40 : decode cX3_measure 40 = .ok (.getfield 15, 3) := by decide +kernel
theorem dX3_measure_43 : decode cX3_measure 43 = .ok (.iload 7, 2) := by decide +kernel
theorem dX3_measure_45 : decode cX3_measure 45 = .ok (.aload_n 1, 1) := by decide +kernel
theorem dX3_measure_46 : decode cX3_measure 46 = .ok (.iload 9, 2) := by decide +kernel
theorem dX3_measure_48 : decode cX3_measure 48 = .ok (.iaload, 1) := by decide +kernel
theorem dX3_measure_49 : decode cX3_measure 49 = .ok (.aload_n 0, 1) := by decide +kernel
theorem dX3_measure_50 : decode cX3_measure 50 = .ok (.getfield 21, 3) := by decide +kernel
theorem dX3_measure_53 : decode cX3_measure 53 = .ok (.iload 8, 2) := by decide +kernel
theorem dX3_measure_55 : decode cX3_measure 55 = .ok (.iaload, 1) := by decide +kernel
theorem dX3_measure_56 : decode cX3_measure 56 = .ok (.isub, 1) := by decide +kernel
theorem dX3_measure_57 : decode cX3_measure 57 = .ok (.iastore, 1) := by decide +kernel
theorem dX3_measure_58 : decode cX3_measure 58 = .ok (.iinc 7 1, 3) := by decide +kernel
theorem dX3_measure_61 : decode cX3_measure 61 = .ok (.goto (-46), 3) := by decide +kernel
theorem dX3_measure_64 : decode cX3_measure 64 = .ok (.aload_n 0, 1) := by decide +kernel
theorem dX3_measure_65 : decode cX3_measure 65 = .ok (.invokevirtual 77, 3) := by decide +kernel
theorem dX3_measure_68 : decode cX3_measure 68 = .ok (.iload_n 2, 1) := by decide +kernel
theorem dX3_measure_69 : decode cX3_measure 69 = .ok (.bipush 64, 2) := by decide +kernel
theorem dX3_measure_71 : decode cX3_measure 71 = .ok (.imul, 1) := by decide +kernel
theorem dX3_measure_72 : decode cX3_measure 72 = .ok (.iload 6, 2) := by decide +kernel
theorem dX3_measure_74 : decode cX3_measure 74 = .ok (.bipush 16, 2) := by decide +kernel
theorem dX3_measure_76 : decode cX3_measure 76 = .ok (.imul, 1) := by decide +kernel
theorem dX3_measure_77 : decode cX3_measure 77 = .ok (.iadd, 1) := by decide +kernel
theorem dX3_measure_78 : decode cX3_measure 78 = .ok (.istore 7, 2) := by decide +kernel
theorem dX3_measure_80 : decode cX3_measure 80 = .ok (.iconst 0, 1) := by decide +kernel
theorem dX3_measure_81 : decode cX3_measure 81 = .ok (.istore 8, 2) := by decide +kernel
theorem dX3_measure_83 : decode cX3_measure 83 = .ok (.iload 8, 2) := by decide +kernel
theorem dX3_measure_85 : decode cX3_measure 85 = .ok (.bipush 16, 2) := by decide +kernel
theorem dX3_measure_87 : decode cX3_measure 87 = .ok (.if_icmp .ge 55, 3) := by decide +kernel
theorem dX3_measure_90 : decode cX3_measure 90 = .ok (.aload 4, 2) := by decide +kernel
theorem dX3_measure_92 : decode cX3_measure 92 = .ok (.iload 7, 2) := by decide +kernel
theorem dX3_measure_94 : decode cX3_measure 94 = .ok (.iload 8, 2) := by decide +kernel
theorem dX3_measure_96 : decode cX3_measure 96 = .ok (.iadd, 1) := by decide +kernel
theorem dX3_measure_97 : decode cX3_measure 97 = .ok (.aload_n 0, 1) := by decide +kernel
theorem dX3_measure_98 : decode cX3_measure 98 = .ok (.getfield 15, 3) := by decide +kernel
theorem dX3_measure_101 : decode cX3_measure 101 = .ok (.getstatic 80, 3) := by decide +kernel
theorem dX3_measure_104 : decode cX3_measure 104 = .ok (.iload 8, 2) := by decide +kernel
theorem dX3_measure_106 : decode cX3_measure 106 = .ok (.iaload, 1) := by decide +kernel
theorem dX3_measure_107 : decode cX3_measure 107 = .ok (.iaload, 1) := by decide +kernel
theorem dX3_measure_108 : decode cX3_measure 108 = .ok (.iload_n 3, 1) := by decide +kernel
theorem dX3_measure_109 : decode cX3_measure 109 = .ok (.invokestatic 83, 3) := by decide +kernel
theorem dX3_measure_112 : decode cX3_measure 112 = .ok (.iastore, 1) := by decide +kernel
theorem dX3_measure_113 : decode cX3_measure 113 = .ok (.iload 5, 2) := by decide +kernel
theorem dX3_measure_115 : decode cX3_measure 115 = .ok (.ifCond .eq 18, 3) := by decide +kernel
theorem dX3_measure_118 : decode cX3_measure 118 = .ok (.aload 4, 2) := by decide +kernel
theorem dX3_measure_120 : decode cX3_measure 120 = .ok (.iload 7, 2) := by decide +kernel
theorem dX3_measure_122 : decode cX3_measure 122 = .ok (.iload 8, 2) := by decide +kernel
theorem dX3_measure_124 : decode cX3_measure 124 = .ok (.iadd, 1) := by decide +kernel
theorem dX3_measure_125 : decode cX3_measure 125 = .ok (.iaload, 1) := by decide +kernel
theorem dX3_measure_126 : decode cX3_measure 126 = .ok (.ifCond .ne 7, 3) := by decide +kernel
theorem dX3_measure_129 : decode cX3_measure 129 = .ok (.iconst 1, 1) := by decide +kernel
theorem dX3_measure_130 : decode cX3_measure 130 = .ok (.goto 4, 3) := by decide +kernel
theorem dX3_measure_133 : decode cX3_measure 133 = .ok (.iconst 0, 1) := by decide +kernel
theorem dX3_measure_134 : decode cX3_measure 134 = .ok (.istore 5, 2) := by decide +kernel
theorem dX3_measure_136 : decode cX3_measure 136 = .ok (.iinc 8 1, 3) := by decide +kernel
theorem dX3_measure_139 : decode cX3_measure 139 = .ok (.goto (-56), 3) := by decide +kernel
theorem dX3_measure_142 : decode cX3_measure 142 = .ok (.iinc 6 1, 3) := by decide +kernel
theorem dX3_measure_145 : decode cX3_measure 145 = .ok (.goto (-139), 3) := by decide +kernel
theorem dX3_measure_148 : decode cX3_measure 148 = .ok (.iload 5, 2) := by decide +kernel
theorem dX3_measure_150 : decode cX3_measure 150 = .ok (.ireturn, 1) := by decide +kernel
theorem dX3_levelOf_0 : decode cX3_levelOf 0 = .ok (.iconst 4, 1) := by decide +kernel
theorem dX3_levelOf_1 : decode cX3_levelOf 1 = .ok (.iload_n 1, 1) := by decide +kernel
theorem dX3_levelOf_2 : decode cX3_levelOf 2 = .ok (.imul, 1) := by decide +kernel
theorem dX3_levelOf_3 : decode cX3_levelOf 3 = .ok (.istore_n 2, 1) := by decide +kernel
theorem dX3_levelOf_4 : decode cX3_levelOf 4 = .ok (.iload_n 2, 1) := by decide +kernel
theorem dX3_levelOf_5 : decode cX3_levelOf 5 = .ok (.iconst 1, 1) := by decide +kernel
theorem dX3_levelOf_6 : decode cX3_levelOf 6 = .ok (.if_icmp .ge 5, 3) := by decide +kernel
theorem dX3_levelOf_9 : decode cX3_levelOf 9 = .ok (.iconst 0, 1) := by decide +kernel
theorem dX3_levelOf_10 : decode cX3_levelOf 10 = .ok (.ireturn, 1) := by decide +kernel
theorem dX3_levelOf_11 : decode cX3_levelOf 11 = .ok (.iload_n 0, 1) := by decide +kernel
theorem dX3_levelOf_12 : decode cX3_levelOf 12 = .ok (.invokestatic 53, 3) := by decide +kernel
theorem dX3_levelOf_15 : decode cX3_levelOf 15 = .ok (.iload_n 2, 1) := by decide +kernel
theorem dX3_levelOf_16 : decode cX3_levelOf 16 = .ok (.iconst 3, 1) := by decide +kernel
theorem dX3_levelOf_17 : decode cX3_levelOf 17 = .ok (.idiv, 1) := by decide +kernel
theorem dX3_levelOf_18 : decode cX3_levelOf 18 = .ok (.iadd, 1) := by decide +kernel
theorem dX3_levelOf_19 : decode cX3_levelOf 19 = .ok (.iload_n 2, 1) := by decide +kernel
theorem dX3_levelOf_20 : decode cX3_levelOf 20 = .ok (.idiv, 1) := by decide +kernel
theorem dX3_levelOf_21 : decode cX3_levelOf 21 = .ok (.istore_n 3, 1) := by decide +kernel
theorem dX3_levelOf_22 : decode cX3_levelOf 22 = .ok (.iload_n 0, 1) := by decide +kernel
theorem dX3_levelOf_23 : decode cX3_levelOf 23 = .ok (.ifCond .ge 8, 3) := by decide +kernel
theorem dX3_levelOf_26 : decode cX3_levelOf 26 = .ok (.iload_n 3, 1) := by decide +kernel
theorem dX3_levelOf_27 : decode cX3_levelOf 27 = .ok (.ineg, 1) := by decide +kernel
theorem dX3_levelOf_28 : decode cX3_levelOf 28 = .ok (.goto 4, 3) := by decide +kernel
theorem dX3_levelOf_31 : decode cX3_levelOf 31 = .ok (.iload_n 3, 1) := by decide +kernel
theorem dX3_levelOf_32 : decode cX3_levelOf 32 = .ok (.ireturn, 1) := by decide +kernel
set_option maxRecDepth 20000 in
theorem ggX3_makeBlock_X3_turnQuarter : GoodIn wsX3_makeBlock wsX3_turnQuarter := goodIn_r _ [9, 10, 11, 12, 8, 13, 1, 25, 26, 27, 28] (by decide +kernel) (by decide +kernel)
set_option maxRecDepth 20000 in
theorem gX3_makeBlock_X3_turnQuarter : GoodIn wsX3_makeBlock (wsV RX3 77 RX3 yX3_turnQuarter wsX3_turnQuarter) := goodIn_app (goodIn_of _ (by decide +kernel)) ggX3_makeBlock_X3_turnQuarter
set_option maxRecDepth 20000 in
theorem ggX3_makeBlock_X3_placeInBlock : GoodIn wsX3_makeBlock wsX3_placeInBlock := goodIn_r _ [16] (by decide +kernel) (by decide +kernel)
set_option maxRecDepth 20000 in
theorem gX3_makeBlock_X3_placeInBlock : GoodIn wsX3_makeBlock (va_wsS RX3 71 yX3_placeInBlock wsX3_placeInBlock) := goodIn_app (goodIn_of _ (by decide +kernel)) ggX3_makeBlock_X3_placeInBlock
set_option maxRecDepth 20000 in
theorem ggX3_makeBlock_X3_pointOf : GoodIn wsX3_makeBlock wsX3_pointOf := goodIn_r _ [19, 20, 21, 22] (by decide +kernel) (by decide +kernel)
set_option maxRecDepth 20000 in
theorem gX3_makeBlock_X3_pointOf : GoodIn wsX3_makeBlock (va_wsS RX3 74 yX3_pointOf wsX3_pointOf) := goodIn_app (goodIn_of _ (by decide +kernel)) ggX3_makeBlock_X3_pointOf
set_option maxRecDepth 20000 in
theorem ggX3_makeBlock_X5_clip : GoodIn wsX3_makeBlock wsX5_clip := goodIn_r _ [24] (by decide +kernel) (by decide +kernel)
set_option maxRecDepth 20000 in
theorem gX3_makeBlock_X5_clip_n68 : GoodIn wsX3_makeBlock (wsX5_clip) := ggX3_makeBlock_X5_clip
theorem dX3_makeBlock_0 : decode cX3_makeBlock 0 = .ok (.iconst 0, 1) := by decide +kernel
theorem dX3_makeBlock_1 : decode cX3_makeBlock 1 = .ok (.istore 4, 2) := by decide +kernel
theorem dX3_makeBlock_3 : decode cX3_makeBlock 3 = .ok (.iload 4, 2) := by decide +kernel
theorem dX3_makeBlock_5 : decode cX3_makeBlock 5 = .ok (.iconst 4, 1) := by decide +kernel
theorem dX3_makeBlock_6 : decode cX3_makeBlock 6 = .ok (.if_icmp .ge 122, 3) := by decide +kernel
theorem dX3_makeBlock_9 : decode cX3_makeBlock 9 = .ok (.iload_n 1, 1) := by decide +kernel
theorem dX3_makeBlock_10 : decode cX3_makeBlock 10 = .ok (.bipush 64, 2) := by decide +kernel
theorem dX3_makeBlock_12 : decode cX3_makeBlock 12 = .ok (.imul, 1) := by decide +kernel
theorem dX3_makeBlock_13 : decode cX3_makeBlock 13 = .ok (.iload 4, 2) := by decide +kernel
theorem dX3_makeBlock_15 : decode cX3_makeBlock 15 = .ok (.bipush 16, 2) := by decide +kernel
theorem dX3_makeBlock_17 : decode cX3_makeBlock 17 = .ok (.imul, 1) := by decide +kernel
theorem dX3_makeBlock_18 : decode cX3_makeBlock 18 = .ok (.iadd, 1) := by decide +kernel
theorem dX3_makeBlock_19 : decode cX3_makeBlock 19 = .ok (.istore 5, 2) := by decide +kernel
theorem dX3_makeBlock_21 : decode cX3_makeBlock 21 = .ok (.iconst 0, 1) := by decide +kernel
theorem dX3_makeBlock_22 : decode cX3_makeBlock 22 = .ok (.istore 6, 2) := by decide +kernel
theorem dX3_makeBlock_24 : decode cX3_makeBlock 24 = .ok (.iload 6, 2) := by decide +kernel
theorem dX3_makeBlock_26 : decode cX3_makeBlock 26 = .ok (.bipush 16, 2) := by decide +kernel
theorem dX3_makeBlock_28 : decode cX3_makeBlock 28 = .ok (.if_icmp .ge 31, 3) := by decide +kernel
theorem dX3_makeBlock_31 : decode cX3_makeBlock 31 = .ok (.aload_n 0, 1) := by decide +kernel
theorem dX3_makeBlock_32 : decode cX3_makeBlock 32 = .ok (.getfield 15, 3) := by decide +kernel
theorem dX3_makeBlock_35 : decode cX3_makeBlock 35 = .ok (.getstatic 80, 3) := by decide +kernel
theorem dX3_makeBlock_38 : decode cX3_makeBlock 38 = .ok (.iload 6, 2) := by decide +kernel
theorem dX3_makeBlock_40 : decode cX3_makeBlock 40 = .ok (.iaload, 1) := by decide +kernel
theorem dX3_makeBlock_41 : decode cX3_makeBlock 41 = .ok (.aload_n 3, 1) := by decide +kernel
theorem dX3_makeBlock_42 : decode cX3_makeBlock 42 = .ok (.iload 5, 2) := by decide +kernel
theorem dX3_makeBlock_44 : decode cX3_makeBlock 44 = .ok (.iload 6, 2) := by decide +kernel
theorem dX3_makeBlock_46 : decode cX3_makeBlock 46 = .ok (.iadd, 1) := by decide +kernel
theorem dX3_makeBlock_47 : decode cX3_makeBlock 47 = .ok (.iaload, 1) := by decide +kernel
theorem dX3_makeBlock_48 : decode cX3_makeBlock 48 = .ok (.iconst 4, 1) := by decide +kernel
theorem dX3_makeBlock_49 : decode cX3_makeBlock 49 = .ok (.imul, 1) := by decide +kernel
theorem dX3_makeBlock_50 : decode cX3_makeBlock 50 = .ok (.iload_n 2, 1) := by decide +kernel
theorem dX3_makeBlock_51 : decode cX3_makeBlock 51 = .ok (.imul, 1) := by decide +kernel
theorem dX3_makeBlock_52 : decode cX3_makeBlock 52 = .ok (.iastore, 1) := by decide +kernel
theorem dX3_makeBlock_53 : decode cX3_makeBlock 53 = .ok (.iinc 6 1, 3) := by decide +kernel
theorem dX3_makeBlock_56 : decode cX3_makeBlock 56 = .ok (.goto (-32), 3) := by decide +kernel
theorem dX3_makeBlock_59 : decode cX3_makeBlock 59 = .ok (.aload_n 0, 1) := by decide +kernel
theorem dX3_makeBlock_60 : decode cX3_makeBlock 60 = .ok (.invokevirtual 77, 3) := by decide +kernel
theorem dX3_makeBlock_63 : decode cX3_makeBlock 63 = .ok (.iconst 0, 1) := by decide +kernel
theorem dX3_makeBlock_64 : decode cX3_makeBlock 64 = .ok (.istore 6, 2) := by decide +kernel
theorem dX3_makeBlock_66 : decode cX3_makeBlock 66 = .ok (.iload 6, 2) := by decide +kernel
theorem dX3_makeBlock_68 : decode cX3_makeBlock 68 = .ok (.bipush 16, 2) := by decide +kernel
theorem dX3_makeBlock_70 : decode cX3_makeBlock 70 = .ok (.if_icmp .ge 52, 3) := by decide +kernel
theorem dX3_makeBlock_73 : decode cX3_makeBlock 73 = .ok (.iload 4, 2) := by decide +kernel
theorem dX3_makeBlock_75 : decode cX3_makeBlock 75 = .ok (.iload 6, 2) := by decide +kernel
theorem dX3_makeBlock_77 : decode cX3_makeBlock 77 = .ok (.invokestatic 71, 3) := by decide +kernel
theorem dX3_makeBlock_80 : decode cX3_makeBlock 80 = .ok (.istore 7, 2) := by decide +kernel
theorem dX3_makeBlock_82 : decode cX3_makeBlock 82 = .ok (.aload_n 0, 1) := by decide +kernel
theorem dX3_makeBlock_83 : decode cX3_makeBlock 83 = .ok (.getfield 18, 3) := by decide +kernel
theorem dX3_makeBlock_86 : decode cX3_makeBlock 86 = .ok (.iload_n 1, 1) := by decide +kernel
theorem dX3_makeBlock_87 : decode cX3_makeBlock 87 = .ok (.iload 7, 2) := by decide +kernel
theorem dX3_makeBlock_89 : decode cX3_makeBlock 89 = .ok (.invokestatic 74, 3) := by decide +kernel
theorem dX3_makeBlock_92 : decode cX3_makeBlock 92 = .ok (.aload_n 0, 1) := by decide +kernel
theorem dX3_makeBlock_93 : decode cX3_makeBlock 93 = .ok (.getfield 21, 3) := by decide +kernel
theorem dX3_makeBlock_96 : decode cX3_makeBlock 96 = .ok (.iload 7, 2) := by decide +kernel
theorem dX3_makeBlock_98 : decode cX3_makeBlock 98 = .ok (.iaload, 1) := by decide +kernel
theorem dX3_makeBlock_99 : decode cX3_makeBlock 99 = .ok (.aload_n 0, 1) := by decide +kernel
theorem dX3_makeBlock_100 : decode cX3_makeBlock 100 = .ok (.getfield 15, 3) := by decide +kernel
theorem dX3_makeBlock_103 : decode cX3_makeBlock 103 = .ok (.iload 6, 2) := by decide +kernel
theorem dX3_makeBlock_105 : decode cX3_makeBlock 105 = .ok (.iaload, 1) := by decide +kernel
theorem dX3_makeBlock_106 : decode cX3_makeBlock 106 = .ok (.bipush 8, 2) := by decide +kernel
theorem dX3_makeBlock_108 : decode cX3_makeBlock 108 = .ok (.iadd, 1) := by decide +kernel
theorem dX3_makeBlock_109 : decode cX3_makeBlock 109 = .ok (.iconst 4, 1) := by decide +kernel
theorem dX3_makeBlock_110 : decode cX3_makeBlock 110 = .ok (.ishr, 1) := by decide +kernel
theorem dX3_makeBlock_111 : decode cX3_makeBlock 111 = .ok (.iadd, 1) := by decide +kernel
theorem dX3_makeBlock_112 : decode cX3_makeBlock 112 = .ok (.invokestatic 68, 3) := by decide +kernel
theorem dX3_makeBlock_115 : decode cX3_makeBlock 115 = .ok (.iastore, 1) := by decide +kernel
theorem dX3_makeBlock_116 : decode cX3_makeBlock 116 = .ok (.iinc 6 1, 3) := by decide +kernel
theorem dX3_makeBlock_119 : decode cX3_makeBlock 119 = .ok (.goto (-53), 3) := by decide +kernel
theorem dX3_makeBlock_122 : decode cX3_makeBlock 122 = .ok (.iinc 4 1, 3) := by decide +kernel
theorem dX3_makeBlock_125 : decode cX3_makeBlock 125 = .ok (.goto (-122), 3) := by decide +kernel
theorem dX3_makeBlock_128 : decode cX3_makeBlock 128 = .ok (.return_, 1) := by decide +kernel
set_option maxRecDepth 20000 in
theorem ggX3_makeForetold_X3_pointOf : GoodIn wsX3_makeForetold wsX3_pointOf := goodIn_r _ [6, 7, 8, 9] (by decide +kernel) (by decide +kernel)
set_option maxRecDepth 20000 in
theorem gX3_makeForetold_X3_pointOf : GoodIn wsX3_makeForetold (va_wsS RX3 74 yX3_pointOf wsX3_pointOf) := goodIn_app (goodIn_of _ (by decide +kernel)) ggX3_makeForetold_X3_pointOf
theorem dX3_makeForetold_0 : decode cX3_makeForetold 0 = .ok (.iconst 0, 1) := by decide +kernel
theorem dX3_makeForetold_1 : decode cX3_makeForetold 1 = .ok (.istore_n 2, 1) := by decide +kernel
theorem dX3_makeForetold_2 : decode cX3_makeForetold 2 = .ok (.iload_n 2, 1) := by decide +kernel
theorem dX3_makeForetold_3 : decode cX3_makeForetold 3 = .ok (.bipush 64, 2) := by decide +kernel
theorem dX3_makeForetold_5 : decode cX3_makeForetold 5 = .ok (.if_icmp .ge 25, 3) := by decide +kernel
theorem dX3_makeForetold_8 : decode cX3_makeForetold 8 = .ok (.aload_n 0, 1) := by decide +kernel
theorem dX3_makeForetold_9 : decode cX3_makeForetold 9 = .ok (.getfield 18, 3) := by decide +kernel
theorem dX3_makeForetold_12 : decode cX3_makeForetold 12 = .ok (.iload_n 1, 1) := by decide +kernel
theorem dX3_makeForetold_13 : decode cX3_makeForetold 13 = .ok (.iload_n 2, 1) := by decide +kernel
theorem dX3_makeForetold_14 : decode cX3_makeForetold 14 = .ok (.invokestatic 74, 3) := by decide +kernel
theorem dX3_makeForetold_17 : decode cX3_makeForetold 17 = .ok (.aload_n 0, 1) := by decide +kernel
theorem dX3_makeForetold_18 : decode cX3_makeForetold 18 = .ok (.getfield 21, 3) := by decide +kernel
theorem dX3_makeForetold_21 : decode cX3_makeForetold 21 = .ok (.iload_n 2, 1) := by decide +kernel
theorem dX3_makeForetold_22 : decode cX3_makeForetold 22 = .ok (.iaload, 1) := by decide +kernel
theorem dX3_makeForetold_23 : decode cX3_makeForetold 23 = .ok (.iastore, 1) := by decide +kernel
theorem dX3_makeForetold_24 : decode cX3_makeForetold 24 = .ok (.iinc 2 1, 3) := by decide +kernel
theorem dX3_makeForetold_27 : decode cX3_makeForetold 27 = .ok (.goto (-25), 3) := by decide +kernel
theorem dX3_makeForetold_30 : decode cX3_makeForetold 30 = .ok (.return_, 1) := by decide +kernel
theorem dX3_placeInBlock_0 : decode cX3_placeInBlock 0 = .ok (.iload_n 0, 1) := by decide +kernel
theorem dX3_placeInBlock_1 : decode cX3_placeInBlock 1 = .ok (.iconst 2, 1) := by decide +kernel
theorem dX3_placeInBlock_2 : decode cX3_placeInBlock 2 = .ok (.idiv, 1) := by decide +kernel
theorem dX3_placeInBlock_3 : decode cX3_placeInBlock 3 = .ok (.iconst 4, 1) := by decide +kernel
theorem dX3_placeInBlock_4 : decode cX3_placeInBlock 4 = .ok (.imul, 1) := by decide +kernel
theorem dX3_placeInBlock_5 : decode cX3_placeInBlock 5 = .ok (.iload_n 1, 1) := by decide +kernel
theorem dX3_placeInBlock_6 : decode cX3_placeInBlock 6 = .ok (.iconst 4, 1) := by decide +kernel
theorem dX3_placeInBlock_7 : decode cX3_placeInBlock 7 = .ok (.idiv, 1) := by decide +kernel
theorem dX3_placeInBlock_8 : decode cX3_placeInBlock 8 = .ok (.iadd, 1) := by decide +kernel
theorem dX3_placeInBlock_9 : decode cX3_placeInBlock 9 = .ok (.istore_n 2, 1) := by decide +kernel
theorem dX3_placeInBlock_10 : decode cX3_placeInBlock 10 = .ok (.iload_n 0, 1) := by decide +kernel
theorem dX3_placeInBlock_11 : decode cX3_placeInBlock 11 = .ok (.iconst 2, 1) := by decide +kernel
theorem dX3_placeInBlock_12 : decode cX3_placeInBlock 12 = .ok (.irem, 1) := by decide +kernel
theorem dX3_placeInBlock_13 : decode cX3_placeInBlock 13 = .ok (.iconst 4, 1) := by decide +kernel
theorem dX3_placeInBlock_14 : decode cX3_placeInBlock 14 = .ok (.imul, 1) := by decide +kernel
theorem dX3_placeInBlock_15 : decode cX3_placeInBlock 15 = .ok (.iload_n 1, 1) := by decide +kernel
theorem dX3_placeInBlock_16 : decode cX3_placeInBlock 16 = .ok (.iconst 4, 1) := by decide +kernel
theorem dX3_placeInBlock_17 : decode cX3_placeInBlock 17 = .ok (.irem, 1) := by decide +kernel
theorem dX3_placeInBlock_18 : decode cX3_placeInBlock 18 = .ok (.iadd, 1) := by decide +kernel
theorem dX3_placeInBlock_19 : decode cX3_placeInBlock 19 = .ok (.istore_n 3, 1) := by decide +kernel
theorem dX3_placeInBlock_20 : decode cX3_placeInBlock 20 = .ok (.iload_n 2, 1) := by decide +kernel
theorem dX3_placeInBlock_21 : decode cX3_placeInBlock 21 = .ok (.bipush 8, 2) := by decide +kernel
theorem dX3_placeInBlock_23 : decode cX3_placeInBlock 23 = .ok (.imul, 1) := by decide +kernel
theorem dX3_placeInBlock_24 : decode cX3_placeInBlock 24 = .ok (.iload_n 3, 1) := by decide +kernel
theorem dX3_placeInBlock_25 : decode cX3_placeInBlock 25 = .ok (.iadd, 1) := by decide +kernel
theorem dX3_placeInBlock_26 : decode cX3_placeInBlock 26 = .ok (.ireturn, 1) := by decide +kernel
set_option maxRecDepth 20000 in
theorem ggX3_pointOf_X5_firstPointOf : GoodIn wsX3_pointOf wsX5_firstPointOf := goodIn_r _ [3] (by decide +kernel) (by decide +kernel)
set_option maxRecDepth 20000 in
theorem gX3_pointOf_X5_firstPointOf_n49 : GoodIn wsX3_pointOf (wsX5_firstPointOf) := ggX3_pointOf_X5_firstPointOf
theorem dX3_pointOf_0 : decode cX3_pointOf 0 = .ok (.iload_n 0, 1) := by decide +kernel
theorem dX3_pointOf_1 : decode cX3_pointOf 1 = .ok (.invokestatic 49, 3) := by decide +kernel
theorem dX3_pointOf_4 : decode cX3_pointOf 4 = .ok (.iload_n 1, 1) := by decide +kernel
theorem dX3_pointOf_5 : decode cX3_pointOf 5 = .ok (.bipush 8, 2) := by decide +kernel
theorem dX3_pointOf_7 : decode cX3_pointOf 7 = .ok (.idiv, 1) := by decide +kernel
theorem dX3_pointOf_8 : decode cX3_pointOf 8 = .ok (.bipush 32, 2) := by decide +kernel
theorem dX3_pointOf_10 : decode cX3_pointOf 10 = .ok (.imul, 1) := by decide +kernel
theorem dX3_pointOf_11 : decode cX3_pointOf 11 = .ok (.iadd, 1) := by decide +kernel
theorem dX3_pointOf_12 : decode cX3_pointOf 12 = .ok (.iload_n 1, 1) := by decide +kernel
theorem dX3_pointOf_13 : decode cX3_pointOf 13 = .ok (.bipush 8, 2) := by decide +kernel
theorem dX3_pointOf_15 : decode cX3_pointOf 15 = .ok (.irem, 1) := by decide +kernel
theorem dX3_pointOf_16 : decode cX3_pointOf 16 = .ok (.iadd, 1) := by decide +kernel
theorem dX3_pointOf_17 : decode cX3_pointOf 17 = .ok (.ireturn, 1) := by decide +kernel
set_option maxRecDepth 20000 in
theorem ggX3_turnQuarter_X3_turnFour : GoodIn wsX3_turnQuarter wsX3_turnFour := goodIn_r _ [5, 6, 7, 8, 9, 10] (by decide +kernel) (by decide +kernel)
set_option maxRecDepth 20000 in
theorem gX3_turnQuarter_X3_turnFour : GoodIn wsX3_turnQuarter (wsV RX3 86 RX3 yX3_turnFour wsX3_turnFour) := goodIn_app (goodIn_of _ (by decide +kernel)) ggX3_turnQuarter_X3_turnFour
theorem dX3_turnQuarter_0 : decode cX3_turnQuarter 0 = .ok (.iconst 0, 1) := by decide +kernel
theorem dX3_turnQuarter_1 : decode cX3_turnQuarter 1 = .ok (.istore_n 1, 1) := by decide +kernel
theorem dX3_turnQuarter_2 : decode cX3_turnQuarter 2 = .ok (.iload_n 1, 1) := by decide +kernel
theorem dX3_turnQuarter_3 : decode cX3_turnQuarter 3 = .ok (.iconst 4, 1) := by decide +kernel
theorem dX3_turnQuarter_4 : decode cX3_turnQuarter 4 = .ok (.if_icmp .ge 15, 3) := by decide +kernel
theorem dX3_turnQuarter_7 : decode cX3_turnQuarter 7 = .ok (.aload_n 0, 1) := by decide +kernel
theorem dX3_turnQuarter_8 : decode cX3_turnQuarter 8 = .ok (.iload_n 1, 1) := by decide +kernel
theorem dX3_turnQuarter_9 : decode cX3_turnQuarter 9 = .ok (.iconst 4, 1) := by decide +kernel
theorem dX3_turnQuarter_10 : decode cX3_turnQuarter 10 = .ok (.invokevirtual 86, 3) := by decide +kernel
theorem dX3_turnQuarter_13 : decode cX3_turnQuarter 13 = .ok (.iinc 1 1, 3) := by decide +kernel
theorem dX3_turnQuarter_16 : decode cX3_turnQuarter 16 = .ok (.goto (-14), 3) := by decide +kernel
theorem dX3_turnQuarter_19 : decode cX3_turnQuarter 19 = .ok (.iconst 0, 1) := by decide +kernel
theorem dX3_turnQuarter_20 : decode cX3_turnQuarter 20 = .ok (.istore_n 1, 1) := by decide +kernel
theorem dX3_turnQuarter_21 : decode cX3_turnQuarter 21 = .ok (.iload_n 1, 1) := by decide +kernel
theorem dX3_turnQuarter_22 : decode cX3_turnQuarter 22 = .ok (.iconst 4, 1) := by decide +kernel
theorem dX3_turnQuarter_23 : decode cX3_turnQuarter 23 = .ok (.if_icmp .ge 17, 3) := by decide +kernel
theorem dX3_turnQuarter_26 : decode cX3_turnQuarter 26 = .ok (.aload_n 0, 1) := by decide +kernel
theorem dX3_turnQuarter_27 : decode cX3_turnQuarter 27 = .ok (.iload_n 1, 1) := by decide +kernel
theorem dX3_turnQuarter_28 : decode cX3_turnQuarter 28 = .ok (.iconst 4, 1) := by decide +kernel
theorem dX3_turnQuarter_29 : decode cX3_turnQuarter 29 = .ok (.imul, 1) := by decide +kernel
theorem dX3_turnQuarter_30 : decode cX3_turnQuarter 30 = .ok (.iconst 1, 1) := by decide +kernel
theorem dX3_turnQuarter_31 : decode cX3_turnQuarter 31 = .ok (.invokevirtual 86, 3) := by decide +kernel
theorem dX3_turnQuarter_34 : decode cX3_turnQuarter 34 = .ok (.iinc 1 1, 3) := by decide +kernel
theorem dX3_turnQuarter_37 : decode cX3_turnQuarter 37 = .ok (.goto (-16), 3) := by decide +kernel
theorem dX3_turnQuarter_40 : decode cX3_turnQuarter 40 = .ok (.return_, 1) := by decide +kernel
theorem dX3_turnFour_0 : decode cX3_turnFour 0 = .ok (.aload_n 0, 1) := by decide +kernel
theorem dX3_turnFour_1 : decode cX3_turnFour 1 = .ok (.getfield 15, 3) := by decide +kernel
theorem dX3_turnFour_4 : decode cX3_turnFour 4 = .ok (.iload_n 1, 1) := by decide +kernel
theorem dX3_turnFour_5 : decode cX3_turnFour 5 = .ok (.iaload, 1) := by decide +kernel
theorem dX3_turnFour_6 : decode cX3_turnFour 6 = .ok (.istore_n 3, 1) := by decide +kernel
theorem dX3_turnFour_7 : decode cX3_turnFour 7 = .ok (.aload_n 0, 1) := by decide +kernel
theorem dX3_turnFour_8 : decode cX3_turnFour 8 = .ok (.getfield 15, 3) := by decide +kernel
theorem dX3_turnFour_11 : decode cX3_turnFour 11 = .ok (.iload_n 1, 1) := by decide +kernel
theorem dX3_turnFour_12 : decode cX3_turnFour 12 = .ok (.iload_n 2, 1) := by decide +kernel
theorem dX3_turnFour_13 : decode cX3_turnFour 13 = .ok (.iadd, 1) := by decide +kernel
theorem dX3_turnFour_14 : decode cX3_turnFour 14 = .ok (.iaload, 1) := by decide +kernel
theorem dX3_turnFour_15 : decode cX3_turnFour 15 = .ok (.istore 4, 2) := by decide +kernel
theorem dX3_turnFour_17 : decode cX3_turnFour 17 = .ok (.aload_n 0, 1) := by decide +kernel
theorem dX3_turnFour_18 : decode cX3_turnFour 18 = .ok (.getfield 15, 3) := by decide +kernel
theorem dX3_turnFour_21 : decode cX3_turnFour 21 = .ok (.iload_n 1, 1) := by decide +kernel
theorem dX3_turnFour_22 : decode cX3_turnFour 22 = .ok (.iconst 2, 1) := by decide +kernel
theorem dX3_turnFour_23 : decode cX3_turnFour 23 = .ok (.iload_n 2, 1) := by decide +kernel
theorem dX3_turnFour_24 : decode cX3_turnFour 24 = .ok (.imul, 1) := by decide +kernel
theorem dX3_turnFour_25 : decode cX3_turnFour 25 = .ok (.iadd, 1) := by decide +kernel
theorem dX3_turnFour_26 : decode cX3_turnFour 26 = .ok (.iaload, 1) := by decide +kernel
theorem dX3_turnFour_27 : decode cX3_turnFour 27 = .ok (.istore 5, 2) := by decide +kernel
theorem dX3_turnFour_29 : decode cX3_turnFour 29 = .ok (.aload_n 0, 1) := by decide +kernel
theorem dX3_turnFour_30 : decode cX3_turnFour 30 = .ok (.getfield 15, 3) := by decide +kernel
theorem dX3_turnFour_33 : decode cX3_turnFour 33 = .ok (.iload_n 1, 1) := by decide +kernel
theorem dX3_turnFour_34 : decode cX3_turnFour 34 = .ok (.iconst 3, 1) := by decide +kernel
theorem dX3_turnFour_35 : decode cX3_turnFour 35 = .ok (.iload_n 2, 1) := by decide +kernel
theorem dX3_turnFour_36 : decode cX3_turnFour 36 = .ok (.imul, 1) := by decide +kernel
theorem dX3_turnFour_37 : decode cX3_turnFour 37 = .ok (.iadd, 1) := by decide +kernel
theorem dX3_turnFour_38 : decode cX3_turnFour 38 = .ok (.iaload, 1) := by decide +kernel
theorem dX3_turnFour_39 : decode cX3_turnFour 39 = .ok (.istore 6, 2) := by decide +kernel
theorem dX3_turnFour_41 : decode cX3_turnFour 41 = .ok (.aload_n 0, 1) := by decide +kernel
theorem dX3_turnFour_42 : decode cX3_turnFour 42 = .ok (.getfield 15, 3) := by decide +kernel
theorem dX3_turnFour_45 : decode cX3_turnFour 45 = .ok (.iload_n 1, 1) := by decide +kernel
theorem dX3_turnFour_46 : decode cX3_turnFour 46 = .ok (.iload_n 3, 1) := by decide +kernel
theorem dX3_turnFour_47 : decode cX3_turnFour 47 = .ok (.iload 4, 2) := by decide +kernel
theorem dX3_turnFour_49 : decode cX3_turnFour 49 = .ok (.iadd, 1) := by decide +kernel
theorem dX3_turnFour_50 : decode cX3_turnFour 50 = .ok (.iload 5, 2) := by decide +kernel
theorem dX3_turnFour_52 : decode cX3_turnFour 52 = .ok (.iadd, 1) := by decide +kernel
theorem dX3_turnFour_53 : decode cX3_turnFour 53 = .ok (.iload 6, 2) := by decide +kernel
theorem dX3_turnFour_55 : decode cX3_turnFour 55 = .ok (.iadd, 1) := by decide +kernel
theorem dX3_turnFour_56 : decode cX3_turnFour 56 = .ok (.iastore, 1) := by decide +kernel
theorem dX3_turnFour_57 : decode cX3_turnFour 57 = .ok (.aload_n 0, 1) := by decide +kernel
theorem dX3_turnFour_58 : decode cX3_turnFour 58 = .ok (.getfield 15, 3) := by decide +kernel
theorem dX3_turnFour_61 : decode cX3_turnFour 61 = .ok (.iload_n 1, 1) := by decide +kernel
theorem dX3_turnFour_62 : decode cX3_turnFour 62 = .ok (.iload_n 2, 1) := by decide +kernel
theorem dX3_turnFour_63 : decode cX3_turnFour 63 = .ok (.iadd, 1) := by decide +kernel
theorem dX3_turnFour_64 : decode cX3_turnFour 64 = .ok (.iload_n 3, 1) := by decide +kernel
theorem dX3_turnFour_65 : decode cX3_turnFour 65 = .ok (.iload 4, 2) := by decide +kernel
theorem dX3_turnFour_67 : decode cX3_turnFour 67 = .ok (.iadd, 1) := by decide +kernel
theorem dX3_turnFour_68 : decode cX3_turnFour 68 = .ok (.iload 5, 2) := by decide +kernel
theorem dX3_turnFour_70 : decode cX3_turnFour 70 = .ok (.isub, 1) := by decide +kernel
theorem dX3_turnFour_71 : decode cX3_turnFour 71 = .ok (.iload 6, 2) := by decide +kernel
theorem dX3_turnFour_73 : decode cX3_turnFour 73 = .ok (.isub, 1) := by decide +kernel
theorem dX3_turnFour_74 : decode cX3_turnFour 74 = .ok (.iastore, 1) := by decide +kernel
theorem dX3_turnFour_75 : decode cX3_turnFour 75 = .ok (.aload_n 0, 1) := by decide +kernel
theorem dX3_turnFour_76 : decode cX3_turnFour 76 = .ok (.getfield 15, 3) := by decide +kernel
theorem dX3_turnFour_79 : decode cX3_turnFour 79 = .ok (.iload_n 1, 1) := by decide +kernel
theorem dX3_turnFour_80 : decode cX3_turnFour 80 = .ok (.iconst 2, 1) := by decide +kernel
theorem dX3_turnFour_81 : decode cX3_turnFour 81 = .ok (.iload_n 2, 1) := by decide +kernel
theorem dX3_turnFour_82 : decode cX3_turnFour 82 = .ok (.imul, 1) := by decide +kernel
theorem dX3_turnFour_83 : decode cX3_turnFour 83 = .ok (.iadd, 1) := by decide +kernel
theorem dX3_turnFour_84 : decode cX3_turnFour 84 = .ok (.iload_n 3, 1) := by decide +kernel
theorem dX3_turnFour_85 : decode cX3_turnFour 85 = .ok (.iload 4, 2) := by decide +kernel
theorem dX3_turnFour_87 : decode cX3_turnFour 87 = .ok (.isub, 1) := by decide +kernel
theorem dX3_turnFour_88 : decode cX3_turnFour 88 = .ok (.iload 5, 2) := by decide +kernel
theorem dX3_turnFour_90 : decode cX3_turnFour 90 = .ok (.isub, 1) := by decide +kernel
theorem dX3_turnFour_91 : decode cX3_turnFour 91 = .ok (.iload 6, 2) := by decide +kernel
theorem dX3_turnFour_93 : decode cX3_turnFour 93 = .ok (.iadd, 1) := by decide +kernel
theorem dX3_turnFour_94 : decode cX3_turnFour 94 = .ok (.iastore, 1) := by decide +kernel
theorem dX3_turnFour_95 : decode cX3_turnFour 95 = .ok (.aload_n 0, 1) := by decide +kernel
theorem dX3_turnFour_96 : decode cX3_turnFour 96 = .ok (.getfield 15, 3) := by decide +kernel
theorem dX3_turnFour_99 : decode cX3_turnFour 99 = .ok (.iload_n 1, 1) := by decide +kernel
theorem dX3_turnFour_100 : decode cX3_turnFour 100 = .ok (.iconst 3, 1) := by decide +kernel
theorem dX3_turnFour_101 : decode cX3_turnFour 101 = .ok (.iload_n 2, 1) := by decide +kernel
theorem dX3_turnFour_102 : decode cX3_turnFour 102 = .ok (.imul, 1) := by decide +kernel
theorem dX3_turnFour_103 : decode cX3_turnFour 103 = .ok (.iadd, 1) := by decide +kernel
theorem dX3_turnFour_104 : decode cX3_turnFour 104 = .ok (.iload_n 3, 1) := by decide +kernel
theorem dX3_turnFour_105 : decode cX3_turnFour 105 = .ok (.iload 4, 2) := by decide +kernel
theorem dX3_turnFour_107 : decode cX3_turnFour 107 = .ok (.isub, 1) := by decide +kernel
theorem dX3_turnFour_108 : decode cX3_turnFour 108 = .ok (.iload 5, 2) := by decide +kernel
theorem dX3_turnFour_110 : decode cX3_turnFour 110 = .ok (.iadd, 1) := by decide +kernel
theorem dX3_turnFour_111 : decode cX3_turnFour 111 = .ok (.iload 6, 2) := by decide +kernel
theorem dX3_turnFour_113 : decode cX3_turnFour 113 = .ok (.isub, 1) := by decide +kernel
theorem dX3_turnFour_114 : decode cX3_turnFour 114 = .ok (.iastore, 1) := by decide +kernel
theorem dX3_turnFour_115 : decode cX3_turnFour 115 = .ok (.return_, 1) := by decide +kernel
set_option maxRecDepth 20000 in
theorem ggX3_smooth_X3_smoothAcross : GoodIn wsX3_smooth wsX3_smoothAcross := goodIn_r _ [5, 6, 7, 8, 9, 10, 11, 12, 13, 14] (by decide +kernel) (by decide +kernel)
set_option maxRecDepth 20000 in
theorem gX3_smooth_X3_smoothAcross : GoodIn wsX3_smooth (wsV RX3 90 RX3 yX3_smoothAcross wsX3_smoothAcross) := goodIn_app (goodIn_of _ (by decide +kernel)) ggX3_smooth_X3_smoothAcross
theorem dX3_smooth_0 : decode cX3_smooth 0 = .ok (.bipush 8, 2) := by decide +kernel
theorem dX3_smooth_2 : decode cX3_smooth 2 = .ok (.istore_n 2, 1) := by decide +kernel
theorem dX3_smooth_3 : decode cX3_smooth 3 = .ok (.iload_n 2, 1) := by decide +kernel
theorem dX3_smooth_4 : decode cX3_smooth 4 = .ok (.bipush 32, 2) := by decide +kernel
theorem dX3_smooth_6 : decode cX3_smooth 6 = .ok (.if_icmp .ge 35, 3) := by decide +kernel
theorem dX3_smooth_9 : decode cX3_smooth 9 = .ok (.iconst 0, 1) := by decide +kernel
theorem dX3_smooth_10 : decode cX3_smooth 10 = .ok (.istore_n 3, 1) := by decide +kernel
theorem dX3_smooth_11 : decode cX3_smooth 11 = .ok (.iload_n 3, 1) := by decide +kernel
theorem dX3_smooth_12 : decode cX3_smooth 12 = .ok (.bipush 24, 2) := by decide +kernel
theorem dX3_smooth_14 : decode cX3_smooth 14 = .ok (.if_icmp .ge 21, 3) := by decide +kernel
theorem dX3_smooth_17 : decode cX3_smooth 17 = .ok (.aload_n 0, 1) := by decide +kernel
theorem dX3_smooth_18 : decode cX3_smooth 18 = .ok (.iload_n 3, 1) := by decide +kernel
theorem dX3_smooth_19 : decode cX3_smooth 19 = .ok (.bipush 32, 2) := by decide +kernel
theorem dX3_smooth_21 : decode cX3_smooth 21 = .ok (.imul, 1) := by decide +kernel
theorem dX3_smooth_22 : decode cX3_smooth 22 = .ok (.iload_n 2, 1) := by decide +kernel
theorem dX3_smooth_23 : decode cX3_smooth 23 = .ok (.iadd, 1) := by decide +kernel
theorem dX3_smooth_24 : decode cX3_smooth 24 = .ok (.iconst 1, 1) := by decide +kernel
theorem dX3_smooth_25 : decode cX3_smooth 25 = .ok (.iload_n 1, 1) := by decide +kernel
theorem dX3_smooth_26 : decode cX3_smooth 26 = .ok (.invokevirtual 90, 3) := by decide +kernel
theorem dX3_smooth_29 : decode cX3_smooth 29 = .ok (.iinc 3 1, 3) := by decide +kernel
theorem dX3_smooth_32 : decode cX3_smooth 32 = .ok (.goto (-21), 3) := by decide +kernel
theorem dX3_smooth_35 : decode cX3_smooth 35 = .ok (.iinc 2 8, 3) := by decide +kernel
theorem dX3_smooth_38 : decode cX3_smooth 38 = .ok (.goto (-35), 3) := by decide +kernel
theorem dX3_smooth_41 : decode cX3_smooth 41 = .ok (.bipush 8, 2) := by decide +kernel
theorem dX3_smooth_43 : decode cX3_smooth 43 = .ok (.istore_n 2, 1) := by decide +kernel
theorem dX3_smooth_44 : decode cX3_smooth 44 = .ok (.iload_n 2, 1) := by decide +kernel
theorem dX3_smooth_45 : decode cX3_smooth 45 = .ok (.bipush 24, 2) := by decide +kernel
theorem dX3_smooth_47 : decode cX3_smooth 47 = .ok (.if_icmp .ge 36, 3) := by decide +kernel
theorem dX3_smooth_50 : decode cX3_smooth 50 = .ok (.iconst 0, 1) := by decide +kernel
theorem dX3_smooth_51 : decode cX3_smooth 51 = .ok (.istore_n 3, 1) := by decide +kernel
theorem dX3_smooth_52 : decode cX3_smooth 52 = .ok (.iload_n 3, 1) := by decide +kernel
theorem dX3_smooth_53 : decode cX3_smooth 53 = .ok (.bipush 32, 2) := by decide +kernel
theorem dX3_smooth_55 : decode cX3_smooth 55 = .ok (.if_icmp .ge 22, 3) := by decide +kernel
theorem dX3_smooth_58 : decode cX3_smooth 58 = .ok (.aload_n 0, 1) := by decide +kernel
theorem dX3_smooth_59 : decode cX3_smooth 59 = .ok (.iload_n 2, 1) := by decide +kernel
theorem dX3_smooth_60 : decode cX3_smooth 60 = .ok (.bipush 32, 2) := by decide +kernel
theorem dX3_smooth_62 : decode cX3_smooth 62 = .ok (.imul, 1) := by decide +kernel
theorem dX3_smooth_63 : decode cX3_smooth 63 = .ok (.iload_n 3, 1) := by decide +kernel
theorem dX3_smooth_64 : decode cX3_smooth 64 = .ok (.iadd, 1) := by decide +kernel
theorem dX3_smooth_65 : decode cX3_smooth 65 = .ok (.bipush 32, 2) := by decide +kernel
theorem dX3_smooth_67 : decode cX3_smooth 67 = .ok (.iload_n 1, 1) := by decide +kernel
theorem dX3_smooth_68 : decode cX3_smooth 68 = .ok (.invokevirtual 90, 3) := by decide +kernel
theorem dX3_smooth_71 : decode cX3_smooth 71 = .ok (.iinc 3 1, 3) := by decide +kernel
theorem dX3_smooth_74 : decode cX3_smooth 74 = .ok (.goto (-22), 3) := by decide +kernel
theorem dX3_smooth_77 : decode cX3_smooth 77 = .ok (.iinc 2 8, 3) := by decide +kernel
theorem dX3_smooth_80 : decode cX3_smooth 80 = .ok (.goto (-36), 3) := by decide +kernel
theorem dX3_smooth_83 : decode cX3_smooth 83 = .ok (.return_, 1) := by decide +kernel
theorem dX3_smoothAcross_0 : decode cX3_smoothAcross 0 = .ok (.aload_n 0, 1) := by decide +kernel
theorem dX3_smoothAcross_1 : decode cX3_smoothAcross 1 = .ok (.getfield 18, 3) := by decide +kernel
theorem dX3_smoothAcross_4 : decode cX3_smoothAcross 4 = .ok (.iload_n 1, 1) := by decide +kernel
theorem dX3_smoothAcross_5 : decode cX3_smoothAcross 5 = .ok (.iconst 2, 1) := by decide +kernel
theorem dX3_smoothAcross_6 : decode cX3_smoothAcross 6 = .ok (.iload_n 2, 1) := by decide +kernel
theorem dX3_smoothAcross_7 : decode cX3_smoothAcross 7 = .ok (.imul, 1) := by decide +kernel
theorem dX3_smoothAcross_8 : decode cX3_smoothAcross 8 = .ok (.isub, 1) := by decide +kernel
theorem dX3_smoothAcross_9 : decode cX3_smoothAcross 9 = .ok (.iaload, 1) := by decide +kernel
theorem dX3_smoothAcross_10 : decode cX3_smoothAcross 10 = .ok (.istore 4, 2) := by decide +kernel
theorem dX3_smoothAcross_12 : decode cX3_smoothAcross 12 = .ok (.aload_n 0, 1) := by decide +kernel
theorem dX3_smoothAcross_13 : decode cX3_smoothAcross 13 = .ok (.getfield 18, 3) := by decide +kernel
theorem dX3_smoothAcross_16 : decode cX3_smoothAcross 16 = .ok (.iload_n 1, 1) := by decide +kernel
theorem dX3_smoothAcross_17 : decode cX3_smoothAcross 17 = .ok (.iload_n 2, 1) := by decide +kernel
theorem dX3_smoothAcross_18 : decode cX3_smoothAcross 18 = .ok (.isub, 1) := by decide +kernel
theorem dX3_smoothAcross_19 : decode cX3_smoothAcross 19 = .ok (.iaload, 1) := by decide +kernel
theorem dX3_smoothAcross_20 : decode cX3_smoothAcross 20 = .ok (.istore 5, 2) := by decide +kernel
theorem dX3_smoothAcross_22 : decode cX3_smoothAcross 22 = .ok (.aload_n 0, 1) := by decide +kernel
theorem dX3_smoothAcross_23 : decode cX3_smoothAcross 23 = .ok (.getfield 18, 3) := by decide +kernel
theorem dX3_smoothAcross_26 : decode cX3_smoothAcross 26 = .ok (.iload_n 1, 1) := by decide +kernel
theorem dX3_smoothAcross_27 : decode cX3_smoothAcross 27 = .ok (.iaload, 1) := by decide +kernel
theorem dX3_smoothAcross_28 : decode cX3_smoothAcross 28 = .ok (.istore 6, 2) := by decide +kernel
theorem dX3_smoothAcross_30 : decode cX3_smoothAcross 30 = .ok (.aload_n 0, 1) := by decide +kernel
theorem dX3_smoothAcross_31 : decode cX3_smoothAcross 31 = .ok (.getfield 18, 3) := by decide +kernel
theorem dX3_smoothAcross_34 : decode cX3_smoothAcross 34 = .ok (.iload_n 1, 1) := by decide +kernel
theorem dX3_smoothAcross_35 : decode cX3_smoothAcross 35 = .ok (.iload_n 2, 1) := by decide +kernel
theorem dX3_smoothAcross_36 : decode cX3_smoothAcross 36 = .ok (.iadd, 1) := by decide +kernel
theorem dX3_smoothAcross_37 : decode cX3_smoothAcross 37 = .ok (.iaload, 1) := by decide +kernel
theorem dX3_smoothAcross_38 : decode cX3_smoothAcross 38 = .ok (.istore 7, 2) := by decide +kernel
theorem dX3_smoothAcross_40 : decode cX3_smoothAcross 40 = .ok (.iload 6, 2) := by decide +kernel
theorem dX3_smoothAcross_42 : decode cX3_smoothAcross 42 = .ok (.iload 5, 2) := by decide +kernel
theorem dX3_smoothAcross_44 : decode cX3_smoothAcross 44 = .ok (.isub, 1) := by decide +kernel
theorem dX3_smoothAcross_45 : decode cX3_smoothAcross 45 = .ok (.invokestatic 53, 3) := by decide +kernel
theorem dX3_smoothAcross_48 : decode cX3_smoothAcross 48 = .ok (.iconst 2, 1) := by decide +kernel
theorem dX3_smoothAcross_49 : decode cX3_smoothAcross 49 = .ok (.iload_n 3, 1) := by decide +kernel
theorem dX3_smoothAcross_50 : decode cX3_smoothAcross 50 = .ok (.iconst 2, 1) := by decide +kernel
theorem dX3_smoothAcross_51 : decode cX3_smoothAcross 51 = .ok (.iadd, 1) := by decide +kernel
theorem dX3_smoothAcross_52 : decode cX3_smoothAcross 52 = .ok (.imul, 1) := by decide +kernel
theorem dX3_smoothAcross_53 : decode cX3_smoothAcross 53 = .ok (.if_icmp .gt 7, 3) := by decide +kernel
theorem dX3_smoothAcross_56 : decode cX3_smoothAcross 56 = .ok (.iconst 1, 1) := by decide +kernel
theorem dX3_smoothAcross_57 : decode cX3_smoothAcross 57 = .ok (.goto 4, 3) := by decide +kernel
theorem dX3_smoothAcross_60 : decode cX3_smoothAcross 60 = .ok (.iconst 0, 1) := by decide +kernel
theorem dX3_smoothAcross_61 : decode cX3_smoothAcross 61 = .ok (.istore 8, 2) := by decide +kernel
theorem dX3_smoothAcross_63 : decode cX3_smoothAcross 63 = .ok (.iload 8, 2) := by decide +kernel
theorem dX3_smoothAcross_65 : decode cX3_smoothAcross 65 = .ok (.ifCond .eq 64, 3) := by decide +kernel
theorem dX3_smoothAcross_68 : decode cX3_smoothAcross 68 = .ok (.iload 5, 2) := by decide +kernel
theorem dX3_smoothAcross_70 : decode cX3_smoothAcross 70 = .ok (.iload 4, 2) := by decide +kernel
theorem dX3_smoothAcross_72 : decode cX3_smoothAcross 72 = .ok (.isub, 1) := by decide +kernel
theorem dX3_smoothAcross_73 : decode cX3_smoothAcross 73 = .ok (.invokestatic 53, 3) := by decide +kernel
theorem dX3_smoothAcross_76 : decode cX3_smoothAcross 76 = .ok (.iload_n 3, 1) := by decide +kernel
theorem dX3_smoothAcross_77 : decode cX3_smoothAcross 77 = .ok (.iconst 2, 1) := by decide +kernel
theorem dX3_smoothAcross_78 : decode cX3_smoothAcross 78 = .ok (.iadd, 1) := by decide +kernel
theorem dX3_smoothAcross_79 : decode cX3_smoothAcross 79 = .ok (.if_icmp .gt 50, 3) := by decide +kernel
theorem dX3_smoothAcross_82 : decode cX3_smoothAcross 82 = .ok (.iload 7, 2) := by decide +kernel
theorem dX3_smoothAcross_84 : decode cX3_smoothAcross 84 = .ok (.iload 6, 2) := by decide +kernel
theorem dX3_smoothAcross_86 : decode cX3_smoothAcross 86 = .ok (.isub, 1) := by decide +kernel
theorem dX3_smoothAcross_87 : decode cX3_smoothAcross 87 = .ok (.invokestatic 53, 3) := by decide +kernel
theorem dX3_smoothAcross_90 : decode cX3_smoothAcross 90 = .ok (.iload_n 3, 1) := by decide +kernel
theorem dX3_smoothAcross_91 : decode cX3_smoothAcross 91 = .ok (.iconst 2, 1) := by decide +kernel
theorem dX3_smoothAcross_92 : decode cX3_smoothAcross 92 = .ok (.iadd, 1) := by decide +kernel
theorem dX3_smoothAcross_93 : decode cX3_smoothAcross 93 = .ok (.if_icmp .gt 36, 3) := by decide +kernel
theorem dX3_smoothAcross_96 : decode cX3_smoothAcross 96 = .ok (.iload 6, 2) := by decide +kernel
theorem dX3_smoothAcross_98 : decode cX3_smoothAcross 98 = .ok (.iload 5, 2) := by decide +kernel
theorem dX3_smoothAcross_100 : decode cX3_smoothAcross 100 = .ok (.isub, 1) := by decide +kernel
theorem dX3_smoothAcross_101 : decode cX3_smoothAcross 101 = .ok (.iconst 4, 1) := by decide +kernel
theorem dX3_smoothAcross_102 : decode cX3_smoothAcross 102 = .ok (.idiv, 1) := by decide +kernel
theorem dX3_smoothAcross_103 : decode cX3_smoothAcross 103 = .ok (.istore 9, 2) := by decide +kernel
theorem dX3_smoothAcross_105 : decode cX3_smoothAcross 105 = .ok (.aload_n 0, 1) := by decide +kernel
theorem dX3_smoothAcross_106 : decode cX3_smoothAcross 106 = .ok (.getfield 18, 3) := by decide +kernel
theorem dX3_smoothAcross_109 : decode cX3_smoothAcross 109 = .ok (.iload_n 1, 1) := by decide +kernel
theorem dX3_smoothAcross_110 : decode cX3_smoothAcross 110 = .ok (.iload_n 2, 1) := by decide +kernel
theorem dX3_smoothAcross_111 : decode cX3_smoothAcross 111 = .ok (.isub, 1) := by decide +kernel
theorem dX3_smoothAcross_112 : decode cX3_smoothAcross 112 = .ok (.iload 5, 2) := by decide +kernel
theorem dX3_smoothAcross_114 : decode cX3_smoothAcross 114 = .ok (.iload 9, 2) := by decide +kernel
theorem dX3_smoothAcross_116 : decode cX3_smoothAcross 116 = .ok (.iadd, 1) := by decide +kernel
theorem dX3_smoothAcross_117 : decode cX3_smoothAcross 117 = .ok (.iastore, 1) := by decide +kernel
theorem dX3_smoothAcross_118 : decode cX3_smoothAcross 118 = .ok (.aload_n 0, 1) := by decide +kernel
theorem dX3_smoothAcross_119 : decode cX3_smoothAcross 119 = .ok (.getfield 18, 3) := by decide +kernel
theorem dX3_smoothAcross_122 : decode cX3_smoothAcross 122 = .ok (.iload_n 1, 1) := by decide +kernel
theorem dX3_smoothAcross_123 : decode cX3_smoothAcross 123 = .ok (.iload 6, 2) := by decide +kernel
theorem dX3_smoothAcross_125 : decode cX3_smoothAcross 125 = .ok (.iload 9, 2) := by decide +kernel
theorem dX3_smoothAcross_127 : decode cX3_smoothAcross 127 = .ok (.isub, 1) := by decide +kernel
theorem dX3_smoothAcross_128 : decode cX3_smoothAcross 128 = .ok (.iastore, 1) := by decide +kernel
theorem dX3_smoothAcross_129 : decode cX3_smoothAcross 129 = .ok (.return_, 1) := by decide +kernel
set_option maxRecDepth 20000 in
theorem ggX4_init_X3_init : GoodIn wsX4_init wsX3_init := goodIn_r _ [12, 13, 2, 3, 8, 14, 15, 16, 17, 22, 23, 24, 25] (by decide +kernel) (by decide +kernel)
set_option maxRecDepth 20000 in
theorem gX4_init_X3_init_n11 : GoodIn wsX4_init (wsX3_init) := ggX4_init_X3_init
set_option maxRecDepth 20000 in
theorem ggX4_init_J7_fill_53178 : GoodIn wsX4_init wsJ7_fill_53178 := goodIn_r _ [21] (by decide +kernel) (by decide +kernel)
set_option maxRecDepth 20000 in
theorem gX4_init_J7_fill_53178 : GoodIn wsX4_init (va_wsS RX4 26 yJ7_fill_53178 wsJ7_fill_53178) := goodIn_app (goodIn_of _ (by decide +kernel)) ggX4_init_J7_fill_53178
theorem dX4_init_0 : decode cX4_init 0 = .ok (.aload_n 0, 1) := by decide +kernel
theorem dX4_init_1 : decode cX4_init 1 = .ok (.invokespecial 3, 3) := by decide +kernel
theorem dX4_init_4 : decode cX4_init 4 = .ok (.aload_n 0, 1) := by decide +kernel
theorem dX4_init_5 : decode cX4_init 5 = .ok (.new 9, 3) := by decide +kernel
theorem dX4_init_8 : decode cX4_init 8 = .ok (.dup, 1) := by decide +kernel
theorem dX4_init_9 : decode cX4_init 9 = .ok (.invokespecial 11, 3) := by decide +kernel
theorem dX4_init_12 : decode cX4_init 12 = .ok (.putfield 12, 3) := by decide +kernel
theorem dX4_init_15 : decode cX4_init 15 = .ok (.aload_n 0, 1) := by decide +kernel
theorem dX4_init_16 : decode cX4_init 16 = .ok (.sipush 768, 3) := by decide +kernel
theorem dX4_init_19 : decode cX4_init 19 = .ok (.newarray .int, 2) := by decide +kernel
theorem dX4_init_21 : decode cX4_init 21 = .ok (.putfield 18, 3) := by decide +kernel
theorem dX4_init_24 : decode cX4_init 24 = .ok (.aload_n 0, 1) := by decide +kernel
theorem dX4_init_25 : decode cX4_init 25 = .ok (.iconst 0, 1) := by decide +kernel
theorem dX4_init_26 : decode cX4_init 26 = .ok (.putfield 22, 3) := by decide +kernel
theorem dX4_init_29 : decode cX4_init 29 = .ok (.aload_n 0, 1) := by decide +kernel
theorem dX4_init_30 : decode cX4_init 30 = .ok (.getfield 18, 3) := by decide +kernel
theorem dX4_init_33 : decode cX4_init 33 = .ok (.sipush 128, 3) := by decide +kernel
theorem dX4_init_36 : decode cX4_init 36 = .ok (.invokestatic 26, 3) := by decide +kernel
theorem dX4_init_39 : decode cX4_init 39 = .ok (.return_, 1) := by decide +kernel
set_option maxRecDepth 20000 in
theorem ggX4_make_X3_lookAhead : GoodIn wsX4_make wsX3_lookAhead := goodIn_r _ [14, 15, 16, 17, 18, 19, 20, 21, 22, 23, 24, 25, 129, 130, 131, 132] (by decide +kernel) (by decide +kernel)
set_option maxRecDepth 20000 in
theorem gX4_make_X3_lookAhead : GoodIn wsX4_make (wsV RX4 32 RX3 yX3_lookAhead wsX3_lookAhead) := goodIn_app (goodIn_of _ (by decide +kernel)) ggX4_make_X3_lookAhead
set_option maxRecDepth 20000 in
theorem ggX4_make_X3_foretell : GoodIn wsX4_make wsX3_foretell := goodIn_r _ [29, 30, 31, 32, 13, 33, 34, 35, 36, 37, 38, 39, 40, 41, 42, 15, 43, 44, 45, 46, 47, 48, 17, 49, 50, 51, 52, 53, 54, 55, 56, 57, 58, 59, 60, 61, 62, 63, 64, 65, 129, 130, 131, 132] (by decide +kernel) (by decide +kernel)
set_option maxRecDepth 20000 in
theorem gX4_make_X3_foretell : GoodIn wsX4_make (wsV RX4 51 RX3 yX3_foretell wsX3_foretell) := goodIn_app (goodIn_of _ (by decide +kernel)) ggX4_make_X3_foretell
set_option maxRecDepth 20000 in
theorem ggX4_make_X3_makeBlock : GoodIn wsX4_make wsX3_makeBlock := goodIn_r _ [69, 70, 71, 47, 34, 72, 73, 74, 13, 75, 76, 77, 78, 79, 80, 81, 82, 83, 84, 85, 50, 17, 51, 64, 65, 129, 130, 131, 132] (by decide +kernel) (by decide +kernel)
set_option maxRecDepth 20000 in
theorem gX4_make_X3_makeBlock : GoodIn wsX4_make (wsV RX4 61 RX3 yX3_makeBlock wsX3_makeBlock) := goodIn_app (goodIn_of _ (by decide +kernel)) ggX4_make_X3_makeBlock
set_option maxRecDepth 20000 in
theorem ggX4_make_X4_conceal : GoodIn wsX4_make wsX4_conceal := goodIn_r _ [90, 3, 5, 6, 1, 26, 27, 28, 13, 29, 30, 31, 32, 33, 34, 35, 36, 37, 38, 39, 40, 41, 42, 15, 43, 44, 45, 46, 47, 48, 17, 49, 50, 51, 52, 53, 54, 55, 56, 57, 58, 59, 60, 61, 62, 63, 64, 65, 91, 92, 93, 94, 83, 84, 85, 115, 116, 117, 118, 119, 120, 121, 122, 123, 124, 125, 126, 127, 128, 112, 113, 114, 129, 130, 131, 132] (by decide +kernel) (by decide +kernel)
set_option maxRecDepth 20000 in
theorem gX4_make_X4_conceal : GoodIn wsX4_make (wsV RX4 65 RX4 yX4_conceal wsX4_conceal) := goodIn_app (goodIn_of _ (by decide +kernel)) ggX4_make_X4_conceal
set_option maxRecDepth 20000 in
theorem ggX4_make_X2_bandsGot : GoodIn wsX4_make wsX2_bandsGot := goodIn_r _ [99, 100, 115, 116, 117, 118, 119, 120, 121, 122, 123, 124, 125, 126, 127, 128] (by decide +kernel) (by decide +kernel)
set_option maxRecDepth 20000 in
theorem gX4_make_X2_bandsGot : GoodIn wsX4_make (wsV RX4 73 RX2 yX2_bandsGot wsX2_bandsGot) := goodIn_app (goodIn_of _ (by decide +kernel)) ggX4_make_X2_bandsGot
set_option maxRecDepth 20000 in
theorem ggX4_make_X3_smooth : GoodIn wsX4_make wsX3_smooth := goodIn_r _ [104, 105, 106, 107, 13, 108, 47, 109, 110, 21, 111, 129, 130, 131, 132] (by decide +kernel) (by decide +kernel)
set_option maxRecDepth 20000 in
theorem gX4_make_X3_smooth : GoodIn wsX4_make (wsV RX4 77 RX3 yX3_smooth wsX3_smooth) := goodIn_app (goodIn_of _ (by decide +kernel)) ggX4_make_X3_smooth
theorem dX4_make_0 : decode cX4_make 0 = .ok (.aload_n 0, 1) := by decide +kernel
theorem dX4_make_1 : decode cX4_make 1 = .ok (.getfield 12, 3) := by decide +kernel
theorem dX4_make_4 : decode cX4_make 4 = .ok (.aload_n 0, 1) := by decide +kernel
theorem dX4_make_5 : decode cX4_make 5 = .ok (.getfield 18, 3) := by decide +kernel
theorem dX4_make_8 : decode cX4_make 8 = .ok (.invokevirtual 32, 3) := by decide +kernel
theorem dX4_make_11 : decode cX4_make 11 = .ok (.iconst 0, 1) := by decide +kernel
theorem dX4_make_12 : decode cX4_make 12 = .ok (.istore_n 2, 1) := by decide +kernel
theorem dX4_make_13 : decode cX4_make 13 = .ok (.iload_n 2, 1) := by decide +kernel
theorem dX4_make_14 : decode cX4_make 14 = .ok (.bipush 12, 2) := by decide +kernel
theorem dX4_make_16 : decode cX4_make 16 = .ok (.if_icmp .ge 71, 3) := by decide +kernel
theorem dX4_make_19 : decode cX4_make 19 = .ok (.aload_n 1, 1) := by decide +kernel
theorem dX4_make_20 : decode cX4_make 20 = .ok (.getfield 36, 3) := by decide +kernel
theorem dX4_make_23 : decode cX4_make 23 = .ok (.iload_n 2, 1) := by decide +kernel
theorem dX4_make_24 : decode cX4_make 24 = .ok (.iconst 4, 1) := by decide +kernel
theorem dX4_make_25 : decode cX4_make 25 = .ok (.idiv, 1) := by decide +kernel
theorem dX4_make_26 : decode cX4_make 26 = .ok (.baload, 1) := by decide +kernel
theorem dX4_make_27 : decode cX4_make 27 = .ok (.ifCond .eq 48, 3) := by decide +kernel
theorem dX4_make_30 : decode cX4_make 30 = .ok (.aload_n 0, 1) := by decide +kernel
theorem dX4_make_31 : decode cX4_make 31 = .ok (.getfield 12, 3) := by decide +kernel
theorem dX4_make_34 : decode cX4_make 34 = .ok (.aload_n 1, 1) := by decide +kernel
theorem dX4_make_35 : decode cX4_make 35 = .ok (.getfield 42, 3) := by decide +kernel
theorem dX4_make_38 : decode cX4_make 38 = .ok (.iload_n 2, 1) := by decide +kernel
theorem dX4_make_39 : decode cX4_make 39 = .ok (.iaload, 1) := by decide +kernel
theorem dX4_make_40 : decode cX4_make 40 = .ok (.iload_n 2, 1) := by decide +kernel
theorem dX4_make_41 : decode cX4_make 41 = .ok (.aload_n 1, 1) := by decide +kernel
theorem dX4_make_42 : decode cX4_make 42 = .ok (.getfield 45, 3) := by decide +kernel
theorem dX4_make_45 : decode cX4_make 45 = .ok (.iload_n 2, 1) := by decide +kernel
theorem dX4_make_46 : decode cX4_make 46 = .ok (.iaload, 1) := by decide +kernel
theorem dX4_make_47 : decode cX4_make 47 = .ok (.aload_n 1, 1) := by decide +kernel
theorem dX4_make_48 : decode cX4_make 48 = .ok (.getfield 48, 3) := by decide +kernel
theorem dX4_make_51 : decode cX4_make 51 = .ok (.iload_n 2, 1) := by decide +kernel
theorem dX4_make_52 : decode cX4_make 52 = .ok (.iaload, 1) := by decide +kernel
theorem dX4_make_53 : decode cX4_make 53 = .ok (.invokevirtual 51, 3) := by decide +kernel
theorem dX4_make_56 : decode cX4_make 56 = .ok (.aload_n 0, 1) := by decide +kernel
theorem dX4_make_57 : decode cX4_make 57 = .ok (.getfield 12, 3) := by decide +kernel
theorem dX4_make_60 : decode cX4_make 60 = .ok (.iload_n 2, 1) := by decide +kernel
theorem dX4_make_61 : decode cX4_make 61 = .ok (.aload_n 1, 1) := by decide +kernel
theorem dX4_make_62 : decode cX4_make 62 = .ok (.getfield 55, 3) := by decide +kernel
theorem dX4_make_65 : decode cX4_make 65 = .ok (.aload_n 1, 1) := by decide +kernel
theorem dX4_make_66 : decode cX4_make 66 = .ok (.getfield 58, 3) := by decide +kernel
theorem dX4_make_69 : decode cX4_make 69 = .ok (.invokevirtual 61, 3) := by decide +kernel
theorem dX4_make_72 : decode cX4_make 72 = .ok (.goto 9, 3) := by decide +kernel
theorem dX4_make_75 : decode cX4_make 75 = .ok (.aload_n 0, 1) := by decide +kernel
theorem dX4_make_76 : decode cX4_make 76 = .ok (.aload_n 1, 1) := by decide +kernel
theorem dX4_make_77 : decode cX4_make 77 = .ok (.iload_n 2, 1) := by decide +kernel
theorem dX4_make_78 : decode cX4_make 78 = .ok (.invokevirtual 65, 3) := by decide +kernel
theorem dX4_make_81 : decode cX4_make 81 = .ok (.iinc 2 1, 3) := by decide +kernel
theorem dX4_make_84 : decode cX4_make 84 = .ok (.goto (-71), 3) := by decide +kernel
theorem dX4_make_87 : decode cX4_make 87 = .ok (.aload_n 1, 1) := by decide +kernel
theorem dX4_make_88 : decode cX4_make 88 = .ok (.getfield 69, 3) := by decide +kernel
theorem dX4_make_91 : decode cX4_make 91 = .ok (.ifCond .eq 21, 3) := by decide +kernel
theorem dX4_make_94 : decode cX4_make 94 = .ok (.aload_n 1, 1) := by decide +kernel
theorem dX4_make_95 : decode cX4_make 95 = .ok (.invokevirtual 73, 3) := by decide +kernel
theorem dX4_make_98 : decode cX4_make 98 = .ok (.ifCond .le 14, 3) := by decide +kernel
theorem dX4_make_101 : decode cX4_make 101 = .ok (.aload_n 0, 1) := by decide +kernel
theorem dX4_make_102 : decode cX4_make 102 = .ok (.getfield 12, 3) := by decide +kernel
theorem dX4_make_105 : decode cX4_make 105 = .ok (.aload_n 1, 1) := by decide +kernel
theorem dX4_make_106 : decode cX4_make 106 = .ok (.getfield 55, 3) := by decide +kernel
theorem dX4_make_109 : decode cX4_make 109 = .ok (.invokevirtual 77, 3) := by decide +kernel
theorem dX4_make_112 : decode cX4_make 112 = .ok (.return_, 1) := by decide +kernel
set_option maxRecDepth 20000 in
theorem ggX4_conceal_X3_foretell : GoodIn wsX4_conceal wsX3_foretell := goodIn_r _ [9, 10, 11, 12, 8, 13, 14, 15, 16, 17, 18, 19, 20, 21, 22, 23, 24, 25, 26, 27, 28, 29, 30, 31, 32, 33, 34, 35, 36, 37, 38, 39, 40, 41, 42, 43, 44, 45, 46, 47, 72, 73, 74, 75] (by decide +kernel) (by decide +kernel)
set_option maxRecDepth 20000 in
theorem gX4_conceal_X3_foretell : GoodIn wsX4_conceal (wsV RX4 51 RX3 yX3_foretell wsX3_foretell) := goodIn_app (goodIn_of _ (by decide +kernel)) ggX4_conceal_X3_foretell
set_option maxRecDepth 20000 in
theorem ggX4_conceal_X3_makeForetold : GoodIn wsX4_conceal wsX3_makeForetold := goodIn_r _ [51, 28, 14, 52, 53, 8, 54, 32, 30, 33, 72, 73, 74, 75] (by decide +kernel) (by decide +kernel)
set_option maxRecDepth 20000 in
theorem gX4_conceal_X3_makeForetold : GoodIn wsX4_conceal (wsV RX4 81 RX3 yX3_makeForetold wsX3_makeForetold) := goodIn_app (goodIn_of _ (by decide +kernel)) ggX4_conceal_X3_makeForetold
theorem dX4_conceal_0 : decode cX4_conceal 0 = .ok (.iload_n 2, 1) := by decide +kernel
theorem dX4_conceal_1 : decode cX4_conceal 1 = .ok (.iconst 4, 1) := by decide +kernel
theorem dX4_conceal_2 : decode cX4_conceal 2 = .ok (.isub, 1) := by decide +kernel
theorem dX4_conceal_3 : decode cX4_conceal 3 = .ok (.istore_n 3, 1) := by decide +kernel
theorem dX4_conceal_4 : decode cX4_conceal 4 = .ok (.iload_n 3, 1) := by decide +kernel
theorem dX4_conceal_5 : decode cX4_conceal 5 = .ok (.ifCond .lt 18, 3) := by decide +kernel
theorem dX4_conceal_8 : decode cX4_conceal 8 = .ok (.aload_n 1, 1) := by decide +kernel
theorem dX4_conceal_9 : decode cX4_conceal 9 = .ok (.getfield 36, 3) := by decide +kernel
theorem dX4_conceal_12 : decode cX4_conceal 12 = .ok (.iload_n 3, 1) := by decide +kernel
theorem dX4_conceal_13 : decode cX4_conceal 13 = .ok (.iconst 4, 1) := by decide +kernel
theorem dX4_conceal_14 : decode cX4_conceal 14 = .ok (.idiv, 1) := by decide +kernel
theorem dX4_conceal_15 : decode cX4_conceal 15 = .ok (.baload, 1) := by decide +kernel
theorem dX4_conceal_16 : decode cX4_conceal 16 = .ok (.ifCond .eq 7, 3) := by decide +kernel
theorem dX4_conceal_19 : decode cX4_conceal 19 = .ok (.iconst 1, 1) := by decide +kernel
theorem dX4_conceal_20 : decode cX4_conceal 20 = .ok (.goto 4, 3) := by decide +kernel
theorem dX4_conceal_23 : decode cX4_conceal 23 = .ok (.iconst 0, 1) := by decide +kernel
theorem dX4_conceal_24 : decode cX4_conceal 24 = .ok (.istore 4, 2) := by decide +kernel
theorem dX4_conceal_26 : decode cX4_conceal 26 = .ok (.iload 4, 2) := by decide +kernel
theorem dX4_conceal_28 : decode cX4_conceal 28 = .ok (.ifCond .eq 12, 3) := by decide +kernel
theorem dX4_conceal_31 : decode cX4_conceal 31 = .ok (.aload_n 1, 1) := by decide +kernel
theorem dX4_conceal_32 : decode cX4_conceal 32 = .ok (.getfield 45, 3) := by decide +kernel
theorem dX4_conceal_35 : decode cX4_conceal 35 = .ok (.iload_n 3, 1) := by decide +kernel
theorem dX4_conceal_36 : decode cX4_conceal 36 = .ok (.iaload, 1) := by decide +kernel
theorem dX4_conceal_37 : decode cX4_conceal 37 = .ok (.goto 4, 3) := by decide +kernel
theorem dX4_conceal_40 : decode cX4_conceal 40 = .ok (.iconst 0, 1) := by decide +kernel
theorem dX4_conceal_41 : decode cX4_conceal 41 = .ok (.istore 5, 2) := by decide +kernel
theorem dX4_conceal_43 : decode cX4_conceal 43 = .ok (.iload 4, 2) := by decide +kernel
theorem dX4_conceal_45 : decode cX4_conceal 45 = .ok (.ifCond .eq 12, 3) := by decide +kernel
theorem dX4_conceal_48 : decode cX4_conceal 48 = .ok (.aload_n 1, 1) := by decide +kernel
theorem dX4_conceal_49 : decode cX4_conceal 49 = .ok (.getfield 48, 3) := by decide +kernel
theorem dX4_conceal_52 : decode cX4_conceal 52 = .ok (.iload_n 3, 1) := by decide +kernel
theorem dX4_conceal_53 : decode cX4_conceal 53 = .ok (.iaload, 1) := by decide +kernel
theorem dX4_conceal_54 : decode cX4_conceal 54 = .ok (.goto 4, 3) := by decide +kernel
theorem dX4_conceal_57 : decode cX4_conceal 57 = .ok (.iconst 0, 1) := by decide +kernel
theorem dX4_conceal_58 : decode cX4_conceal 58 = .ok (.istore 6, 2) := by decide +kernel
theorem dX4_conceal_60 : decode cX4_conceal 60 = .ok (.aload_n 0, 1) := by decide +kernel
theorem dX4_conceal_61 : decode cX4_conceal 61 = .ok (.getfield 12, 3) := by decide +kernel
theorem dX4_conceal_64 : decode cX4_conceal 64 = .ok (.iconst 1, 1) := by decide +kernel
theorem dX4_conceal_65 : decode cX4_conceal 65 = .ok (.iload_n 2, 1) := by decide +kernel
theorem dX4_conceal_66 : decode cX4_conceal 66 = .ok (.iload 5, 2) := by decide +kernel
theorem dX4_conceal_68 : decode cX4_conceal 68 = .ok (.iload 6, 2) := by decide +kernel
theorem dX4_conceal_70 : decode cX4_conceal 70 = .ok (.invokevirtual 51, 3) := by decide +kernel
theorem dX4_conceal_73 : decode cX4_conceal 73 = .ok (.aload_n 0, 1) := by decide +kernel
theorem dX4_conceal_74 : decode cX4_conceal 74 = .ok (.getfield 12, 3) := by decide +kernel
theorem dX4_conceal_77 : decode cX4_conceal 77 = .ok (.iload_n 2, 1) := by decide +kernel
theorem dX4_conceal_78 : decode cX4_conceal 78 = .ok (.invokevirtual 81, 3) := by decide +kernel
theorem dX4_conceal_81 : decode cX4_conceal 81 = .ok (.return_, 1) := by decide +kernel
theorem dX4_takeMade_0 : decode cX4_takeMade 0 = .ok (.aload_n 0, 1) := by decide +kernel
theorem dX4_takeMade_1 : decode cX4_takeMade 1 = .ok (.getfield 12, 3) := by decide +kernel
theorem dX4_takeMade_4 : decode cX4_takeMade 4 = .ok (.getfield 84, 3) := by decide +kernel
theorem dX4_takeMade_7 : decode cX4_takeMade 7 = .ok (.iconst 0, 1) := by decide +kernel
theorem dX4_takeMade_8 : decode cX4_takeMade 8 = .ok (.aload_n 0, 1) := by decide +kernel
theorem dX4_takeMade_9 : decode cX4_takeMade 9 = .ok (.getfield 18, 3) := by decide +kernel
theorem dX4_takeMade_12 : decode cX4_takeMade 12 = .ok (.iconst 0, 1) := by decide +kernel
theorem dX4_takeMade_13 : decode cX4_takeMade 13 = .ok (.sipush 768, 3) := by decide +kernel
theorem dX4_takeMade_16 : decode cX4_takeMade 16 = .ok (.invokestatic 87, 3) := by decide +kernel
theorem dX4_takeMade_19 : decode cX4_takeMade 19 = .ok (.aload_n 0, 1) := by decide +kernel
theorem dX4_takeMade_20 : decode cX4_takeMade 20 = .ok (.dup, 1) := by decide +kernel
theorem dX4_takeMade_21 : decode cX4_takeMade 21 = .ok (.getfield 22, 3) := by decide +kernel
theorem dX4_takeMade_24 : decode cX4_takeMade 24 = .ok (.iconst 1, 1) := by decide +kernel
theorem dX4_takeMade_25 : decode cX4_takeMade 25 = .ok (.iadd, 1) := by decide +kernel
theorem dX4_takeMade_26 : decode cX4_takeMade 26 = .ok (.putfield 22, 3) := by decide +kernel
theorem dX4_takeMade_29 : decode cX4_takeMade 29 = .ok (.return_, 1) := by decide +kernel
set_option maxRecDepth 20000 in
theorem ggX5_init_X0_init : GoodIn wsX5_init wsX0_init := goodIn_r _ [32, 33, 2, 3, 34, 35, 36, 37, 38, 39, 40, 41, 42, 43, 44, 4, 45, 46, 47, 48, 126, 127, 128, 129, 100, 101, 102, 103, 104] (by decide +kernel) (by decide +kernel)
set_option maxRecDepth 20000 in
theorem gX5_init_X0_init_n21 : GoodIn wsX5_init (wsX0_init) := ggX5_init_X0_init
set_option maxRecDepth 20000 in
theorem ggX5_init_X1_init : GoodIn wsX5_init wsX1_init := goodIn_r _ [50, 51, 2, 3, 4, 52, 53, 54, 55, 105, 106, 107, 108] (by decide +kernel) (by decide +kernel)
set_option maxRecDepth 20000 in
theorem gX5_init_X1_init_n28 : GoodIn wsX5_init (wsX1_init) := ggX5_init_X1_init
set_option maxRecDepth 20000 in
theorem ggX5_init_X4_init : GoodIn wsX5_init wsX4_init := goodIn_r _ [58, 59, 2, 3, 60, 35, 36, 61, 4, 62, 63, 42, 43, 44, 45, 46, 47, 48, 64, 65, 66, 67, 126, 127, 128, 129, 109, 110, 111] (by decide +kernel) (by decide +kernel)
set_option maxRecDepth 20000 in
theorem gX5_init_X4_init : GoodIn wsX5_init (wsX4_init) := ggX5_init_X4_init
set_option maxRecDepth 20000 in
theorem ggX5_init_X2_init : GoodIn wsX5_init wsX2_init := goodIn_r _ [69, 70, 2, 3, 4, 71, 72, 73, 74, 75, 76, 77, 78, 79, 80, 81, 82, 83, 84, 85, 112, 113, 114, 115, 116, 117, 118, 119, 120, 121, 122, 123, 124, 125] (by decide +kernel) (by decide +kernel)
set_option maxRecDepth 20000 in
theorem gX5_init_X2_init_n43 : GoodIn wsX5_init (wsX2_init) := ggX5_init_X2_init
theorem dX5_init_0 : decode cX5_init 0 = .ok (.aload_n 0, 1) := by decide +kernel
theorem dX5_init_1 : decode cX5_init 1 = .ok (.invokespecial 3, 3) := by decide +kernel
theorem dX5_init_4 : decode cX5_init 4 = .ok (.aload_n 0, 1) := by decide +kernel
theorem dX5_init_5 : decode cX5_init 5 = .ok (.sipush 768, 3) := by decide +kernel
theorem dX5_init_8 : decode cX5_init 8 = .ok (.newarray .int, 2) := by decide +kernel
theorem dX5_init_10 : decode cX5_init 10 = .ok (.putfield 9, 3) := by decide +kernel
theorem dX5_init_13 : decode cX5_init 13 = .ok (.aload_n 0, 1) := by decide +kernel
theorem dX5_init_14 : decode cX5_init 14 = .ok (.bipush 24, 2) := by decide +kernel
theorem dX5_init_16 : decode cX5_init 16 = .ok (.anewarray 13, 3) := by decide +kernel
theorem dX5_init_19 : decode cX5_init 19 = .ok (.putfield 15, 3) := by decide +kernel
theorem dX5_init_22 : decode cX5_init 22 = .ok (.aload_n 0, 1) := by decide +kernel
theorem dX5_init_23 : decode cX5_init 23 = .ok (.new 19, 3) := by decide +kernel
theorem dX5_init_26 : decode cX5_init 26 = .ok (.dup, 1) := by decide +kernel
theorem dX5_init_27 : decode cX5_init 27 = .ok (.invokespecial 21, 3) := by decide +kernel
theorem dX5_init_30 : decode cX5_init 30 = .ok (.putfield 22, 3) := by decide +kernel
theorem dX5_init_33 : decode cX5_init 33 = .ok (.aload_n 0, 1) := by decide +kernel
theorem dX5_init_34 : decode cX5_init 34 = .ok (.new 26, 3) := by decide +kernel
theorem dX5_init_37 : decode cX5_init 37 = .ok (.dup, 1) := by decide +kernel
theorem dX5_init_38 : decode cX5_init 38 = .ok (.invokespecial 28, 3) := by decide +kernel
theorem dX5_init_41 : decode cX5_init 41 = .ok (.putfield 29, 3) := by decide +kernel
theorem dX5_init_44 : decode cX5_init 44 = .ok (.aload_n 0, 1) := by decide +kernel
theorem dX5_init_45 : decode cX5_init 45 = .ok (.new 33, 3) := by decide +kernel
theorem dX5_init_48 : decode cX5_init 48 = .ok (.dup, 1) := by decide +kernel
theorem dX5_init_49 : decode cX5_init 49 = .ok (.invokespecial 35, 3) := by decide +kernel
theorem dX5_init_52 : decode cX5_init 52 = .ok (.putfield 36, 3) := by decide +kernel
theorem dX5_init_55 : decode cX5_init 55 = .ok (.aload_n 0, 1) := by decide +kernel
theorem dX5_init_56 : decode cX5_init 56 = .ok (.sipush 768, 3) := by decide +kernel
theorem dX5_init_59 : decode cX5_init 59 = .ok (.newarray .int, 2) := by decide +kernel
theorem dX5_init_61 : decode cX5_init 61 = .ok (.putfield 40, 3) := by decide +kernel
theorem dX5_init_64 : decode cX5_init 64 = .ok (.aload_n 0, 1) := by decide +kernel
theorem dX5_init_65 : decode cX5_init 65 = .ok (.new 13, 3) := by decide +kernel
theorem dX5_init_68 : decode cX5_init 68 = .ok (.dup, 1) := by decide +kernel
theorem dX5_init_69 : decode cX5_init 69 = .ok (.invokespecial 43, 3) := by decide +kernel
theorem dX5_init_72 : decode cX5_init 72 = .ok (.putfield 44, 3) := by decide +kernel
theorem dX5_init_75 : decode cX5_init 75 = .ok (.aload_n 0, 1) := by decide +kernel
theorem dX5_init_76 : decode cX5_init 76 = .ok (.iconst 0, 1) := by decide +kernel
theorem dX5_init_77 : decode cX5_init 77 = .ok (.putfield 48, 3) := by decide +kernel
theorem dX5_init_80 : decode cX5_init 80 = .ok (.aload_n 0, 1) := by decide +kernel
theorem dX5_init_81 : decode cX5_init 81 = .ok (.iconst 0, 1) := by decide +kernel
theorem dX5_init_82 : decode cX5_init 82 = .ok (.putfield 52, 3) := by decide +kernel
theorem dX5_init_85 : decode cX5_init 85 = .ok (.aload_n 0, 1) := by decide +kernel
theorem dX5_init_86 : decode cX5_init 86 = .ok (.bipush 8, 2) := by decide +kernel
theorem dX5_init_88 : decode cX5_init 88 = .ok (.putfield 55, 3) := by decide +kernel
theorem dX5_init_91 : decode cX5_init 91 = .ok (.aload_n 0, 1) := by decide +kernel
theorem dX5_init_92 : decode cX5_init 92 = .ok (.iconst 0, 1) := by decide +kernel
theorem dX5_init_93 : decode cX5_init 93 = .ok (.putfield 58, 3) := by decide +kernel
theorem dX5_init_96 : decode cX5_init 96 = .ok (.aload_n 0, 1) := by decide +kernel
theorem dX5_init_97 : decode cX5_init 97 = .ok (.bipush 12, 2) := by decide +kernel
theorem dX5_init_99 : decode cX5_init 99 = .ok (.putfield 61, 3) := by decide +kernel
theorem dX5_init_102 : decode cX5_init 102 = .ok (.aload_n 0, 1) := by decide +kernel
theorem dX5_init_103 : decode cX5_init 103 = .ok (.iconst 1, 1) := by decide +kernel
theorem dX5_init_104 : decode cX5_init 104 = .ok (.putfield 64, 3) := by decide +kernel
theorem dX5_init_107 : decode cX5_init 107 = .ok (.aload_n 0, 1) := by decide +kernel
theorem dX5_init_108 : decode cX5_init 108 = .ok (.iconst 0, 1) := by decide +kernel
theorem dX5_init_109 : decode cX5_init 109 = .ok (.putfield 68, 3) := by decide +kernel
theorem dX5_init_112 : decode cX5_init 112 = .ok (.return_, 1) := by decide +kernel
set_option maxRecDepth 20000 in
theorem ggX5_fill_X5_isWithin : GoodIn wsX5_fill wsX5_isWithin := goodIn_r _ [7] (by decide +kernel) (by decide +kernel)
set_option maxRecDepth 20000 in
theorem gX5_fill_X5_isWithin : GoodIn wsX5_fill (va_wsS RX5 71 yX5_isWithin wsX5_isWithin) := goodIn_app (goodIn_of _ (by decide +kernel)) ggX5_fill_X5_isWithin
theorem dX5_fill_0 : decode cX5_fill 0 = .ok (.iload_n 1, 1) := by decide +kernel
theorem dX5_fill_1 : decode cX5_fill 1 = .ok (.iconst 0, 1) := by decide +kernel
theorem dX5_fill_2 : decode cX5_fill 2 = .ok (.sipush 255, 3) := by decide +kernel
theorem dX5_fill_5 : decode cX5_fill 5 = .ok (.invokestatic 71, 3) := by decide +kernel
theorem dX5_fill_8 : decode cX5_fill 8 = .ok (.ifCond .ne 13, 3) := by decide +kernel
theorem dX5_fill_11 : decode cX5_fill 11 = .ok (.new 75, 3) := by decide +kernel
theorem dX5_fill_14 : decode cX5_fill 14 = .ok (.dup, 1) := by decide +kernel
theorem dX5_fill_15 : decode cX5_fill 15 = .ok (.ldc 77, 2) := by decide +kernel
theorem dX5_fill_17 : decode cX5_fill 17 = .ok (.invokespecial 79, 3) := by decide +kernel
theorem dX5_fill_20 : decode cX5_fill 20 = .ok (.athrow, 1) := by decide +kernel
theorem dX5_fill_21 : decode cX5_fill 21 = .ok (.iconst 0, 1) := by decide +kernel
theorem dX5_fill_22 : decode cX5_fill 22 = .ok (.istore_n 2, 1) := by decide +kernel
theorem dX5_fill_23 : decode cX5_fill 23 = .ok (.iconst 0, 1) := by decide +kernel
theorem dX5_fill_24 : decode cX5_fill 24 = .ok (.istore_n 3, 1) := by decide +kernel
theorem dX5_fill_25 : decode cX5_fill 25 = .ok (.iload_n 3, 1) := by decide +kernel
theorem dX5_fill_26 : decode cX5_fill 26 = .ok (.sipush 768, 3) := by decide +kernel
theorem dX5_fill_29 : decode cX5_fill 29 = .ok (.if_icmp .ge 34, 3) := by decide +kernel
theorem dX5_fill_32 : decode cX5_fill 32 = .ok (.iload_n 2, 1) := by decide +kernel
theorem dX5_fill_33 : decode cX5_fill 33 = .ok (.aload_n 0, 1) := by decide +kernel
theorem dX5_fill_34 : decode cX5_fill 34 = .ok (.getfield 9, 3) := by decide +kernel
theorem dX5_fill_37 : decode cX5_fill 37 = .ok (.iload_n 3, 1) := by decide +kernel
theorem dX5_fill_38 : decode cX5_fill 38 = .ok (.iaload, 1) := by decide +kernel
theorem dX5_fill_39 : decode cX5_fill 39 = .ok (.iload_n 1, 1) := by decide +kernel
theorem dX5_fill_40 : decode cX5_fill 40 = .ok (.if_icmp .ne 7, 3) := by decide +kernel
theorem dX5_fill_43 : decode cX5_fill 43 = .ok (.iconst 0, 1) := by decide +kernel
theorem dX5_fill_44 : decode cX5_fill 44 = .ok (.goto 4, 3) := by decide +kernel
theorem dX5_fill_47 : decode cX5_fill 47 = .ok (.iconst 1, 1) := by decide +kernel
theorem dX5_fill_48 : decode cX5_fill 48 = .ok (.iadd, 1) := by decide +kernel
theorem dX5_fill_49 : decode cX5_fill 49 = .ok (.istore_n 2, 1) := by decide +kernel
theorem dX5_fill_50 : decode cX5_fill 50 = .ok (.aload_n 0, 1) := by decide +kernel
theorem dX5_fill_51 : decode cX5_fill 51 = .ok (.getfield 9, 3) := by decide +kernel
theorem dX5_fill_54 : decode cX5_fill 54 = .ok (.iload_n 3, 1) := by decide +kernel
theorem dX5_fill_55 : decode cX5_fill 55 = .ok (.iload_n 1, 1) := by decide +kernel
theorem dX5_fill_56 : decode cX5_fill 56 = .ok (.iastore, 1) := by decide +kernel
theorem dX5_fill_57 : decode cX5_fill 57 = .ok (.iinc 3 1, 3) := by decide +kernel
theorem dX5_fill_60 : decode cX5_fill 60 = .ok (.goto (-35), 3) := by decide +kernel
theorem dX5_fill_63 : decode cX5_fill 63 = .ok (.iload_n 2, 1) := by decide +kernel
theorem dX5_fill_64 : decode cX5_fill 64 = .ok (.ireturn, 1) := by decide +kernel
set_option maxRecDepth 20000 in
theorem ggX5_box_X5_isWithin : GoodIn wsX5_box wsX5_isWithin := goodIn_r _ [14] (by decide +kernel) (by decide +kernel)
set_option maxRecDepth 20000 in
theorem gX5_box_X5_isWithin : GoodIn wsX5_box (va_wsS RX5 71 yX5_isWithin wsX5_isWithin) := goodIn_app (goodIn_of _ (by decide +kernel)) ggX5_box_X5_isWithin
theorem dX5_box_0 : decode cX5_box 0 = .ok (.iload_n 1, 1) := by decide +kernel
theorem dX5_box_1 : decode cX5_box 1 = .ok (.bipush (-32), 2) := by decide +kernel
theorem dX5_box_3 : decode cX5_box 3 = .ok (.bipush 32, 2) := by decide +kernel
theorem dX5_box_5 : decode cX5_box 5 = .ok (.invokestatic 71, 3) := by decide +kernel
theorem dX5_box_8 : decode cX5_box 8 = .ok (.ifCond .eq 14, 3) := by decide +kernel
theorem dX5_box_11 : decode cX5_box 11 = .ok (.iload_n 2, 1) := by decide +kernel
theorem dX5_box_12 : decode cX5_box 12 = .ok (.bipush (-32), 2) := by decide +kernel
theorem dX5_box_14 : decode cX5_box 14 = .ok (.bipush 32, 2) := by decide +kernel
theorem dX5_box_16 : decode cX5_box 16 = .ok (.invokestatic 71, 3) := by decide +kernel
theorem dX5_box_19 : decode cX5_box 19 = .ok (.ifCond .ne 13, 3) := by decide +kernel
theorem dX5_box_22 : decode cX5_box 22 = .ok (.new 75, 3) := by decide +kernel
theorem dX5_box_25 : decode cX5_box 25 = .ok (.dup, 1) := by decide +kernel
theorem dX5_box_26 : decode cX5_box 26 = .ok (.ldc 82, 2) := by decide +kernel
theorem dX5_box_28 : decode cX5_box 28 = .ok (.invokespecial 79, 3) := by decide +kernel
theorem dX5_box_31 : decode cX5_box 31 = .ok (.athrow, 1) := by decide +kernel
theorem dX5_box_32 : decode cX5_box 32 = .ok (.iload_n 3, 1) := by decide +kernel
theorem dX5_box_33 : decode cX5_box 33 = .ok (.iconst 1, 1) := by decide +kernel
theorem dX5_box_34 : decode cX5_box 34 = .ok (.bipush 32, 2) := by decide +kernel
theorem dX5_box_36 : decode cX5_box 36 = .ok (.invokestatic 71, 3) := by decide +kernel
theorem dX5_box_39 : decode cX5_box 39 = .ok (.ifCond .eq 14, 3) := by decide +kernel
theorem dX5_box_42 : decode cX5_box 42 = .ok (.iload 4, 2) := by decide +kernel
theorem dX5_box_44 : decode cX5_box 44 = .ok (.iconst 1, 1) := by decide +kernel
theorem dX5_box_45 : decode cX5_box 45 = .ok (.bipush 32, 2) := by decide +kernel
theorem dX5_box_47 : decode cX5_box 47 = .ok (.invokestatic 71, 3) := by decide +kernel
theorem dX5_box_50 : decode cX5_box 50 = .ok (.ifCond .ne 13, 3) := by decide +kernel
theorem dX5_box_53 : decode cX5_box 53 = .ok (.new 75, 3) := by decide +kernel
theorem dX5_box_56 : decode cX5_box 56 = .ok (.dup, 1) := by decide +kernel
theorem dX5_box_57 : decode cX5_box 57 = .ok (.ldc 84, 2) := by decide +kernel
theorem dX5_box_59 : decode cX5_box 59 = .ok (.invokespecial 79, 3) := by decide +kernel
theorem dX5_box_62 : decode cX5_box 62 = .ok (.athrow, 1) := by decide +kernel
theorem dX5_box_63 : decode cX5_box 63 = .ok (.iload 5, 2) := by decide +kernel
theorem dX5_box_65 : decode cX5_box 65 = .ok (.iconst 0, 1) := by decide +kernel
theorem dX5_box_66 : decode cX5_box 66 = .ok (.sipush 255, 3) := by decide +kernel
theorem dX5_box_69 : decode cX5_box 69 = .ok (.invokestatic 71, 3) := by decide +kernel
theorem dX5_box_72 : decode cX5_box 72 = .ok (.ifCond .ne 13, 3) := by decide +kernel
theorem dX5_box_75 : decode cX5_box 75 = .ok (.new 75, 3) := by decide +kernel
theorem dX5_box_78 : decode cX5_box 78 = .ok (.dup, 1) := by decide +kernel
theorem dX5_box_79 : decode cX5_box 79 = .ok (.ldc 77, 2) := by decide +kernel
theorem dX5_box_81 : decode cX5_box 81 = .ok (.invokespecial 79, 3) := by decide +kernel
theorem dX5_box_84 : decode cX5_box 84 = .ok (.athrow, 1) := by decide +kernel
theorem dX5_box_85 : decode cX5_box 85 = .ok (.iconst 0, 1) := by decide +kernel
theorem dX5_box_86 : decode cX5_box 86 = .ok (.istore 6, 2) := by decide +kernel
theorem dX5_box_88 : decode cX5_box 88 = .ok (.iload_n 2, 1) := by decide +kernel
theorem dX5_box_89 : decode cX5_box 89 = .ok (.iconst 0, 1) := by decide +kernel
theorem dX5_box_90 : decode cX5_box 90 = .ok (.invokestatic 86, 3) := by decide +kernel
theorem dX5_box_93 : decode cX5_box 93 = .ok (.istore 7, 2) := by decide +kernel
theorem dX5_box_95 : decode cX5_box 95 = .ok (.iload 7, 2) := by decide +kernel
theorem dX5_box_97 : decode cX5_box 97 = .ok (.iload_n 2, 1) := by decide +kernel
theorem dX5_box_98 : decode cX5_box 98 = .ok (.iload 4, 2) := by decide +kernel
theorem dX5_box_100 : decode cX5_box 100 = .ok (.iadd, 1) := by decide +kernel
theorem dX5_box_101 : decode cX5_box 101 = .ok (.bipush 24, 2) := by decide +kernel
theorem dX5_box_103 : decode cX5_box 103 = .ok (.invokestatic 92, 3) := by decide +kernel
theorem dX5_box_106 : decode cX5_box 106 = .ok (.if_icmp .ge 53, 3) := by decide +kernel
theorem dX5_box_109 : decode cX5_box 109 = .ok (.iload_n 1, 1) := by decide +kernel
theorem dX5_box_110 : decode cX5_box 110 = .ok (.iconst 0, 1) := by decide +kernel
theorem dX5_box_111 : decode cX5_box 111 = .ok (.invokestatic 86, 3) := by decide +kernel
theorem dX5_box_114 : decode cX5_box 114 = .ok (.istore 8, 2) := by decide +kernel
theorem dX5_box_116 : decode cX5_box 116 = .ok (.iload 8, 2) := by decide +kernel
theorem dX5_box_118 : decode cX5_box 118 = .ok (.iload_n 1, 1) := by decide +kernel
theorem dX5_box_119 : decode cX5_box 119 = .ok (.iload_n 3, 1) := by decide +kernel
theorem dX5_box_120 : decode cX5_box 120 = .ok (.iadd, 1) := by decide +kernel
theorem dX5_box_121 : decode cX5_box 121 = .ok (.bipush 32, 2) := by decide +kernel
theorem dX5_box_123 : decode cX5_box 123 = .ok (.invokestatic 92, 3) := by decide +kernel
theorem dX5_box_126 : decode cX5_box 126 = .ok (.if_icmp .ge 27, 3) := by decide +kernel
theorem dX5_box_129 : decode cX5_box 129 = .ok (.aload_n 0, 1) := by decide +kernel
theorem dX5_box_130 : decode cX5_box 130 = .ok (.getfield 9, 3) := by decide +kernel
theorem dX5_box_133 : decode cX5_box 133 = .ok (.iload 7, 2) := by decide +kernel
theorem dX5_box_135 : decode cX5_box 135 = .ok (.bipush 32, 2) := by decide +kernel
theorem dX5_box_137 : decode cX5_box 137 = .ok (.imul, 1) := by decide +kernel
theorem dX5_box_138 : decode cX5_box 138 = .ok (.iload 8, 2) := by decide +kernel
theorem dX5_box_140 : decode cX5_box 140 = .ok (.iadd, 1) := by decide +kernel
theorem dX5_box_141 : decode cX5_box 141 = .ok (.iload 5, 2) := by decide +kernel
theorem dX5_box_143 : decode cX5_box 143 = .ok (.iastore, 1) := by decide +kernel
theorem dX5_box_144 : decode cX5_box 144 = .ok (.iinc 6 1, 3) := by decide +kernel
theorem dX5_box_147 : decode cX5_box 147 = .ok (.iinc 8 1, 3) := by decide +kernel
theorem dX5_box_150 : decode cX5_box 150 = .ok (.goto (-34), 3) := by decide +kernel
theorem dX5_box_153 : decode cX5_box 153 = .ok (.iinc 7 1, 3) := by decide +kernel
theorem dX5_box_156 : decode cX5_box 156 = .ok (.goto (-61), 3) := by decide +kernel
theorem dX5_box_159 : decode cX5_box 159 = .ok (.iload 6, 2) := by decide +kernel
theorem dX5_box_161 : decode cX5_box 161 = .ok (.ireturn, 1) := by decide +kernel
set_option maxRecDepth 20000 in
theorem ggX5_ramp_X5_isWithin : GoodIn wsX5_ramp wsX5_isWithin := goodIn_r _ [7] (by decide +kernel) (by decide +kernel)
set_option maxRecDepth 20000 in
theorem gX5_ramp_X5_isWithin : GoodIn wsX5_ramp (va_wsS RX5 71 yX5_isWithin wsX5_isWithin) := goodIn_app (goodIn_of _ (by decide +kernel)) ggX5_ramp_X5_isWithin
set_option maxRecDepth 20000 in
theorem ggX5_ramp_X5_clip : GoodIn wsX5_ramp wsX5_clip := goodIn_r _ [10] (by decide +kernel) (by decide +kernel)
set_option maxRecDepth 20000 in
theorem gX5_ramp_X5_clip : GoodIn wsX5_ramp (va_wsS RX5 99 yX5_clip wsX5_clip) := goodIn_app (goodIn_of _ (by decide +kernel)) ggX5_ramp_X5_clip
theorem dX5_ramp_0 : decode cX5_ramp 0 = .ok (.iload_n 1, 1) := by decide +kernel
theorem dX5_ramp_1 : decode cX5_ramp 1 = .ok (.sipush (-255), 3) := by decide +kernel
theorem dX5_ramp_4 : decode cX5_ramp 4 = .ok (.sipush 255, 3) := by decide +kernel
theorem dX5_ramp_7 : decode cX5_ramp 7 = .ok (.invokestatic 71, 3) := by decide +kernel
theorem dX5_ramp_10 : decode cX5_ramp 10 = .ok (.ifCond .ne 13, 3) := by decide +kernel
theorem dX5_ramp_13 : decode cX5_ramp 13 = .ok (.new 75, 3) := by decide +kernel
theorem dX5_ramp_16 : decode cX5_ramp 16 = .ok (.dup, 1) := by decide +kernel
theorem dX5_ramp_17 : decode cX5_ramp 17 = .ok (.ldc 95, 2) := by decide +kernel
theorem dX5_ramp_19 : decode cX5_ramp 19 = .ok (.invokespecial 79, 3) := by decide +kernel
theorem dX5_ramp_22 : decode cX5_ramp 22 = .ok (.athrow, 1) := by decide +kernel
theorem dX5_ramp_23 : decode cX5_ramp 23 = .ok (.iload_n 2, 1) := by decide +kernel
theorem dX5_ramp_24 : decode cX5_ramp 24 = .ok (.bipush (-80), 2) := by decide +kernel
theorem dX5_ramp_26 : decode cX5_ramp 26 = .ok (.bipush 80, 2) := by decide +kernel
theorem dX5_ramp_28 : decode cX5_ramp 28 = .ok (.invokestatic 71, 3) := by decide +kernel
theorem dX5_ramp_31 : decode cX5_ramp 31 = .ok (.ifCond .eq 14, 3) := by decide +kernel
theorem dX5_ramp_34 : decode cX5_ramp 34 = .ok (.iload_n 3, 1) := by decide +kernel
theorem dX5_ramp_35 : decode cX5_ramp 35 = .ok (.bipush (-80), 2) := by decide +kernel
theorem dX5_ramp_37 : decode cX5_ramp 37 = .ok (.bipush 80, 2) := by decide +kernel
theorem dX5_ramp_39 : decode cX5_ramp 39 = .ok (.invokestatic 71, 3) := by decide +kernel
theorem dX5_ramp_42 : decode cX5_ramp 42 = .ok (.ifCond .ne 13, 3) := by decide +kernel
theorem dX5_ramp_45 : decode cX5_ramp 45 = .ok (.new 75, 3) := by decide +kernel
theorem dX5_ramp_48 : decode cX5_ramp 48 = .ok (.dup, 1) := by decide +kernel
theorem dX5_ramp_49 : decode cX5_ramp 49 = .ok (.ldc 97, 2) := by decide +kernel
theorem dX5_ramp_51 : decode cX5_ramp 51 = .ok (.invokespecial 79, 3) := by decide +kernel
theorem dX5_ramp_54 : decode cX5_ramp 54 = .ok (.athrow, 1) := by decide +kernel
theorem dX5_ramp_55 : decode cX5_ramp 55 = .ok (.iconst 0, 1) := by decide +kernel
theorem dX5_ramp_56 : decode cX5_ramp 56 = .ok (.istore 4, 2) := by decide +kernel
theorem dX5_ramp_58 : decode cX5_ramp 58 = .ok (.iconst 0, 1) := by decide +kernel
theorem dX5_ramp_59 : decode cX5_ramp 59 = .ok (.istore 5, 2) := by decide +kernel
theorem dX5_ramp_61 : decode cX5_ramp 61 = .ok (.iload 5, 2) := by decide +kernel
theorem dX5_ramp_63 : decode cX5_ramp 63 = .ok (.sipush 768, 3) := by decide +kernel
theorem dX5_ramp_66 : decode cX5_ramp 66 = .ok (.if_icmp .ge 62, 3) := by decide +kernel
theorem dX5_ramp_69 : decode cX5_ramp 69 = .ok (.iload_n 2, 1) := by decide +kernel
theorem dX5_ramp_70 : decode cX5_ramp 70 = .ok (.iload 5, 2) := by decide +kernel
theorem dX5_ramp_72 : decode cX5_ramp 72 = .ok (.bipush 32, 2) := by decide +kernel
theorem dX5_ramp_74 : decode cX5_ramp 74 = .ok (.irem, 1) := by decide +kernel
theorem dX5_ramp_75 : decode cX5_ramp 75 = .ok (.imul, 1) := by decide +kernel
theorem dX5_ramp_76 : decode cX5_ramp 76 = .ok (.iload_n 3, 1) := by decide +kernel
theorem dX5_ramp_77 : decode cX5_ramp 77 = .ok (.iload 5, 2) := by decide +kernel
theorem dX5_ramp_79 : decode cX5_ramp 79 = .ok (.bipush 32, 2) := by decide +kernel
theorem dX5_ramp_81 : decode cX5_ramp 81 = .ok (.idiv, 1) := by decide +kernel
theorem dX5_ramp_82 : decode cX5_ramp 82 = .ok (.imul, 1) := by decide +kernel
theorem dX5_ramp_83 : decode cX5_ramp 83 = .ok (.iadd, 1) := by decide +kernel
theorem dX5_ramp_84 : decode cX5_ramp 84 = .ok (.istore 6, 2) := by decide +kernel
theorem dX5_ramp_86 : decode cX5_ramp 86 = .ok (.aload_n 0, 1) := by decide +kernel
theorem dX5_ramp_87 : decode cX5_ramp 87 = .ok (.getfield 9, 3) := by decide +kernel
theorem dX5_ramp_90 : decode cX5_ramp 90 = .ok (.iload 5, 2) := by decide +kernel
theorem dX5_ramp_92 : decode cX5_ramp 92 = .ok (.aload_n 0, 1) := by decide +kernel
theorem dX5_ramp_93 : decode cX5_ramp 93 = .ok (.getfield 9, 3) := by decide +kernel
theorem dX5_ramp_96 : decode cX5_ramp 96 = .ok (.iload 5, 2) := by decide +kernel
theorem dX5_ramp_98 : decode cX5_ramp 98 = .ok (.iaload, 1) := by decide +kernel
theorem dX5_ramp_99 : decode cX5_ramp 99 = .ok (.iload_n 1, 1) := by decide +kernel
theorem dX5_ramp_100 : decode cX5_ramp 100 = .ok (.iadd, 1) := by decide +kernel
theorem dX5_ramp_101 : decode cX5_ramp 101 = .ok (.iload 6, 2) := by decide +kernel
theorem dX5_ramp_103 : decode cX5_ramp 103 = .ok (.iconst 3, 1) := by decide +kernel
theorem dX5_ramp_104 : decode cX5_ramp 104 = .ok (.ishr, 1) := by decide +kernel
theorem dX5_ramp_105 : decode cX5_ramp 105 = .ok (.iadd, 1) := by decide +kernel
theorem dX5_ramp_106 : decode cX5_ramp 106 = .ok (.invokestatic 99, 3) := by decide +kernel
theorem dX5_ramp_109 : decode cX5_ramp 109 = .ok (.iastore, 1) := by decide +kernel
theorem dX5_ramp_110 : decode cX5_ramp 110 = .ok (.iload 4, 2) := by decide +kernel
theorem dX5_ramp_112 : decode cX5_ramp 112 = .ok (.aload_n 0, 1) := by decide +kernel
theorem dX5_ramp_113 : decode cX5_ramp 113 = .ok (.getfield 9, 3) := by decide +kernel
theorem dX5_ramp_116 : decode cX5_ramp 116 = .ok (.iload 5, 2) := by decide +kernel
theorem dX5_ramp_118 : decode cX5_ramp 118 = .ok (.iaload, 1) := by decide +kernel
theorem dX5_ramp_119 : decode cX5_ramp 119 = .ok (.iadd, 1) := by decide +kernel
theorem dX5_ramp_120 : decode cX5_ramp 120 = .ok (.istore 4, 2) := by decide +kernel
theorem dX5_ramp_122 : decode cX5_ramp 122 = .ok (.iinc 5 1, 3) := by decide +kernel
theorem dX5_ramp_125 : decode cX5_ramp 125 = .ok (.goto (-64), 3) := by decide +kernel
theorem dX5_ramp_128 : decode cX5_ramp 128 = .ok (.iload 4, 2) := by decide +kernel
theorem dX5_ramp_130 : decode cX5_ramp 130 = .ok (.ireturn, 1) := by decide +kernel
set_option maxRecDepth 20000 in
theorem ggX5_noise_X5_isWithin : GoodIn wsX5_noise wsX5_isWithin := goodIn_r _ [9] (by decide +kernel) (by decide +kernel)
set_option maxRecDepth 20000 in
theorem gX5_noise_X5_isWithin : GoodIn wsX5_noise (va_wsS RX5 71 yX5_isWithin wsX5_isWithin) := goodIn_app (goodIn_of _ (by decide +kernel)) ggX5_noise_X5_isWithin
set_option maxRecDepth 20000 in
theorem ggX5_noise_X5_clip : GoodIn wsX5_noise wsX5_clip := goodIn_r _ [12] (by decide +kernel) (by decide +kernel)
set_option maxRecDepth 20000 in
theorem gX5_noise_X5_clip : GoodIn wsX5_noise (va_wsS RX5 99 yX5_clip wsX5_clip) := goodIn_app (goodIn_of _ (by decide +kernel)) ggX5_noise_X5_clip
theorem dX5_noise_0 : decode cX5_noise 0 = .ok (.iload_n 1, 1) := by decide +kernel
theorem dX5_noise_1 : decode cX5_noise 1 = .ok (.iconst 0, 1) := by decide +kernel
theorem dX5_noise_2 : decode cX5_noise 2 = .ok (.ldc 103, 2) := by decide +kernel
theorem dX5_noise_4 : decode cX5_noise 4 = .ok (.invokestatic 71, 3) := by decide +kernel
theorem dX5_noise_7 : decode cX5_noise 7 = .ok (.ifCond .ne 13, 3) := by decide +kernel
theorem dX5_noise_10 : decode cX5_noise 10 = .ok (.new 75, 3) := by decide +kernel
theorem dX5_noise_13 : decode cX5_noise 13 = .ok (.dup, 1) := by decide +kernel
theorem dX5_noise_14 : decode cX5_noise 14 = .ok (.ldc 104, 2) := by decide +kernel
theorem dX5_noise_16 : decode cX5_noise 16 = .ok (.invokespecial 79, 3) := by decide +kernel
theorem dX5_noise_19 : decode cX5_noise 19 = .ok (.athrow, 1) := by decide +kernel
theorem dX5_noise_20 : decode cX5_noise 20 = .ok (.iload_n 2, 1) := by decide +kernel
theorem dX5_noise_21 : decode cX5_noise 21 = .ok (.iconst 0, 1) := by decide +kernel
theorem dX5_noise_22 : decode cX5_noise 22 = .ok (.bipush 60, 2) := by decide +kernel
theorem dX5_noise_24 : decode cX5_noise 24 = .ok (.invokestatic 71, 3) := by decide +kernel
theorem dX5_noise_27 : decode cX5_noise 27 = .ok (.ifCond .ne 13, 3) := by decide +kernel
theorem dX5_noise_30 : decode cX5_noise 30 = .ok (.new 75, 3) := by decide +kernel
theorem dX5_noise_33 : decode cX5_noise 33 = .ok (.dup, 1) := by decide +kernel
theorem dX5_noise_34 : decode cX5_noise 34 = .ok (.ldc 106, 2) := by decide +kernel
theorem dX5_noise_36 : decode cX5_noise 36 = .ok (.invokespecial 79, 3) := by decide +kernel
theorem dX5_noise_39 : decode cX5_noise 39 = .ok (.athrow, 1) := by decide +kernel
theorem dX5_noise_40 : decode cX5_noise 40 = .ok (.iload_n 1, 1) := by decide +kernel
theorem dX5_noise_41 : decode cX5_noise 41 = .ok (.istore_n 3, 1) := by decide +kernel
theorem dX5_noise_42 : decode cX5_noise 42 = .ok (.iconst 0, 1) := by decide +kernel
theorem dX5_noise_43 : decode cX5_noise 43 = .ok (.istore 4, 2) := by decide +kernel
theorem dX5_noise_45 : decode cX5_noise 45 = .ok (.iload 4, 2) := by decide +kernel
theorem dX5_noise_47 : decode cX5_noise 47 = .ok (.sipush 768, 3) := by decide +kernel
theorem dX5_noise_50 : decode cX5_noise 50 = .ok (.if_icmp .ge 51, 3) := by decide +kernel
theorem dX5_noise_53 : decode cX5_noise 53 = .ok (.iload_n 3, 1) := by decide +kernel
theorem dX5_noise_54 : decode cX5_noise 54 = .ok (.sipush 1103, 3) := by decide +kernel
theorem dX5_noise_57 : decode cX5_noise 57 = .ok (.imul, 1) := by decide +kernel
theorem dX5_noise_58 : decode cX5_noise 58 = .ok (.sipush 12345, 3) := by decide +kernel
theorem dX5_noise_61 : decode cX5_noise 61 = .ok (.iadd, 1) := by decide +kernel
theorem dX5_noise_62 : decode cX5_noise 62 = .ok (.ldc 108, 2) := by decide +kernel
theorem dX5_noise_64 : decode cX5_noise 64 = .ok (.irem, 1) := by decide +kernel
theorem dX5_noise_65 : decode cX5_noise 65 = .ok (.istore_n 3, 1) := by decide +kernel
theorem dX5_noise_66 : decode cX5_noise 66 = .ok (.aload_n 0, 1) := by decide +kernel
theorem dX5_noise_67 : decode cX5_noise 67 = .ok (.getfield 9, 3) := by decide +kernel
theorem dX5_noise_70 : decode cX5_noise 70 = .ok (.iload 4, 2) := by decide +kernel
theorem dX5_noise_72 : decode cX5_noise 72 = .ok (.aload_n 0, 1) := by decide +kernel
theorem dX5_noise_73 : decode cX5_noise 73 = .ok (.getfield 9, 3) := by decide +kernel
theorem dX5_noise_76 : decode cX5_noise 76 = .ok (.iload 4, 2) := by decide +kernel
theorem dX5_noise_78 : decode cX5_noise 78 = .ok (.iaload, 1) := by decide +kernel
theorem dX5_noise_79 : decode cX5_noise 79 = .ok (.iload_n 3, 1) := by decide +kernel
theorem dX5_noise_80 : decode cX5_noise 80 = .ok (.iconst 4, 1) := by decide +kernel
theorem dX5_noise_81 : decode cX5_noise 81 = .ok (.ishr, 1) := by decide +kernel
theorem dX5_noise_82 : decode cX5_noise 82 = .ok (.iconst 2, 1) := by decide +kernel
theorem dX5_noise_83 : decode cX5_noise 83 = .ok (.iload_n 2, 1) := by decide +kernel
theorem dX5_noise_84 : decode cX5_noise 84 = .ok (.imul, 1) := by decide +kernel
theorem dX5_noise_85 : decode cX5_noise 85 = .ok (.iconst 1, 1) := by decide +kernel
theorem dX5_noise_86 : decode cX5_noise 86 = .ok (.iadd, 1) := by decide +kernel
theorem dX5_noise_87 : decode cX5_noise 87 = .ok (.irem, 1) := by decide +kernel
theorem dX5_noise_88 : decode cX5_noise 88 = .ok (.iadd, 1) := by decide +kernel
theorem dX5_noise_89 : decode cX5_noise 89 = .ok (.iload_n 2, 1) := by decide +kernel
theorem dX5_noise_90 : decode cX5_noise 90 = .ok (.isub, 1) := by decide +kernel
theorem dX5_noise_91 : decode cX5_noise 91 = .ok (.invokestatic 99, 3) := by decide +kernel
theorem dX5_noise_94 : decode cX5_noise 94 = .ok (.iastore, 1) := by decide +kernel
theorem dX5_noise_95 : decode cX5_noise 95 = .ok (.iinc 4 1, 3) := by decide +kernel
theorem dX5_noise_98 : decode cX5_noise 98 = .ok (.goto (-53), 3) := by decide +kernel
theorem dX5_noise_101 : decode cX5_noise 101 = .ok (.iload_n 3, 1) := by decide +kernel
theorem dX5_noise_102 : decode cX5_noise 102 = .ok (.ireturn, 1) := by decide +kernel
set_option maxRecDepth 20000 in
theorem ggX5_shift_X5_isWithin : GoodIn wsX5_shift wsX5_isWithin := goodIn_r _ [12] (by decide +kernel) (by decide +kernel)
set_option maxRecDepth 20000 in
theorem gX5_shift_X5_isWithin : GoodIn wsX5_shift (va_wsS RX5 71 yX5_isWithin wsX5_isWithin) := goodIn_app (goodIn_of _ (by decide +kernel)) ggX5_shift_X5_isWithin
set_option maxRecDepth 20000 in
theorem ggX5_shift_X5_onRow : GoodIn wsX5_shift wsX5_onRow := goodIn_r _ [15, 16, 17, 18, 19, 20, 21, 22] (by decide +kernel) (by decide +kernel)
set_option maxRecDepth 20000 in
theorem gX5_shift_X5_onRow : GoodIn wsX5_shift (va_wsS RX5 117 yX5_onRow wsX5_onRow) := goodIn_app (goodIn_of _ (by decide +kernel)) ggX5_shift_X5_onRow
theorem dX5_shift_0 : decode cX5_shift 0 = .ok (.iload_n 1, 1) := by decide +kernel
theorem dX5_shift_1 : decode cX5_shift 1 = .ok (.bipush (-16), 2) := by decide +kernel
theorem dX5_shift_3 : decode cX5_shift 3 = .ok (.bipush 16, 2) := by decide +kernel
theorem dX5_shift_5 : decode cX5_shift 5 = .ok (.invokestatic 71, 3) := by decide +kernel
theorem dX5_shift_8 : decode cX5_shift 8 = .ok (.ifCond .eq 14, 3) := by decide +kernel
theorem dX5_shift_11 : decode cX5_shift 11 = .ok (.iload_n 2, 1) := by decide +kernel
theorem dX5_shift_12 : decode cX5_shift 12 = .ok (.bipush (-16), 2) := by decide +kernel
theorem dX5_shift_14 : decode cX5_shift 14 = .ok (.bipush 16, 2) := by decide +kernel
theorem dX5_shift_16 : decode cX5_shift 16 = .ok (.invokestatic 71, 3) := by decide +kernel
theorem dX5_shift_19 : decode cX5_shift 19 = .ok (.ifCond .ne 13, 3) := by decide +kernel
theorem dX5_shift_22 : decode cX5_shift 22 = .ok (.new 75, 3) := by decide +kernel
theorem dX5_shift_25 : decode cX5_shift 25 = .ok (.dup, 1) := by decide +kernel
theorem dX5_shift_26 : decode cX5_shift 26 = .ok (.ldc 109, 2) := by decide +kernel
theorem dX5_shift_28 : decode cX5_shift 28 = .ok (.invokespecial 79, 3) := by decide +kernel
theorem dX5_shift_31 : decode cX5_shift 31 = .ok (.athrow, 1) := by decide +kernel
theorem dX5_shift_32 : decode cX5_shift 32 = .ok (.aload_n 0, 1) := by decide +kernel
theorem dX5_shift_33 : decode cX5_shift 33 = .ok (.getfield 9, 3) := by decide +kernel
theorem dX5_shift_36 : decode cX5_shift 36 = .ok (.iconst 0, 1) := by decide +kernel
theorem dX5_shift_37 : decode cX5_shift 37 = .ok (.aload_n 0, 1) := by decide +kernel
theorem dX5_shift_38 : decode cX5_shift 38 = .ok (.getfield 40, 3) := by decide +kernel
theorem dX5_shift_41 : decode cX5_shift 41 = .ok (.iconst 0, 1) := by decide +kernel
theorem dX5_shift_42 : decode cX5_shift 42 = .ok (.sipush 768, 3) := by decide +kernel
theorem dX5_shift_45 : decode cX5_shift 45 = .ok (.invokestatic 111, 3) := by decide +kernel
theorem dX5_shift_48 : decode cX5_shift 48 = .ok (.iconst 0, 1) := by decide +kernel
theorem dX5_shift_49 : decode cX5_shift 49 = .ok (.istore_n 3, 1) := by decide +kernel
theorem dX5_shift_50 : decode cX5_shift 50 = .ok (.iconst 0, 1) := by decide +kernel
theorem dX5_shift_51 : decode cX5_shift 51 = .ok (.istore 4, 2) := by decide +kernel
theorem dX5_shift_53 : decode cX5_shift 53 = .ok (.iload 4, 2) := by decide +kernel
theorem dX5_shift_55 : decode cX5_shift 55 = .ok (.sipush 768, 3) := by decide +kernel
theorem dX5_shift_58 : decode cX5_shift 58 = .ok (.if_icmp .ge 82, 3) := by decide +kernel
theorem dX5_shift_61 : decode cX5_shift 61 = .ok (.iload 4, 2) := by decide +kernel
theorem dX5_shift_63 : decode cX5_shift 63 = .ok (.bipush 32, 2) := by decide +kernel
theorem dX5_shift_65 : decode cX5_shift 65 = .ok (.irem, 1) := by decide +kernel
theorem dX5_shift_66 : decode cX5_shift 66 = .ok (.iload_n 1, 1) := by decide +kernel
theorem dX5_shift_67 : decode cX5_shift 67 = .ok (.isub, 1) := by decide +kernel
theorem dX5_shift_68 : decode cX5_shift 68 = .ok (.bipush 32, 2) := by decide +kernel
theorem dX5_shift_70 : decode cX5_shift 70 = .ok (.invokestatic 117, 3) := by decide +kernel
theorem dX5_shift_73 : decode cX5_shift 73 = .ok (.istore 5, 2) := by decide +kernel
theorem dX5_shift_75 : decode cX5_shift 75 = .ok (.iload 4, 2) := by decide +kernel
theorem dX5_shift_77 : decode cX5_shift 77 = .ok (.bipush 32, 2) := by decide +kernel
theorem dX5_shift_79 : decode cX5_shift 79 = .ok (.idiv, 1) := by decide +kernel
theorem dX5_shift_80 : decode cX5_shift 80 = .ok (.iload_n 2, 1) := by decide +kernel
theorem dX5_shift_81 : decode cX5_shift 81 = .ok (.isub, 1) := by decide +kernel
theorem dX5_shift_82 : decode cX5_shift 82 = .ok (.bipush 24, 2) := by decide +kernel
theorem dX5_shift_84 : decode cX5_shift 84 = .ok (.invokestatic 117, 3) := by decide +kernel
theorem dX5_shift_87 : decode cX5_shift 87 = .ok (.istore 6, 2) := by decide +kernel
theorem dX5_shift_89 : decode cX5_shift 89 = .ok (.aload_n 0, 1) := by decide +kernel
theorem dX5_shift_90 : decode cX5_shift 90 = .ok (.getfield 9, 3) := by decide +kernel
theorem dX5_shift_93 : decode cX5_shift 93 = .ok (.iload 4, 2) := by decide +kernel
theorem dX5_shift_95 : decode cX5_shift 95 = .ok (.aload_n 0, 1) := by decide +kernel
theorem dX5_shift_96 : decode cX5_shift 96 = .ok (.getfield 40, 3) := by decide +kernel
theorem dX5_shift_99 : decode cX5_shift 99 = .ok (.iload 6, 2) := by decide +kernel
theorem dX5_shift_101 : decode cX5_shift 101 = .ok (.bipush 32, 2) := by decide +kernel
theorem dX5_shift_103 : decode cX5_shift 103 = .ok (.imul, 1) := by decide +kernel
theorem dX5_shift_104 : decode cX5_shift 104 = .ok (.iload 5, 2) := by decide +kernel
theorem dX5_shift_106 : decode cX5_shift 106 = .ok (.iadd, 1) := by decide +kernel
theorem dX5_shift_107 : decode cX5_shift 107 = .ok (.iaload, 1) := by decide +kernel
theorem dX5_shift_108 : decode cX5_shift 108 = .ok (.iastore, 1) := by decide +kernel
theorem dX5_shift_109 : decode cX5_shift 109 = .ok (.iload_n 3, 1) := by decide +kernel
theorem dX5_shift_110 : decode cX5_shift 110 = .ok (.aload_n 0, 1) := by decide +kernel
theorem dX5_shift_111 : decode cX5_shift 111 = .ok (.getfield 9, 3) := by decide +kernel
theorem dX5_shift_114 : decode cX5_shift 114 = .ok (.iload 4, 2) := by decide +kernel
theorem dX5_shift_116 : decode cX5_shift 116 = .ok (.iaload, 1) := by decide +kernel
theorem dX5_shift_117 : decode cX5_shift 117 = .ok (.aload_n 0, 1) := by decide +kernel
theorem dX5_shift_118 : decode cX5_shift 118 = .ok (.getfield 40, 3) := by decide +kernel
theorem dX5_shift_121 : decode cX5_shift 121 = .ok (.iload 4, 2) := by decide +kernel
theorem dX5_shift_123 : decode cX5_shift 123 = .ok (.iaload, 1) := by decide +kernel
theorem dX5_shift_124 : decode cX5_shift 124 = .ok (.if_icmp .ne 7, 3) := by decide +kernel
theorem dX5_shift_127 : decode cX5_shift 127 = .ok (.iconst 0, 1) := by decide +kernel
theorem dX5_shift_128 : decode cX5_shift 128 = .ok (.goto 4, 3) := by decide +kernel
theorem dX5_shift_131 : decode cX5_shift 131 = .ok (.iconst 1, 1) := by decide +kernel
theorem dX5_shift_132 : decode cX5_shift 132 = .ok (.iadd, 1) := by decide +kernel
theorem dX5_shift_133 : decode cX5_shift 133 = .ok (.istore_n 3, 1) := by decide +kernel
theorem dX5_shift_134 : decode cX5_shift 134 = .ok (.iinc 4 1, 3) := by decide +kernel
theorem dX5_shift_137 : decode cX5_shift 137 = .ok (.goto (-84), 3) := by decide +kernel
theorem dX5_shift_140 : decode cX5_shift 140 = .ok (.iload_n 3, 1) := by decide +kernel
theorem dX5_shift_141 : decode cX5_shift 141 = .ok (.ireturn, 1) := by decide +kernel
set_option maxRecDepth 20000 in
theorem ggX5_setStep_X5_isWithin : GoodIn wsX5_setStep wsX5_isWithin := goodIn_r _ [7] (by decide +kernel) (by decide +kernel)
set_option maxRecDepth 20000 in
theorem gX5_setStep_X5_isWithin : GoodIn wsX5_setStep (va_wsS RX5 71 yX5_isWithin wsX5_isWithin) := goodIn_app (goodIn_of _ (by decide +kernel)) ggX5_setStep_X5_isWithin
theorem dX5_setStep_0 : decode cX5_setStep 0 = .ok (.iload_n 1, 1) := by decide +kernel
theorem dX5_setStep_1 : decode cX5_setStep 1 = .ok (.iconst 1, 1) := by decide +kernel
theorem dX5_setStep_2 : decode cX5_setStep 2 = .ok (.bipush 60, 2) := by decide +kernel
theorem dX5_setStep_4 : decode cX5_setStep 4 = .ok (.invokestatic 71, 3) := by decide +kernel
theorem dX5_setStep_7 : decode cX5_setStep 7 = .ok (.ifCond .ne 13, 3) := by decide +kernel
theorem dX5_setStep_10 : decode cX5_setStep 10 = .ok (.new 75, 3) := by decide +kernel
theorem dX5_setStep_13 : decode cX5_setStep 13 = .ok (.dup, 1) := by decide +kernel
theorem dX5_setStep_14 : decode cX5_setStep 14 = .ok (.ldc 123, 2) := by decide +kernel
theorem dX5_setStep_16 : decode cX5_setStep 16 = .ok (.invokespecial 79, 3) := by decide +kernel
theorem dX5_setStep_19 : decode cX5_setStep 19 = .ok (.athrow, 1) := by decide +kernel
theorem dX5_setStep_20 : decode cX5_setStep 20 = .ok (.aload_n 0, 1) := by decide +kernel
theorem dX5_setStep_21 : decode cX5_setStep 21 = .ok (.getfield 55, 3) := by decide +kernel
theorem dX5_setStep_24 : decode cX5_setStep 24 = .ok (.istore_n 2, 1) := by decide +kernel
theorem dX5_setStep_25 : decode cX5_setStep 25 = .ok (.aload_n 0, 1) := by decide +kernel
theorem dX5_setStep_26 : decode cX5_setStep 26 = .ok (.iload_n 1, 1) := by decide +kernel
theorem dX5_setStep_27 : decode cX5_setStep 27 = .ok (.putfield 55, 3) := by decide +kernel
theorem dX5_setStep_30 : decode cX5_setStep 30 = .ok (.iload_n 2, 1) := by decide +kernel
theorem dX5_setStep_31 : decode cX5_setStep 31 = .ok (.ireturn, 1) := by decide +kernel
set_option maxRecDepth 20000 in
theorem ggX5_setTarget_X5_isWithin : GoodIn wsX5_setTarget wsX5_isWithin := goodIn_r _ [7] (by decide +kernel) (by decide +kernel)
set_option maxRecDepth 20000 in
theorem gX5_setTarget_X5_isWithin : GoodIn wsX5_setTarget (va_wsS RX5 71 yX5_isWithin wsX5_isWithin) := goodIn_app (goodIn_of _ (by decide +kernel)) ggX5_setTarget_X5_isWithin
theorem dX5_setTarget_0 : decode cX5_setTarget 0 = .ok (.iload_n 1, 1) := by decide +kernel
theorem dX5_setTarget_1 : decode cX5_setTarget 1 = .ok (.iconst 0, 1) := by decide +kernel
theorem dX5_setTarget_2 : decode cX5_setTarget 2 = .ok (.sipush 400, 3) := by decide +kernel
theorem dX5_setTarget_5 : decode cX5_setTarget 5 = .ok (.invokestatic 71, 3) := by decide +kernel
theorem dX5_setTarget_8 : decode cX5_setTarget 8 = .ok (.ifCond .ne 13, 3) := by decide +kernel
theorem dX5_setTarget_11 : decode cX5_setTarget 11 = .ok (.new 75, 3) := by decide +kernel
theorem dX5_setTarget_14 : decode cX5_setTarget 14 = .ok (.dup, 1) := by decide +kernel
theorem dX5_setTarget_15 : decode cX5_setTarget 15 = .ok (.ldc 125, 2) := by decide +kernel
theorem dX5_setTarget_17 : decode cX5_setTarget 17 = .ok (.invokespecial 79, 3) := by decide +kernel
theorem dX5_setTarget_20 : decode cX5_setTarget 20 = .ok (.athrow, 1) := by decide +kernel
theorem dX5_setTarget_21 : decode cX5_setTarget 21 = .ok (.aload_n 0, 1) := by decide +kernel
theorem dX5_setTarget_22 : decode cX5_setTarget 22 = .ok (.getfield 58, 3) := by decide +kernel
theorem dX5_setTarget_25 : decode cX5_setTarget 25 = .ok (.istore_n 2, 1) := by decide +kernel
theorem dX5_setTarget_26 : decode cX5_setTarget 26 = .ok (.aload_n 0, 1) := by decide +kernel
theorem dX5_setTarget_27 : decode cX5_setTarget 27 = .ok (.iload_n 1, 1) := by decide +kernel
theorem dX5_setTarget_28 : decode cX5_setTarget 28 = .ok (.putfield 58, 3) := by decide +kernel
theorem dX5_setTarget_31 : decode cX5_setTarget 31 = .ok (.iload_n 2, 1) := by decide +kernel
theorem dX5_setTarget_32 : decode cX5_setTarget 32 = .ok (.ireturn, 1) := by decide +kernel
theorem dX5_setSmoothing_0 : decode cX5_setSmoothing 0 = .ok (.aload_n 0, 1) := by decide +kernel
theorem dX5_setSmoothing_1 : decode cX5_setSmoothing 1 = .ok (.getfield 64, 3) := by decide +kernel
theorem dX5_setSmoothing_4 : decode cX5_setSmoothing 4 = .ok (.istore_n 2, 1) := by decide +kernel
theorem dX5_setSmoothing_5 : decode cX5_setSmoothing 5 = .ok (.aload_n 0, 1) := by decide +kernel
theorem dX5_setSmoothing_6 : decode cX5_setSmoothing 6 = .ok (.iload_n 1, 1) := by decide +kernel
theorem dX5_setSmoothing_7 : decode cX5_setSmoothing 7 = .ok (.putfield 64, 3) := by decide +kernel
theorem dX5_setSmoothing_10 : decode cX5_setSmoothing 10 = .ok (.iload_n 2, 1) := by decide +kernel
theorem dX5_setSmoothing_11 : decode cX5_setSmoothing 11 = .ok (.ireturn, 1) := by decide +kernel
set_option maxRecDepth 20000 in
theorem ggX5_askKey_X5_isKeyDue : GoodIn wsX5_askKey wsX5_isKeyDue := goodIn_r _ [6, 7, 1, 8, 9, 10, 11, 12, 13, 14, 15, 16, 17, 18, 19, 20, 21, 22, 23] (by decide +kernel) (by decide +kernel)
set_option maxRecDepth 20000 in
theorem gX5_askKey_X5_isKeyDue : GoodIn wsX5_askKey (wsV RX5 129 RX5 yX5_isKeyDue wsX5_isKeyDue) := goodIn_app (goodIn_of _ (by decide +kernel)) ggX5_askKey_X5_isKeyDue
theorem dX5_askKey_0 : decode cX5_askKey 0 = .ok (.aload_n 0, 1) := by decide +kernel
theorem dX5_askKey_1 : decode cX5_askKey 1 = .ok (.invokevirtual 129, 3) := by decide +kernel
theorem dX5_askKey_4 : decode cX5_askKey 4 = .ok (.istore_n 1, 1) := by decide +kernel
theorem dX5_askKey_5 : decode cX5_askKey 5 = .ok (.aload_n 0, 1) := by decide +kernel
theorem dX5_askKey_6 : decode cX5_askKey 6 = .ok (.iconst 1, 1) := by decide +kernel
theorem dX5_askKey_7 : decode cX5_askKey 7 = .ok (.putfield 68, 3) := by decide +kernel
theorem dX5_askKey_10 : decode cX5_askKey 10 = .ok (.iload_n 1, 1) := by decide +kernel
theorem dX5_askKey_11 : decode cX5_askKey 11 = .ok (.ireturn, 1) := by decide +kernel
set_option maxRecDepth 20000 in
theorem ggX5_code_X5_refuseIfFull : GoodIn wsX5_code wsX5_refuseIfFull := goodIn_ca (goodIn_r _ [17, 18, 19, 6, 315, 316, 317, 318, 319, 320, 321, 322, 323, 324, 325, 326, 327, 328] (by decide +kernel) (by decide +kernel)) (goodIn_sub (fun _ h => List.mem_cons_of_mem _ (List.mem_append_right _ h)) (by decide +kernel))
set_option maxRecDepth 20000 in
theorem gX5_code_X5_refuseIfFull : GoodIn wsX5_code (wsV RX5 133 RX5 yX5_refuseIfFull wsX5_refuseIfFull) := goodIn_app (goodIn_of _ (by decide +kernel)) ggX5_code_X5_refuseIfFull
set_option maxRecDepth 20000 in
theorem ggX5_code_X5_draftNext : GoodIn wsX5_code wsX5_draftNext := goodIn_r _ [23, 6, 24, 25, 26, 3, 27, 28, 29, 30, 10, 31, 32, 33, 34, 16, 35, 5, 36, 37, 38, 39, 40, 41, 42, 43, 44, 45, 46, 47, 48, 49, 50, 51, 52, 53, 54, 12, 11, 55, 56, 57, 58, 59, 60, 61, 62, 63, 64, 65, 66, 67, 68, 69, 70, 71, 72, 73, 74, 75, 76, 77, 78, 79, 80, 81, 82, 83, 84, 85, 86, 87, 88, 89, 90, 91, 92, 93, 94, 95, 9, 96, 97, 98, 99, 100, 101, 102, 103, 104, 105, 106, 107, 108, 109, 110, 111, 112, 113, 114, 115, 116, 117, 118, 119, 120, 121, 122, 123, 124, 125, 126, 127, 128, 129, 130, 131, 132, 133, 134, 135, 136, 137, 138, 139, 140, 141, 142, 143, 144, 145, 146, 147, 148, 149, 150, 151, 152, 153, 154, 155, 156, 157, 158, 159, 160, 161, 162, 163, 164, 165, 166, 167, 168, 169, 170, 171, 172, 173, 174, 175, 176, 177, 178, 179, 180, 181, 182, 183, 184, 185, 186, 187, 188, 189, 190, 191, 192, 193, 194, 195, 196, 197, 198, 199, 200, 201, 202, 203, 204, 205, 315, 316, 317, 318, 319, 320, 321, 322, 323, 324, 325, 326, 327, 328, 343, 344, 345, 346, 347, 329, 330, 331, 332, 333, 334, 335, 336, 337, 338, 339, 340, 341, 342, 348, 349, 350, 351] (by decide +kernel) (by decide +kernel)
set_option maxRecDepth 20000 in
theorem gX5_code_X5_draftNext : GoodIn wsX5_code (wsV RX5 136 RX5 yX5_draftNext wsX5_draftNext) := goodIn_app (goodIn_of _ (by decide +kernel)) ggX5_code_X5_draftNext
set_option maxRecDepth 20000 in
theorem ggX5_code_X1_write : GoodIn wsX5_code wsX1_write := goodIn_r _ [210, 211, 212, 213, 214, 145, 146, 147, 215, 216, 217, 209, 218, 219, 220, 221, 222, 223, 224, 225, 226, 227, 228, 229, 230, 231, 232, 233, 234, 235, 236, 237, 238, 239, 240, 241, 242, 243, 244, 245, 94, 95, 9, 96, 97, 98, 16, 99, 246, 247, 248, 249, 250, 251, 252, 101, 102, 103, 104, 253, 254, 255, 256, 257, 258, 259, 260, 261, 262, 263, 264, 265, 352, 353, 354, 355, 329, 330, 331, 332, 333, 334, 335, 336, 337, 338, 339, 340, 341, 342] (by decide +kernel) (by decide +kernel)
set_option maxRecDepth 20000 in
theorem gX5_code_X1_write : GoodIn wsX5_code (wsV RX5 140 RX1 yX1_write wsX1_write) := goodIn_app (goodIn_of _ (by decide +kernel)) ggX5_code_X1_write
set_option maxRecDepth 20000 in
theorem ggX5_code_X2_bytesInAll : GoodIn wsX5_code wsX2_bytesInAll := goodIn_r _ [269, 270, 271, 272, 9, 273, 274, 262, 263, 264, 265, 329, 330, 331, 332, 333, 334, 335, 336, 337, 338, 339, 340, 341, 342] (by decide +kernel) (by decide +kernel)
set_option maxRecDepth 20000 in
theorem gX5_code_X2_bytesInAll : GoodIn wsX5_code (wsV RX5 144 RX2 yX2_bytesInAll wsX2_bytesInAll) := goodIn_app (goodIn_of _ (by decide +kernel)) ggX5_code_X2_bytesInAll
set_option maxRecDepth 20000 in
theorem ggX5_code_X1_copyOfBytes : GoodIn wsX5_code wsX1_copyOfBytes := goodIn_r _ [278, 211, 42, 16, 43, 44, 45, 46, 47, 48, 49, 50, 279, 280, 146, 281, 282, 283, 284, 285, 286, 287, 288, 289, 290, 291, 292, 293, 352, 353, 354, 355] (by decide +kernel) (by decide +kernel)
set_option maxRecDepth 20000 in
theorem gX5_code_X1_copyOfBytes : GoodIn wsX5_code (wsV RX5 148 RX1 yX1_copyOfBytes wsX1_copyOfBytes) := goodIn_app (goodIn_of _ (by decide +kernel)) ggX5_code_X1_copyOfBytes
set_option maxRecDepth 20000 in
theorem ggX5_code_X2_init : GoodIn wsX5_code wsX2_init := goodIn_r _ [295, 296, 297, 298, 288, 205, 97, 104, 299, 300, 301, 265, 302, 303, 304, 305, 306, 307, 308, 309, 329, 330, 331, 332, 333, 334, 335, 336, 337, 338, 339, 340, 341, 342] (by decide +kernel) (by decide +kernel)
set_option maxRecDepth 20000 in
theorem gX5_code_X2_init_n43 : GoodIn wsX5_code (wsX2_init) := ggX5_code_X2_init
set_option maxRecDepth 20000 in
theorem ggX5_code_X5_steer : GoodIn wsX5_code wsX5_steer := goodIn_r _ [313, 314, 10, 1, 44, 45, 46, 47, 48, 49, 50, 266, 267, 268, 9, 269, 270, 271, 272, 273, 274, 262, 263, 264, 265, 315, 316, 317, 318, 319, 320, 321, 322, 323, 324, 325, 326, 327, 328, 329, 330, 331, 332, 333, 334, 335, 336, 337, 338, 339, 340, 341, 342] (by decide +kernel) (by decide +kernel)
set_option maxRecDepth 20000 in
theorem gX5_code_X5_steer : GoodIn wsX5_code (wsV RX5 158 RX5 yX5_steer wsX5_steer) := goodIn_app (goodIn_of _ (by decide +kernel)) ggX5_code_X5_steer
theorem dX5_code_0 : decode cX5_code 0 = .ok (.aload_n 0, 1) := by decide +kernel
theorem dX5_code_1 : decode cX5_code 1 = .ok (.invokevirtual 133, 3) := by decide +kernel
theorem dX5_code_4 : decode cX5_code 4 = .ok (.aload_n 0, 1) := by decide +kernel
theorem dX5_code_5 : decode cX5_code 5 = .ok (.aload_n 0, 1) := by decide +kernel
theorem dX5_code_6 : decode cX5_code 6 = .ok (.getfield 55, 3) := by decide +kernel
theorem dX5_code_9 : decode cX5_code 9 = .ok (.invokevirtual 136, 3) := by decide +kernel
theorem dX5_code_12 : decode cX5_code 12 = .ok (.aload_n 0, 1) := by decide +kernel
theorem dX5_code_13 : decode cX5_code 13 = .ok (.getfield 29, 3) := by decide +kernel
theorem dX5_code_16 : decode cX5_code 16 = .ok (.aload_n 0, 1) := by decide +kernel
theorem dX5_code_17 : decode cX5_code 17 = .ok (.getfield 44, 3) := by decide +kernel
theorem dX5_code_20 : decode cX5_code 20 = .ok (.invokevirtual 140, 3) := by decide +kernel
theorem dX5_code_23 : decode cX5_code 23 = .ok (.aload_n 0, 1) := by decide +kernel
theorem dX5_code_24 : decode cX5_code 24 = .ok (.getfield 44, 3) := by decide +kernel
theorem dX5_code_27 : decode cX5_code 27 = .ok (.astore_n 1, 1) := by decide +kernel
theorem dX5_code_28 : decode cX5_code 28 = .ok (.aload_n 1, 1) := by decide +kernel
theorem dX5_code_29 : decode cX5_code 29 = .ok (.aload_n 0, 1) := by decide +kernel
theorem dX5_code_30 : decode cX5_code 30 = .ok (.getfield 29, 3) := by decide +kernel
theorem dX5_code_33 : decode cX5_code 33 = .ok (.aload_n 1, 1) := by decide +kernel
theorem dX5_code_34 : decode cX5_code 34 = .ok (.invokevirtual 144, 3) := by decide +kernel
theorem dX5_code_37 : decode cX5_code 37 = .ok (.invokevirtual 148, 3) := by decide +kernel
theorem dX5_code_40 : decode cX5_code 40 = .ok (.putfield 152, 3) := by decide +kernel
theorem dX5_code_43 : decode cX5_code 43 = .ok (.aload_n 0, 1) := by decide +kernel
theorem dX5_code_44 : decode cX5_code 44 = .ok (.getfield 15, 3) := by decide +kernel
theorem dX5_code_47 : decode cX5_code 47 = .ok (.aload_n 0, 1) := by decide +kernel
theorem dX5_code_48 : decode cX5_code 48 = .ok (.getfield 48, 3) := by decide +kernel
theorem dX5_code_51 : decode cX5_code 51 = .ok (.aload_n 1, 1) := by decide +kernel
theorem dX5_code_52 : decode cX5_code 52 = .ok (.aastore, 1) := by decide +kernel
theorem dX5_code_53 : decode cX5_code 53 = .ok (.aload_n 0, 1) := by decide +kernel
theorem dX5_code_54 : decode cX5_code 54 = .ok (.new 13, 3) := by decide +kernel
theorem dX5_code_57 : decode cX5_code 57 = .ok (.dup, 1) := by decide +kernel
theorem dX5_code_58 : decode cX5_code 58 = .ok (.invokespecial 43, 3) := by decide +kernel
theorem dX5_code_61 : decode cX5_code 61 = .ok (.putfield 44, 3) := by decide +kernel
theorem dX5_code_64 : decode cX5_code 64 = .ok (.aload_n 0, 1) := by decide +kernel
theorem dX5_code_65 : decode cX5_code 65 = .ok (.dup, 1) := by decide +kernel
theorem dX5_code_66 : decode cX5_code 66 = .ok (.getfield 48, 3) := by decide +kernel
theorem dX5_code_69 : decode cX5_code 69 = .ok (.iconst 1, 1) := by decide +kernel
theorem dX5_code_70 : decode cX5_code 70 = .ok (.iadd, 1) := by decide +kernel
theorem dX5_code_71 : decode cX5_code 71 = .ok (.putfield 48, 3) := by decide +kernel
theorem dX5_code_74 : decode cX5_code 74 = .ok (.aload_n 0, 1) := by decide +kernel
theorem dX5_code_75 : decode cX5_code 75 = .ok (.aload_n 1, 1) := by decide +kernel
theorem dX5_code_76 : decode cX5_code 76 = .ok (.getfield 155, 3) := by decide +kernel
theorem dX5_code_79 : decode cX5_code 79 = .ok (.ifCond .eq 7, 3) := by decide +kernel
theorem dX5_code_82 : decode cX5_code 82 = .ok (.iconst 0, 1) := by decide +kernel
theorem dX5_code_83 : decode cX5_code 83 = .ok (.goto 9, 3) := by decide +kernel
theorem dX5_code_86 : decode cX5_code 86 = .ok (.aload_n 0, 1) := by decide +kernel
theorem dX5_code_87 : decode cX5_code 87 = .ok (.getfield 52, 3) := by decide +kernel
theorem dX5_code_90 : decode cX5_code 90 = .ok (.iconst 1, 1) := by decide +kernel
theorem dX5_code_91 : decode cX5_code 91 = .ok (.iadd, 1) := by decide +kernel
theorem dX5_code_92 : decode cX5_code 92 = .ok (.putfield 52, 3) := by decide +kernel
theorem dX5_code_95 : decode cX5_code 95 = .ok (.aload_n 0, 1) := by decide +kernel
theorem dX5_code_96 : decode cX5_code 96 = .ok (.iconst 0, 1) := by decide +kernel
theorem dX5_code_97 : decode cX5_code 97 = .ok (.putfield 68, 3) := by decide +kernel
theorem dX5_code_100 : decode cX5_code 100 = .ok (.aload_n 0, 1) := by decide +kernel
theorem dX5_code_101 : decode cX5_code 101 = .ok (.aload_n 1, 1) := by decide +kernel
theorem dX5_code_102 : decode cX5_code 102 = .ok (.invokevirtual 158, 3) := by decide +kernel
theorem dX5_code_105 : decode cX5_code 105 = .ok (.aload_n 1, 1) := by decide +kernel
theorem dX5_code_106 : decode cX5_code 106 = .ok (.invokevirtual 144, 3) := by decide +kernel
theorem dX5_code_109 : decode cX5_code 109 = .ok (.ireturn, 1) := by decide +kernel
theorem dX5_pictures_0 : decode cX5_pictures 0 = .ok (.aload_n 0, 1) := by decide +kernel
theorem dX5_pictures_1 : decode cX5_pictures 1 = .ok (.getfield 48, 3) := by decide +kernel
theorem dX5_pictures_4 : decode cX5_pictures 4 = .ok (.ireturn, 1) := by decide +kernel
theorem dX5_step_0 : decode cX5_step 0 = .ok (.aload_n 0, 1) := by decide +kernel
theorem dX5_step_1 : decode cX5_step 1 = .ok (.getfield 55, 3) := by decide +kernel
theorem dX5_step_4 : decode cX5_step 4 = .ok (.ireturn, 1) := by decide +kernel
set_option maxRecDepth 20000 in
theorem ggX5_isKey_X5_pictureAt : GoodIn wsX5_isKey wsX5_pictureAt := goodIn_ca (goodIn_r _ [6, 7, 8, 9, 10, 11, 5, 12, 13, 14, 29, 30, 31, 32, 33, 34, 35, 36, 37, 38, 39, 40, 41, 42] (by decide +kernel) (by decide +kernel)) (goodIn_sub (fun _ h => List.mem_cons_of_mem _ (List.mem_append_right _ h)) (by decide +kernel))
set_option maxRecDepth 20000 in
theorem gX5_isKey_X5_pictureAt : GoodIn wsX5_isKey (wsV RX5 161 RX5 yX5_pictureAt wsX5_pictureAt) := goodIn_app (goodIn_of _ (by decide +kernel)) ggX5_isKey_X5_pictureAt
theorem dX5_isKey_0 : decode cX5_isKey 0 = .ok (.aload_n 0, 1) := by decide +kernel
theorem dX5_isKey_1 : decode cX5_isKey 1 = .ok (.iload_n 1, 1) := by decide +kernel
theorem dX5_isKey_2 : decode cX5_isKey 2 = .ok (.invokevirtual 161, 3) := by decide +kernel
theorem dX5_isKey_5 : decode cX5_isKey 5 = .ok (.getfield 155, 3) := by decide +kernel
theorem dX5_isKey_8 : decode cX5_isKey 8 = .ok (.ireturn, 1) := by decide +kernel
set_option maxRecDepth 20000 in
theorem ggX5_kindOf_X5_pictureAt : GoodIn wsX5_kindOf wsX5_pictureAt := goodIn_ca (goodIn_r _ [6, 7, 8, 9, 10, 11, 5, 12, 13, 14, 32, 33, 34, 35, 36, 37, 38, 39, 40, 41, 42, 43, 44, 45] (by decide +kernel) (by decide +kernel)) (goodIn_sub (fun _ h => List.mem_cons_of_mem _ (List.mem_append_right _ h)) (by decide +kernel))
set_option maxRecDepth 20000 in
theorem gX5_kindOf_X5_pictureAt : GoodIn wsX5_kindOf (wsV RX5 161 RX5 yX5_pictureAt wsX5_pictureAt) := goodIn_app (goodIn_of _ (by decide +kernel)) ggX5_kindOf_X5_pictureAt
set_option maxRecDepth 20000 in
theorem ggX5_kindOf_X5_placeIn : GoodIn wsX5_kindOf wsX5_placeIn := goodIn_ca (goodIn_r _ [17, 7, 8] (by decide +kernel) (by decide +kernel)) (goodIn_sub (fun _ h => List.mem_cons_of_mem _ (List.mem_append_right _ h)) (by decide +kernel))
set_option maxRecDepth 20000 in
theorem gX5_kindOf_X5_placeIn : GoodIn wsX5_kindOf (va_wsS RX5 171 yX5_placeIn wsX5_placeIn) := goodIn_app (goodIn_of _ (by decide +kernel)) ggX5_kindOf_X5_placeIn
theorem dX5_kindOf_0 : decode cX5_kindOf 0 = .ok (.aload_n 0, 1) := by decide +kernel
theorem dX5_kindOf_1 : decode cX5_kindOf 1 = .ok (.iload_n 1, 1) := by decide +kernel
theorem dX5_kindOf_2 : decode cX5_kindOf 2 = .ok (.invokevirtual 161, 3) := by decide +kernel
theorem dX5_kindOf_5 : decode cX5_kindOf 5 = .ok (.getfield 168, 3) := by decide +kernel
theorem dX5_kindOf_8 : decode cX5_kindOf 8 = .ok (.iload_n 2, 1) := by decide +kernel
theorem dX5_kindOf_9 : decode cX5_kindOf 9 = .ok (.bipush 12, 2) := by decide +kernel
theorem dX5_kindOf_11 : decode cX5_kindOf 11 = .ok (.invokestatic 171, 3) := by decide +kernel
theorem dX5_kindOf_14 : decode cX5_kindOf 14 = .ok (.iaload, 1) := by decide +kernel
theorem dX5_kindOf_15 : decode cX5_kindOf 15 = .ok (.ireturn, 1) := by decide +kernel
set_option maxRecDepth 20000 in
theorem ggX5_vectorX_X5_pictureAt : GoodIn wsX5_vectorX wsX5_pictureAt := goodIn_ca (goodIn_r _ [6, 7, 8, 9, 10, 11, 5, 12, 13, 14, 32, 33, 34, 35, 36, 37, 38, 39, 40, 41, 42, 43, 44, 45] (by decide +kernel) (by decide +kernel)) (goodIn_sub (fun _ h => List.mem_cons_of_mem _ (List.mem_append_right _ h)) (by decide +kernel))
set_option maxRecDepth 20000 in
theorem gX5_vectorX_X5_pictureAt : GoodIn wsX5_vectorX (wsV RX5 161 RX5 yX5_pictureAt wsX5_pictureAt) := goodIn_app (goodIn_of _ (by decide +kernel)) ggX5_vectorX_X5_pictureAt
set_option maxRecDepth 20000 in
theorem ggX5_vectorX_X5_placeIn : GoodIn wsX5_vectorX wsX5_placeIn := goodIn_ca (goodIn_r _ [17, 7, 8] (by decide +kernel) (by decide +kernel)) (goodIn_sub (fun _ h => List.mem_cons_of_mem _ (List.mem_append_right _ h)) (by decide +kernel))
set_option maxRecDepth 20000 in
theorem gX5_vectorX_X5_placeIn : GoodIn wsX5_vectorX (va_wsS RX5 171 yX5_placeIn wsX5_placeIn) := goodIn_app (goodIn_of _ (by decide +kernel)) ggX5_vectorX_X5_placeIn
theorem dX5_vectorX_0 : decode cX5_vectorX 0 = .ok (.aload_n 0, 1) := by decide +kernel
theorem dX5_vectorX_1 : decode cX5_vectorX 1 = .ok (.iload_n 1, 1) := by decide +kernel
theorem dX5_vectorX_2 : decode cX5_vectorX 2 = .ok (.invokevirtual 161, 3) := by decide +kernel
theorem dX5_vectorX_5 : decode cX5_vectorX 5 = .ok (.getfield 174, 3) := by decide +kernel
theorem dX5_vectorX_8 : decode cX5_vectorX 8 = .ok (.iload_n 2, 1) := by decide +kernel
theorem dX5_vectorX_9 : decode cX5_vectorX 9 = .ok (.bipush 12, 2) := by decide +kernel
theorem dX5_vectorX_11 : decode cX5_vectorX 11 = .ok (.invokestatic 171, 3) := by decide +kernel
theorem dX5_vectorX_14 : decode cX5_vectorX 14 = .ok (.iaload, 1) := by decide +kernel
theorem dX5_vectorX_15 : decode cX5_vectorX 15 = .ok (.ireturn, 1) := by decide +kernel
set_option maxRecDepth 20000 in
theorem ggX5_vectorY_X5_pictureAt : GoodIn wsX5_vectorY wsX5_pictureAt := goodIn_ca (goodIn_r _ [6, 7, 8, 9, 10, 11, 5, 12, 13, 14, 32, 33, 34, 35, 36, 37, 38, 39, 40, 41, 42, 43, 44, 45] (by decide +kernel) (by decide +kernel)) (goodIn_sub (fun _ h => List.mem_cons_of_mem _ (List.mem_append_right _ h)) (by decide +kernel))
set_option maxRecDepth 20000 in
theorem gX5_vectorY_X5_pictureAt : GoodIn wsX5_vectorY (wsV RX5 161 RX5 yX5_pictureAt wsX5_pictureAt) := goodIn_app (goodIn_of _ (by decide +kernel)) ggX5_vectorY_X5_pictureAt
set_option maxRecDepth 20000 in
theorem ggX5_vectorY_X5_placeIn : GoodIn wsX5_vectorY wsX5_placeIn := goodIn_ca (goodIn_r _ [17, 7, 8] (by decide +kernel) (by decide +kernel)) (goodIn_sub (fun _ h => List.mem_cons_of_mem _ (List.mem_append_right _ h)) (by decide +kernel))
set_option maxRecDepth 20000 in
theorem gX5_vectorY_X5_placeIn : GoodIn wsX5_vectorY (va_wsS RX5 171 yX5_placeIn wsX5_placeIn) := goodIn_app (goodIn_of _ (by decide +kernel)) ggX5_vectorY_X5_placeIn
theorem dX5_vectorY_0 : decode cX5_vectorY 0 = .ok (.aload_n 0, 1) := by decide +kernel
theorem dX5_vectorY_1 : decode cX5_vectorY 1 = .ok (.iload_n 1, 1) := by decide +kernel
theorem dX5_vectorY_2 : decode cX5_vectorY 2 = .ok (.invokevirtual 161, 3) := by decide +kernel
theorem dX5_vectorY_5 : decode cX5_vectorY 5 = .ok (.getfield 177, 3) := by decide +kernel
theorem dX5_vectorY_8 : decode cX5_vectorY 8 = .ok (.iload_n 2, 1) := by decide +kernel
theorem dX5_vectorY_9 : decode cX5_vectorY 9 = .ok (.bipush 12, 2) := by decide +kernel
theorem dX5_vectorY_11 : decode cX5_vectorY 11 = .ok (.invokestatic 171, 3) := by decide +kernel
theorem dX5_vectorY_14 : decode cX5_vectorY 14 = .ok (.iaload, 1) := by decide +kernel
theorem dX5_vectorY_15 : decode cX5_vectorY 15 = .ok (.ireturn, 1) := by decide +kernel
set_option maxRecDepth 20000 in
theorem ggX5_levels_X5_pictureAt : GoodIn wsX5_levels wsX5_pictureAt := goodIn_ca (goodIn_r _ [5, 6, 7, 8, 9, 10, 4, 11, 12, 13, 23, 24, 25, 26, 27, 28, 29, 30, 31, 32, 33, 34, 35, 36] (by decide +kernel) (by decide +kernel)) (goodIn_sub (fun _ h => List.mem_cons_of_mem _ (List.mem_append_right _ h)) (by decide +kernel))
