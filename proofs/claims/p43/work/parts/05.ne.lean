set_option maxRecDepth 20000 in
theorem gX5_levels_X5_pictureAt : GoodIn wsX5_levels (wsV RX5 161 RX5 yX5_pictureAt wsX5_pictureAt) := goodIn_app (goodIn_of _ (by decide +kernel)) ggX5_levels_X5_pictureAt
set_option maxRecDepth 20000 in
theorem ggX5_levels_X5_placeIn : GoodIn wsX5_levels wsX5_placeIn := goodIn_ca (goodIn_r _ [16, 6, 7] (by decide +kernel) (by decide +kernel)) (goodIn_sub (fun _ h => List.mem_cons_of_mem _ (List.mem_append_right _ h)) (by decide +kernel))
set_option maxRecDepth 20000 in
theorem gX5_levels_X5_placeIn : GoodIn wsX5_levels (va_wsS RX5 171 yX5_placeIn wsX5_placeIn) := goodIn_app (goodIn_of _ (by decide +kernel)) ggX5_levels_X5_placeIn
set_option maxRecDepth 20000 in
theorem ggX5_levels_X2_levelsNotZero : GoodIn wsX5_levels wsX2_levelsNotZero := goodIn_r _ [21, 22, 37, 38, 39, 40, 41, 42, 43, 44, 45, 46, 47, 48, 49, 50] (by decide +kernel) (by decide +kernel)
set_option maxRecDepth 20000 in
theorem gX5_levels_X2_levelsNotZero : GoodIn wsX5_levels (wsV RX5 180 RX2 yX2_levelsNotZero wsX2_levelsNotZero) := goodIn_app (goodIn_of _ (by decide +kernel)) ggX5_levels_X2_levelsNotZero
theorem dX5_levels_0 : decode cX5_levels 0 = .ok (.aload_n 0, 1) := by decide +kernel
theorem dX5_levels_1 : decode cX5_levels 1 = .ok (.iload_n 1, 1) := by decide +kernel
theorem dX5_levels_2 : decode cX5_levels 2 = .ok (.invokevirtual 161, 3) := by decide +kernel
theorem dX5_levels_5 : decode cX5_levels 5 = .ok (.iload_n 2, 1) := by decide +kernel
theorem dX5_levels_6 : decode cX5_levels 6 = .ok (.bipush 12, 2) := by decide +kernel
theorem dX5_levels_8 : decode cX5_levels 8 = .ok (.invokestatic 171, 3) := by decide +kernel
theorem dX5_levels_11 : decode cX5_levels 11 = .ok (.invokevirtual 180, 3) := by decide +kernel
theorem dX5_levels_14 : decode cX5_levels 14 = .ok (.ireturn, 1) := by decide +kernel
set_option maxRecDepth 20000 in
theorem ggX5_resultAt_X5_pictureAt : GoodIn wsX5_resultAt wsX5_pictureAt := goodIn_ca (goodIn_r _ [6, 7, 8, 9, 10, 11, 5, 12, 13, 14, 35, 36, 37, 38, 39, 40, 41, 42, 43, 44, 45, 46, 47, 48] (by decide +kernel) (by decide +kernel)) (goodIn_sub (fun _ h => List.mem_cons_of_mem _ (List.mem_append_right _ h)) (by decide +kernel))
set_option maxRecDepth 20000 in
theorem gX5_resultAt_X5_pictureAt : GoodIn wsX5_resultAt (wsV RX5 161 RX5 yX5_pictureAt wsX5_pictureAt) := goodIn_app (goodIn_of _ (by decide +kernel)) ggX5_resultAt_X5_pictureAt
set_option maxRecDepth 20000 in
theorem ggX5_resultAt_X5_pointAt : GoodIn wsX5_resultAt wsX5_pointAt := goodIn_ca (goodIn_r _ [17, 18, 19, 5, 20, 7, 8] (by decide +kernel) (by decide +kernel)) (goodIn_sub (fun _ h => List.mem_cons_of_mem _ (List.mem_append_right _ h)) (by decide +kernel))
set_option maxRecDepth 20000 in
theorem gX5_resultAt_X5_pointAt : GoodIn wsX5_resultAt (va_wsS RX5 120 yX5_pointAt wsX5_pointAt) := goodIn_app (goodIn_of _ (by decide +kernel)) ggX5_resultAt_X5_pointAt
theorem dX5_resultAt_0 : decode cX5_resultAt 0 = .ok (.aload_n 0, 1) := by decide +kernel
theorem dX5_resultAt_1 : decode cX5_resultAt 1 = .ok (.iload_n 1, 1) := by decide +kernel
theorem dX5_resultAt_2 : decode cX5_resultAt 2 = .ok (.invokevirtual 161, 3) := by decide +kernel
theorem dX5_resultAt_5 : decode cX5_resultAt 5 = .ok (.getfield 186, 3) := by decide +kernel
theorem dX5_resultAt_8 : decode cX5_resultAt 8 = .ok (.iload_n 2, 1) := by decide +kernel
theorem dX5_resultAt_9 : decode cX5_resultAt 9 = .ok (.iload_n 3, 1) := by decide +kernel
theorem dX5_resultAt_10 : decode cX5_resultAt 10 = .ok (.invokestatic 120, 3) := by decide +kernel
theorem dX5_resultAt_13 : decode cX5_resultAt 13 = .ok (.iaload, 1) := by decide +kernel
theorem dX5_resultAt_14 : decode cX5_resultAt 14 = .ok (.ireturn, 1) := by decide +kernel
set_option maxRecDepth 20000 in
theorem ggX5_errorOf_X5_pictureAt : GoodIn wsX5_errorOf wsX5_pictureAt := goodIn_ca (goodIn_r _ [6, 7, 8, 9, 10, 11, 5, 12, 13, 14, 29, 30, 31, 32, 33, 34, 35, 36, 37, 38, 39, 40, 41, 42] (by decide +kernel) (by decide +kernel)) (goodIn_sub (fun _ h => List.mem_cons_of_mem _ (List.mem_append_right _ h)) (by decide +kernel))
set_option maxRecDepth 20000 in
theorem gX5_errorOf_X5_pictureAt : GoodIn wsX5_errorOf (wsV RX5 161 RX5 yX5_pictureAt wsX5_pictureAt) := goodIn_app (goodIn_of _ (by decide +kernel)) ggX5_errorOf_X5_pictureAt
theorem dX5_errorOf_0 : decode cX5_errorOf 0 = .ok (.aload_n 0, 1) := by decide +kernel
theorem dX5_errorOf_1 : decode cX5_errorOf 1 = .ok (.iload_n 1, 1) := by decide +kernel
theorem dX5_errorOf_2 : decode cX5_errorOf 2 = .ok (.invokevirtual 161, 3) := by decide +kernel
theorem dX5_errorOf_5 : decode cX5_errorOf 5 = .ok (.getfield 189, 3) := by decide +kernel
theorem dX5_errorOf_8 : decode cX5_errorOf 8 = .ok (.ireturn, 1) := by decide +kernel
set_option maxRecDepth 20000 in
theorem ggX5_bytes_X5_pictureAt : GoodIn wsX5_bytes wsX5_pictureAt := goodIn_ca (goodIn_r _ [5, 6, 7, 8, 9, 10, 4, 11, 12, 13, 23, 24, 25, 26, 27, 28, 29, 30, 31, 32, 33, 34, 35, 36] (by decide +kernel) (by decide +kernel)) (goodIn_sub (fun _ h => List.mem_cons_of_mem _ (List.mem_append_right _ h)) (by decide +kernel))
set_option maxRecDepth 20000 in
theorem gX5_bytes_X5_pictureAt : GoodIn wsX5_bytes (wsV RX5 161 RX5 yX5_pictureAt wsX5_pictureAt) := goodIn_app (goodIn_of _ (by decide +kernel)) ggX5_bytes_X5_pictureAt
set_option maxRecDepth 20000 in
theorem ggX5_bytes_X5_placeIn : GoodIn wsX5_bytes wsX5_placeIn := goodIn_ca (goodIn_r _ [16, 6, 7] (by decide +kernel) (by decide +kernel)) (goodIn_sub (fun _ h => List.mem_cons_of_mem _ (List.mem_append_right _ h)) (by decide +kernel))
set_option maxRecDepth 20000 in
theorem gX5_bytes_X5_placeIn : GoodIn wsX5_bytes (va_wsS RX5 171 yX5_placeIn wsX5_placeIn) := goodIn_app (goodIn_of _ (by decide +kernel)) ggX5_bytes_X5_placeIn
set_option maxRecDepth 20000 in
theorem ggX5_bytes_X2_bytesIn : GoodIn wsX5_bytes wsX2_bytesIn := goodIn_r _ [21, 22, 37, 38, 39, 40, 41, 42, 43, 44, 45, 46, 47, 48, 49, 50] (by decide +kernel) (by decide +kernel)
set_option maxRecDepth 20000 in
theorem gX5_bytes_X2_bytesIn : GoodIn wsX5_bytes (wsV RX5 192 RX2 yX2_bytesIn wsX2_bytesIn) := goodIn_app (goodIn_of _ (by decide +kernel)) ggX5_bytes_X2_bytesIn
theorem dX5_bytes_0 : decode cX5_bytes 0 = .ok (.aload_n 0, 1) := by decide +kernel
theorem dX5_bytes_1 : decode cX5_bytes 1 = .ok (.iload_n 1, 1) := by decide +kernel
theorem dX5_bytes_2 : decode cX5_bytes 2 = .ok (.invokevirtual 161, 3) := by decide +kernel
theorem dX5_bytes_5 : decode cX5_bytes 5 = .ok (.iload_n 2, 1) := by decide +kernel
theorem dX5_bytes_6 : decode cX5_bytes 6 = .ok (.iconst 3, 1) := by decide +kernel
theorem dX5_bytes_7 : decode cX5_bytes 7 = .ok (.invokestatic 171, 3) := by decide +kernel
theorem dX5_bytes_10 : decode cX5_bytes 10 = .ok (.invokevirtual 192, 3) := by decide +kernel
theorem dX5_bytes_13 : decode cX5_bytes 13 = .ok (.ireturn, 1) := by decide +kernel
set_option maxRecDepth 20000 in
theorem ggX5_bits_X5_pictureAt : GoodIn wsX5_bits wsX5_pictureAt := goodIn_ca (goodIn_r _ [6, 7, 8, 9, 10, 11, 5, 12, 13, 14, 32, 33, 34, 35, 36, 37, 38, 39, 40, 41, 42, 43, 44, 45] (by decide +kernel) (by decide +kernel)) (goodIn_sub (fun _ h => List.mem_cons_of_mem _ (List.mem_append_right _ h)) (by decide +kernel))
set_option maxRecDepth 20000 in
theorem gX5_bits_X5_pictureAt : GoodIn wsX5_bits (wsV RX5 161 RX5 yX5_pictureAt wsX5_pictureAt) := goodIn_app (goodIn_of _ (by decide +kernel)) ggX5_bits_X5_pictureAt
set_option maxRecDepth 20000 in
theorem ggX5_bits_X5_placeIn : GoodIn wsX5_bits wsX5_placeIn := goodIn_ca (goodIn_r _ [17, 7, 8] (by decide +kernel) (by decide +kernel)) (goodIn_sub (fun _ h => List.mem_cons_of_mem _ (List.mem_append_right _ h)) (by decide +kernel))
set_option maxRecDepth 20000 in
theorem gX5_bits_X5_placeIn : GoodIn wsX5_bits (va_wsS RX5 171 yX5_placeIn wsX5_placeIn) := goodIn_app (goodIn_of _ (by decide +kernel)) ggX5_bits_X5_placeIn
theorem dX5_bits_0 : decode cX5_bits 0 = .ok (.aload_n 0, 1) := by decide +kernel
theorem dX5_bits_1 : decode cX5_bits 1 = .ok (.iload_n 1, 1) := by decide +kernel
theorem dX5_bits_2 : decode cX5_bits 2 = .ok (.invokevirtual 161, 3) := by decide +kernel
theorem dX5_bits_5 : decode cX5_bits 5 = .ok (.getfield 195, 3) := by decide +kernel
theorem dX5_bits_8 : decode cX5_bits 8 = .ok (.iload_n 2, 1) := by decide +kernel
theorem dX5_bits_9 : decode cX5_bits 9 = .ok (.iconst 3, 1) := by decide +kernel
theorem dX5_bits_10 : decode cX5_bits 10 = .ok (.invokestatic 171, 3) := by decide +kernel
theorem dX5_bits_13 : decode cX5_bits 13 = .ok (.iaload, 1) := by decide +kernel
theorem dX5_bits_14 : decode cX5_bits 14 = .ok (.ireturn, 1) := by decide +kernel
set_option maxRecDepth 20000 in
theorem ggX5_byteAt_X5_pictureAt : GoodIn wsX5_byteAt wsX5_pictureAt := goodIn_ca (goodIn_r _ [6, 7, 8, 9, 10, 11, 5, 12, 13, 14, 43, 44, 45, 46, 47, 48, 49, 50, 51, 52, 53, 54, 55, 56] (by decide +kernel) (by decide +kernel)) (goodIn_sub (fun _ h => List.mem_cons_of_mem _ (List.mem_append_right _ h)) (by decide +kernel))
set_option maxRecDepth 20000 in
theorem gX5_byteAt_X5_pictureAt : GoodIn wsX5_byteAt (wsV RX5 161 RX5 yX5_pictureAt wsX5_pictureAt) := goodIn_app (goodIn_of _ (by decide +kernel)) ggX5_byteAt_X5_pictureAt
set_option maxRecDepth 20000 in
theorem ggX5_byteAt_X5_placeIn : GoodIn wsX5_byteAt wsX5_placeIn := goodIn_ca (goodIn_r _ [17, 7, 8] (by decide +kernel) (by decide +kernel)) (goodIn_sub (fun _ h => List.mem_cons_of_mem _ (List.mem_append_right _ h)) (by decide +kernel))
set_option maxRecDepth 20000 in
theorem gX5_byteAt_X5_placeIn : GoodIn wsX5_byteAt (va_wsS RX5 171 yX5_placeIn wsX5_placeIn) := goodIn_app (goodIn_of _ (by decide +kernel)) ggX5_byteAt_X5_placeIn
set_option maxRecDepth 20000 in
theorem ggX5_byteAt_X2_firstByteOf : GoodIn wsX5_byteAt wsX2_firstByteOf := goodIn_r _ [22, 23, 24, 25, 21, 26, 27, 29, 30, 31, 32, 33, 34, 35, 36, 37, 38, 39, 40, 41, 42] (by decide +kernel) (by decide +kernel)
set_option maxRecDepth 20000 in
theorem gX5_byteAt_X2_firstByteOf : GoodIn wsX5_byteAt (wsV RX5 198 RX2 yX2_firstByteOf wsX2_firstByteOf) := goodIn_app (goodIn_of _ (by decide +kernel)) ggX5_byteAt_X2_firstByteOf
set_option maxRecDepth 20000 in
theorem ggX5_byteAt_X2_bytesIn : GoodIn wsX5_byteAt wsX2_bytesIn := goodIn_r _ [26, 27, 29, 30, 31, 32, 33, 34, 35, 36, 37, 38, 39, 40, 41, 42] (by decide +kernel) (by decide +kernel)
set_option maxRecDepth 20000 in
theorem gX5_byteAt_X2_bytesIn : GoodIn wsX5_byteAt (wsV RX5 192 RX2 yX2_bytesIn wsX2_bytesIn) := goodIn_app (goodIn_of _ (by decide +kernel)) ggX5_byteAt_X2_bytesIn
theorem dX5_byteAt_0 : decode cX5_byteAt 0 = .ok (.aload_n 0, 1) := by decide +kernel
theorem dX5_byteAt_1 : decode cX5_byteAt 1 = .ok (.iload_n 1, 1) := by decide +kernel
theorem dX5_byteAt_2 : decode cX5_byteAt 2 = .ok (.invokevirtual 161, 3) := by decide +kernel
theorem dX5_byteAt_5 : decode cX5_byteAt 5 = .ok (.astore 4, 2) := by decide +kernel
theorem dX5_byteAt_7 : decode cX5_byteAt 7 = .ok (.iload_n 2, 1) := by decide +kernel
theorem dX5_byteAt_8 : decode cX5_byteAt 8 = .ok (.iconst 3, 1) := by decide +kernel
theorem dX5_byteAt_9 : decode cX5_byteAt 9 = .ok (.invokestatic 171, 3) := by decide +kernel
theorem dX5_byteAt_12 : decode cX5_byteAt 12 = .ok (.istore 5, 2) := by decide +kernel
theorem dX5_byteAt_14 : decode cX5_byteAt 14 = .ok (.aload 4, 2) := by decide +kernel
theorem dX5_byteAt_16 : decode cX5_byteAt 16 = .ok (.iload 5, 2) := by decide +kernel
theorem dX5_byteAt_18 : decode cX5_byteAt 18 = .ok (.invokevirtual 198, 3) := by decide +kernel
theorem dX5_byteAt_21 : decode cX5_byteAt 21 = .ok (.iload_n 3, 1) := by decide +kernel
theorem dX5_byteAt_22 : decode cX5_byteAt 22 = .ok (.aload 4, 2) := by decide +kernel
theorem dX5_byteAt_24 : decode cX5_byteAt 24 = .ok (.iload 5, 2) := by decide +kernel
theorem dX5_byteAt_26 : decode cX5_byteAt 26 = .ok (.invokevirtual 192, 3) := by decide +kernel
theorem dX5_byteAt_29 : decode cX5_byteAt 29 = .ok (.invokestatic 171, 3) := by decide +kernel
theorem dX5_byteAt_32 : decode cX5_byteAt 32 = .ok (.iadd, 1) := by decide +kernel
theorem dX5_byteAt_33 : decode cX5_byteAt 33 = .ok (.istore 6, 2) := by decide +kernel
theorem dX5_byteAt_35 : decode cX5_byteAt 35 = .ok (.aload 4, 2) := by decide +kernel
theorem dX5_byteAt_37 : decode cX5_byteAt 37 = .ok (.getfield 152, 3) := by decide +kernel
theorem dX5_byteAt_40 : decode cX5_byteAt 40 = .ok (.iload 6, 2) := by decide +kernel
theorem dX5_byteAt_42 : decode cX5_byteAt 42 = .ok (.aload 4, 2) := by decide +kernel
theorem dX5_byteAt_44 : decode cX5_byteAt 44 = .ok (.getfield 152, 3) := by decide +kernel
theorem dX5_byteAt_47 : decode cX5_byteAt 47 = .ok (.arraylength, 1) := by decide +kernel
theorem dX5_byteAt_48 : decode cX5_byteAt 48 = .ok (.invokestatic 171, 3) := by decide +kernel
theorem dX5_byteAt_51 : decode cX5_byteAt 51 = .ok (.iaload, 1) := by decide +kernel
theorem dX5_byteAt_52 : decode cX5_byteAt 52 = .ok (.ireturn, 1) := by decide +kernel
set_option maxRecDepth 20000 in
theorem ggX5_hand_X5_pictureAt : GoodIn wsX5_hand wsX5_pictureAt := goodIn_ca (goodIn_r _ [5, 6, 7, 8, 9, 10, 4, 11, 12, 13, 25, 26, 27, 28, 29, 30, 31, 32, 33, 34, 35, 36, 37, 38] (by decide +kernel) (by decide +kernel)) (goodIn_sub (fun _ h => List.mem_cons_of_mem _ (List.mem_append_right _ h)) (by decide +kernel))
set_option maxRecDepth 20000 in
theorem gX5_hand_X5_pictureAt : GoodIn wsX5_hand (wsV RX5 161 RX5 yX5_pictureAt wsX5_pictureAt) := goodIn_app (goodIn_of _ (by decide +kernel)) ggX5_hand_X5_pictureAt
set_option maxRecDepth 20000 in
theorem ggX5_hand_X5_placeIn : GoodIn wsX5_hand wsX5_placeIn := goodIn_ca (goodIn_r _ [16, 6, 7] (by decide +kernel) (by decide +kernel)) (goodIn_sub (fun _ h => List.mem_cons_of_mem _ (List.mem_append_right _ h)) (by decide +kernel))
set_option maxRecDepth 20000 in
theorem gX5_hand_X5_placeIn : GoodIn wsX5_hand (va_wsS RX5 171 yX5_placeIn wsX5_placeIn) := goodIn_app (goodIn_of _ (by decide +kernel)) ggX5_hand_X5_placeIn
set_option maxRecDepth 20000 in
theorem ggX5_hand_X5_handOver : GoodIn wsX5_hand wsX5_handOver := goodIn_r _ [20, 21, 22, 23, 24, 39, 40, 41, 42, 43, 44, 45, 46, 47, 48, 49, 50, 51, 52, 25, 26, 27, 28, 29, 30, 31, 32, 33, 34, 35, 36, 37, 38, 53, 54, 55] (by decide +kernel) (by decide +kernel)
set_option maxRecDepth 20000 in
theorem gX5_hand_X5_handOver : GoodIn wsX5_hand (wsV RX5 204 RX5 yX5_handOver wsX5_handOver) := goodIn_app (goodIn_of _ (by decide +kernel)) ggX5_hand_X5_handOver
theorem dX5_hand_0 : decode cX5_hand 0 = .ok (.aload_n 0, 1) := by decide +kernel
theorem dX5_hand_1 : decode cX5_hand 1 = .ok (.iload_n 1, 1) := by decide +kernel
theorem dX5_hand_2 : decode cX5_hand 2 = .ok (.invokevirtual 161, 3) := by decide +kernel
theorem dX5_hand_5 : decode cX5_hand 5 = .ok (.astore_n 3, 1) := by decide +kernel
theorem dX5_hand_6 : decode cX5_hand 6 = .ok (.aload_n 0, 1) := by decide +kernel
theorem dX5_hand_7 : decode cX5_hand 7 = .ok (.aload_n 3, 1) := by decide +kernel
theorem dX5_hand_8 : decode cX5_hand 8 = .ok (.iload_n 2, 1) := by decide +kernel
theorem dX5_hand_9 : decode cX5_hand 9 = .ok (.iconst 3, 1) := by decide +kernel
theorem dX5_hand_10 : decode cX5_hand 10 = .ok (.invokestatic 171, 3) := by decide +kernel
theorem dX5_hand_13 : decode cX5_hand 13 = .ok (.invokevirtual 204, 3) := by decide +kernel
theorem dX5_hand_16 : decode cX5_hand 16 = .ok (.ireturn, 1) := by decide +kernel
set_option maxRecDepth 20000 in
theorem ggX5_show_X5_pictureOrNull : GoodIn wsX5_show wsX5_pictureOrNull := goodIn_r _ [9, 10, 11, 137, 138, 139, 140, 141, 142, 143, 144, 145, 146, 147, 148, 149, 150] (by decide +kernel) (by decide +kernel)
set_option maxRecDepth 20000 in
theorem gX5_show_X5_pictureOrNull : GoodIn wsX5_show (wsV RX5 211 RX5 yX5_pictureOrNull wsX5_pictureOrNull) := goodIn_app (goodIn_of _ (by decide +kernel)) ggX5_show_X5_pictureOrNull
set_option maxRecDepth 20000 in
theorem ggX5_show_X4_make : GoodIn wsX5_show wsX4_make := goodIn_r _ [16, 17, 18, 19, 20, 21, 22, 23, 24, 25, 26, 27, 28, 29, 30, 31, 32, 8, 33, 34, 35, 36, 37, 38, 39, 40, 41, 42, 43, 44, 45, 46, 47, 48, 49, 50, 51, 52, 53, 54, 55, 56, 57, 58, 59, 60, 61, 62, 63, 64, 65, 66, 67, 68, 69, 70, 71, 72, 73, 74, 75, 76, 77, 78, 79, 80, 81, 82, 83, 84, 85, 86, 87, 88, 89, 90, 91, 92, 93, 94, 95, 96, 97, 98, 99, 100, 101, 102, 103, 15, 104, 105, 106, 107, 108, 109, 110, 111, 112, 113, 114, 115, 116, 117, 118, 119, 120, 121, 122, 123, 124, 125, 151, 152, 153, 154, 155, 156, 157, 158, 159, 160, 161, 162, 163, 164, 165, 166, 167, 168, 169, 170, 171] (by decide +kernel) (by decide +kernel)
set_option maxRecDepth 20000 in
theorem gX5_show_X4_make : GoodIn wsX5_show (wsV RX5 219 RX4 yX4_make wsX4_make) := goodIn_app (goodIn_of _ (by decide +kernel)) ggX5_show_X4_make
set_option maxRecDepth 20000 in
theorem ggX5_show_X4_takeMade : GoodIn wsX5_show wsX4_takeMade := goodIn_r _ [129, 17, 130, 18, 131, 132, 133, 134, 135, 151, 152, 153, 168, 169, 170, 171] (by decide +kernel) (by decide +kernel)
set_option maxRecDepth 20000 in
theorem gX5_show_X4_takeMade : GoodIn wsX5_show (wsV RX5 222 RX4 yX4_takeMade wsX4_takeMade) := goodIn_app (goodIn_of _ (by decide +kernel)) ggX5_show_X4_takeMade
set_option maxRecDepth 20000 in
theorem ggX5_show_X2_bandsGot : GoodIn wsX5_show wsX2_bandsGot := goodIn_r _ [113, 114, 154, 155, 156, 157, 158, 159, 160, 161, 162, 163, 164, 165, 166, 167] (by decide +kernel) (by decide +kernel)
set_option maxRecDepth 20000 in
theorem gX5_show_X2_bandsGot : GoodIn wsX5_show (wsV RX5 225 RX2 yX2_bandsGot wsX2_bandsGot) := goodIn_app (goodIn_of _ (by decide +kernel)) ggX5_show_X2_bandsGot
theorem dX5_show_0 : decode cX5_show 0 = .ok (.aload_n 0, 1) := by decide +kernel
theorem dX5_show_1 : decode cX5_show 1 = .ok (.aload_n 0, 1) := by decide +kernel
theorem dX5_show_2 : decode cX5_show 2 = .ok (.getfield 36, 3) := by decide +kernel
theorem dX5_show_5 : decode cX5_show 5 = .ok (.getfield 208, 3) := by decide +kernel
theorem dX5_show_8 : decode cX5_show 8 = .ok (.invokevirtual 211, 3) := by decide +kernel
theorem dX5_show_11 : decode cX5_show 11 = .ok (.astore_n 1, 1) := by decide +kernel
theorem dX5_show_12 : decode cX5_show 12 = .ok (.aload_n 1, 1) := by decide +kernel
theorem dX5_show_13 : decode cX5_show 13 = .ok (.ifnonnull 13, 3) := by decide +kernel
theorem dX5_show_16 : decode cX5_show 16 = .ok (.new 214, 3) := by decide +kernel
theorem dX5_show_19 : decode cX5_show 19 = .ok (.dup, 1) := by decide +kernel
theorem dX5_show_20 : decode cX5_show 20 = .ok (.ldc 216, 2) := by decide +kernel
theorem dX5_show_22 : decode cX5_show 22 = .ok (.invokespecial 218, 3) := by decide +kernel
theorem dX5_show_25 : decode cX5_show 25 = .ok (.athrow, 1) := by decide +kernel
theorem dX5_show_26 : decode cX5_show 26 = .ok (.aload_n 0, 1) := by decide +kernel
theorem dX5_show_27 : decode cX5_show 27 = .ok (.getfield 36, 3) := by decide +kernel
theorem dX5_show_30 : decode cX5_show 30 = .ok (.aload_n 1, 1) := by decide +kernel
theorem dX5_show_31 : decode cX5_show 31 = .ok (.invokevirtual 219, 3) := by decide +kernel
theorem dX5_show_34 : decode cX5_show 34 = .ok (.aload_n 0, 1) := by decide +kernel
theorem dX5_show_35 : decode cX5_show 35 = .ok (.getfield 36, 3) := by decide +kernel
theorem dX5_show_38 : decode cX5_show 38 = .ok (.invokevirtual 222, 3) := by decide +kernel
theorem dX5_show_41 : decode cX5_show 41 = .ok (.iconst 3, 1) := by decide +kernel
theorem dX5_show_42 : decode cX5_show 42 = .ok (.aload_n 1, 1) := by decide +kernel
theorem dX5_show_43 : decode cX5_show 43 = .ok (.invokevirtual 225, 3) := by decide +kernel
theorem dX5_show_46 : decode cX5_show 46 = .ok (.isub, 1) := by decide +kernel
theorem dX5_show_47 : decode cX5_show 47 = .ok (.ireturn, 1) := by decide +kernel
theorem dX5_shown_0 : decode cX5_shown 0 = .ok (.aload_n 0, 1) := by decide +kernel
theorem dX5_shown_1 : decode cX5_shown 1 = .ok (.getfield 36, 3) := by decide +kernel
theorem dX5_shown_4 : decode cX5_shown 4 = .ok (.getfield 208, 3) := by decide +kernel
theorem dX5_shown_7 : decode cX5_shown 7 = .ok (.ireturn, 1) := by decide +kernel
set_option maxRecDepth 20000 in
theorem ggX5_shownAt_X5_pointAt : GoodIn wsX5_shownAt wsX5_pointAt := goodIn_ca (goodIn_r _ [6, 7, 8, 5, 9, 10, 11] (by decide +kernel) (by decide +kernel)) (goodIn_sub (fun _ h => List.mem_cons_of_mem _ (List.mem_append_right _ h)) (by decide +kernel))
set_option maxRecDepth 20000 in
theorem gX5_shownAt_X5_pointAt : GoodIn wsX5_shownAt (va_wsS RX5 120 yX5_pointAt wsX5_pointAt) := goodIn_app (goodIn_of _ (by decide +kernel)) ggX5_shownAt_X5_pointAt
theorem dX5_shownAt_0 : decode cX5_shownAt 0 = .ok (.aload_n 0, 1) := by decide +kernel
theorem dX5_shownAt_1 : decode cX5_shownAt 1 = .ok (.getfield 36, 3) := by decide +kernel
theorem dX5_shownAt_4 : decode cX5_shownAt 4 = .ok (.getfield 228, 3) := by decide +kernel
theorem dX5_shownAt_7 : decode cX5_shownAt 7 = .ok (.iload_n 1, 1) := by decide +kernel
theorem dX5_shownAt_8 : decode cX5_shownAt 8 = .ok (.iload_n 2, 1) := by decide +kernel
theorem dX5_shownAt_9 : decode cX5_shownAt 9 = .ok (.invokestatic 120, 3) := by decide +kernel
theorem dX5_shownAt_12 : decode cX5_shownAt 12 = .ok (.iaload, 1) := by decide +kernel
theorem dX5_shownAt_13 : decode cX5_shownAt 13 = .ok (.ireturn, 1) := by decide +kernel
set_option maxRecDepth 20000 in
theorem ggX5_drift_X5_pictureOrNull : GoodIn wsX5_drift wsX5_pictureOrNull := goodIn_r _ [9, 10, 11, 19, 20, 21, 22, 23, 24, 25, 26, 27, 28, 29, 30, 31, 32] (by decide +kernel) (by decide +kernel)
set_option maxRecDepth 20000 in
theorem gX5_drift_X5_pictureOrNull : GoodIn wsX5_drift (wsV RX5 211 RX5 yX5_pictureOrNull wsX5_pictureOrNull) := goodIn_app (goodIn_of _ (by decide +kernel)) ggX5_drift_X5_pictureOrNull
set_option maxRecDepth 20000 in
theorem ggX5_drift_X5_distance : GoodIn wsX5_drift wsX5_distance := goodIn_r _ [14, 15, 16, 17, 18] (by decide +kernel) (by decide +kernel)
set_option maxRecDepth 20000 in
theorem gX5_drift_X5_distance : GoodIn wsX5_drift (va_wsS RX5 231 yX5_distance wsX5_distance) := goodIn_app (goodIn_of _ (by decide +kernel)) ggX5_drift_X5_distance
theorem dX5_drift_0 : decode cX5_drift 0 = .ok (.aload_n 0, 1) := by decide +kernel
theorem dX5_drift_1 : decode cX5_drift 1 = .ok (.aload_n 0, 1) := by decide +kernel
theorem dX5_drift_2 : decode cX5_drift 2 = .ok (.getfield 36, 3) := by decide +kernel
theorem dX5_drift_5 : decode cX5_drift 5 = .ok (.getfield 208, 3) := by decide +kernel
theorem dX5_drift_8 : decode cX5_drift 8 = .ok (.iconst 1, 1) := by decide +kernel
theorem dX5_drift_9 : decode cX5_drift 9 = .ok (.isub, 1) := by decide +kernel
theorem dX5_drift_10 : decode cX5_drift 10 = .ok (.invokevirtual 211, 3) := by decide +kernel
theorem dX5_drift_13 : decode cX5_drift 13 = .ok (.astore_n 1, 1) := by decide +kernel
theorem dX5_drift_14 : decode cX5_drift 14 = .ok (.aload_n 1, 1) := by decide +kernel
theorem dX5_drift_15 : decode cX5_drift 15 = .ok (.ifnonnull 7, 3) := by decide +kernel
theorem dX5_drift_18 : decode cX5_drift 18 = .ok (.iconst 0, 1) := by decide +kernel
theorem dX5_drift_19 : decode cX5_drift 19 = .ok (.goto 17, 3) := by decide +kernel
theorem dX5_drift_22 : decode cX5_drift 22 = .ok (.aload_n 0, 1) := by decide +kernel
theorem dX5_drift_23 : decode cX5_drift 23 = .ok (.getfield 36, 3) := by decide +kernel
theorem dX5_drift_26 : decode cX5_drift 26 = .ok (.getfield 228, 3) := by decide +kernel
theorem dX5_drift_29 : decode cX5_drift 29 = .ok (.aload_n 1, 1) := by decide +kernel
theorem dX5_drift_30 : decode cX5_drift 30 = .ok (.getfield 186, 3) := by decide +kernel
theorem dX5_drift_33 : decode cX5_drift 33 = .ok (.invokestatic 231, 3) := by decide +kernel
theorem dX5_drift_36 : decode cX5_drift 36 = .ok (.ireturn, 1) := by decide +kernel
set_option maxRecDepth 20000 in
theorem ggX5_bytesWith_X5_isWithin : GoodIn wsX5_bytesWith wsX5_isWithin := goodIn_r _ [8] (by decide +kernel) (by decide +kernel)
set_option maxRecDepth 20000 in
theorem gX5_bytesWith_X5_isWithin : GoodIn wsX5_bytesWith (va_wsS RX5 71 yX5_isWithin wsX5_isWithin) := goodIn_app (goodIn_of _ (by decide +kernel)) ggX5_bytesWith_X5_isWithin
set_option maxRecDepth 20000 in
theorem ggX5_bytesWith_X5_refuseIfFull : GoodIn wsX5_bytesWith wsX5_refuseIfFull := goodIn_ca (goodIn_r _ [12, 13, 14, 15, 274, 275, 276, 277, 278, 279, 280, 281, 282, 283, 284, 285, 286, 287] (by decide +kernel) (by decide +kernel)) (goodIn_sub (fun _ h => List.mem_cons_of_mem _ (List.mem_append_right _ h)) (by decide +kernel))
set_option maxRecDepth 20000 in
theorem gX5_bytesWith_X5_refuseIfFull : GoodIn wsX5_bytesWith (wsV RX5 133 RX5 yX5_refuseIfFull wsX5_refuseIfFull) := goodIn_app (goodIn_of _ (by decide +kernel)) ggX5_bytesWith_X5_refuseIfFull
set_option maxRecDepth 20000 in
theorem ggX5_bytesWith_X5_draftNext : GoodIn wsX5_bytesWith wsX5_draftNext := goodIn_r _ [19, 15, 20, 21, 22, 4, 23, 24, 25, 26, 27, 28, 29, 30, 31, 7, 32, 33, 34, 35, 36, 37, 38, 39, 40, 41, 42, 43, 44, 45, 46, 47, 48, 49, 50, 51, 52, 53, 54, 55, 56, 57, 58, 59, 60, 61, 62, 63, 64, 65, 66, 67, 68, 69, 70, 71, 72, 73, 74, 75, 76, 77, 78, 79, 80, 81, 82, 83, 84, 85, 86, 87, 88, 89, 90, 91, 92, 93, 94, 95, 96, 97, 98, 99, 100, 101, 102, 103, 104, 105, 106, 107, 108, 109, 110, 111, 112, 113, 114, 115, 116, 117, 118, 119, 120, 121, 122, 123, 124, 6, 8, 125, 126, 127, 128, 129, 130, 131, 132, 133, 134, 135, 136, 137, 138, 139, 140, 141, 142, 143, 144, 145, 146, 147, 148, 149, 150, 151, 152, 153, 154, 155, 156, 157, 158, 159, 160, 161, 162, 163, 164, 165, 166, 167, 168, 169, 170, 171, 172, 173, 174, 175, 176, 177, 178, 179, 180, 181, 182, 183, 184, 185, 186, 187, 188, 189, 190, 191, 192, 193, 194, 195, 196, 197, 198, 199, 200, 201, 202, 203, 204, 274, 275, 276, 277, 278, 279, 280, 281, 282, 283, 284, 285, 286, 287, 288, 289, 290, 291, 292, 293, 294, 295, 296, 297, 298, 299, 300, 301, 302, 303, 304, 305, 306, 307, 308, 309, 310] (by decide +kernel) (by decide +kernel)
set_option maxRecDepth 20000 in
theorem gX5_bytesWith_X5_draftNext : GoodIn wsX5_bytesWith (wsV RX5 136 RX5 yX5_draftNext wsX5_draftNext) := goodIn_app (goodIn_of _ (by decide +kernel)) ggX5_bytesWith_X5_draftNext
set_option maxRecDepth 20000 in
theorem ggX5_bytesWith_X1_write : GoodIn wsX5_bytesWith wsX1_write := goodIn_r _ [209, 210, 211, 212, 213, 144, 145, 146, 214, 215, 216, 208, 217, 218, 219, 220, 221, 222, 223, 224, 225, 226, 227, 228, 229, 230, 231, 232, 233, 234, 235, 236, 237, 238, 239, 240, 241, 242, 243, 244, 94, 95, 96, 97, 98, 99, 7, 100, 245, 246, 247, 248, 249, 250, 251, 102, 103, 104, 105, 252, 253, 254, 255, 256, 257, 258, 259, 260, 261, 262, 263, 264, 311, 312, 313, 314, 293, 294, 295, 296, 297, 298, 299, 300, 301, 302, 303, 304, 305, 306] (by decide +kernel) (by decide +kernel)
set_option maxRecDepth 20000 in
theorem gX5_bytesWith_X1_write : GoodIn wsX5_bytesWith (wsV RX5 140 RX1 yX1_write wsX1_write) := goodIn_app (goodIn_of _ (by decide +kernel)) ggX5_bytesWith_X1_write
set_option maxRecDepth 20000 in
theorem ggX5_bytesWith_X2_bytesInAll : GoodIn wsX5_bytesWith wsX2_bytesInAll := goodIn_r _ [268, 269, 270, 271, 96, 272, 273, 261, 262, 263, 264, 293, 294, 295, 296, 297, 298, 299, 300, 301, 302, 303, 304, 305, 306] (by decide +kernel) (by decide +kernel)
set_option maxRecDepth 20000 in
theorem gX5_bytesWith_X2_bytesInAll : GoodIn wsX5_bytesWith (wsV RX5 144 RX2 yX2_bytesInAll wsX2_bytesInAll) := goodIn_app (goodIn_of _ (by decide +kernel)) ggX5_bytesWith_X2_bytesInAll
theorem dX5_bytesWith_0 : decode cX5_bytesWith 0 = .ok (.iload_n 1, 1) := by decide +kernel
theorem dX5_bytesWith_1 : decode cX5_bytesWith 1 = .ok (.iconst 1, 1) := by decide +kernel
theorem dX5_bytesWith_2 : decode cX5_bytesWith 2 = .ok (.bipush 60, 2) := by decide +kernel
theorem dX5_bytesWith_4 : decode cX5_bytesWith 4 = .ok (.invokestatic 71, 3) := by decide +kernel
theorem dX5_bytesWith_7 : decode cX5_bytesWith 7 = .ok (.ifCond .ne 13, 3) := by decide +kernel
theorem dX5_bytesWith_10 : decode cX5_bytesWith 10 = .ok (.new 75, 3) := by decide +kernel
theorem dX5_bytesWith_13 : decode cX5_bytesWith 13 = .ok (.dup, 1) := by decide +kernel
theorem dX5_bytesWith_14 : decode cX5_bytesWith 14 = .ok (.ldc 123, 2) := by decide +kernel
theorem dX5_bytesWith_16 : decode cX5_bytesWith 16 = .ok (.invokespecial 79, 3) := by decide +kernel
theorem dX5_bytesWith_19 : decode cX5_bytesWith 19 = .ok (.athrow, 1) := by decide +kernel
theorem dX5_bytesWith_20 : decode cX5_bytesWith 20 = .ok (.aload_n 0, 1) := by decide +kernel
theorem dX5_bytesWith_21 : decode cX5_bytesWith 21 = .ok (.invokevirtual 133, 3) := by decide +kernel
theorem dX5_bytesWith_24 : decode cX5_bytesWith 24 = .ok (.aload_n 0, 1) := by decide +kernel
theorem dX5_bytesWith_25 : decode cX5_bytesWith 25 = .ok (.iload_n 1, 1) := by decide +kernel
theorem dX5_bytesWith_26 : decode cX5_bytesWith 26 = .ok (.invokevirtual 136, 3) := by decide +kernel
theorem dX5_bytesWith_29 : decode cX5_bytesWith 29 = .ok (.aload_n 0, 1) := by decide +kernel
theorem dX5_bytesWith_30 : decode cX5_bytesWith 30 = .ok (.getfield 29, 3) := by decide +kernel
theorem dX5_bytesWith_33 : decode cX5_bytesWith 33 = .ok (.aload_n 0, 1) := by decide +kernel
theorem dX5_bytesWith_34 : decode cX5_bytesWith 34 = .ok (.getfield 44, 3) := by decide +kernel
theorem dX5_bytesWith_37 : decode cX5_bytesWith 37 = .ok (.invokevirtual 140, 3) := by decide +kernel
theorem dX5_bytesWith_40 : decode cX5_bytesWith 40 = .ok (.aload_n 0, 1) := by decide +kernel
theorem dX5_bytesWith_41 : decode cX5_bytesWith 41 = .ok (.getfield 44, 3) := by decide +kernel
theorem dX5_bytesWith_44 : decode cX5_bytesWith 44 = .ok (.invokevirtual 144, 3) := by decide +kernel
theorem dX5_bytesWith_47 : decode cX5_bytesWith 47 = .ok (.ireturn, 1) := by decide +kernel
set_option maxRecDepth 20000 in
theorem ggX5_priceOf_X5_placeIn : GoodIn wsX5_priceOf wsX5_placeIn := goodIn_ca (goodIn_r _ [7, 8, 9] (by decide +kernel) (by decide +kernel)) (goodIn_sub (fun _ h => List.mem_cons_of_mem _ (List.mem_append_left _ (List.mem_append_right _ h))) (by decide +kernel))
set_option maxRecDepth 20000 in
theorem gX5_priceOf_X5_placeIn : GoodIn wsX5_priceOf (va_wsS RX5 171 yX5_placeIn wsX5_placeIn) := goodIn_app (goodIn_of _ (by decide +kernel)) ggX5_priceOf_X5_placeIn
set_option maxRecDepth 20000 in
theorem ggX5_priceOf_X5_refuseIfFull : GoodIn wsX5_priceOf wsX5_refuseIfFull := goodIn_ca (goodIn_r _ [13, 14, 15, 16, 208, 209, 210, 211, 212, 213, 214, 215, 216, 217, 218, 219, 220, 221] (by decide +kernel) (by decide +kernel)) (goodIn_sub (fun _ h => List.mem_cons_of_mem _ (List.mem_append_right _ h)) (by decide +kernel))
set_option maxRecDepth 20000 in
theorem gX5_priceOf_X5_refuseIfFull : GoodIn wsX5_priceOf (wsV RX5 133 RX5 yX5_refuseIfFull wsX5_refuseIfFull) := goodIn_app (goodIn_of _ (by decide +kernel)) ggX5_priceOf_X5_refuseIfFull
set_option maxRecDepth 20000 in
theorem ggX5_priceOf_X5_draftNext : GoodIn wsX5_priceOf wsX5_draftNext := goodIn_r _ [20, 16, 21, 22, 23, 2, 24, 25, 26, 27, 28, 29, 30, 31, 32, 6, 33, 34, 35, 36, 37, 38, 39, 40, 41, 42, 43, 44, 45, 46, 47, 48, 49, 50, 51, 52, 53, 54, 55, 56, 57, 58, 59, 60, 61, 62, 63, 64, 65, 66, 67, 68, 69, 70, 71, 72, 73, 74, 75, 76, 77, 78, 79, 80, 81, 82, 83, 84, 85, 86, 87, 88, 89, 90, 91, 92, 93, 94, 95, 96, 97, 98, 99, 100, 101, 102, 103, 104, 105, 106, 107, 108, 109, 110, 111, 112, 113, 114, 115, 116, 117, 118, 119, 120, 121, 122, 123, 124, 125, 126, 127, 128, 129, 130, 131, 132, 133, 134, 135, 136, 137, 138, 139, 140, 141, 142, 143, 144, 145, 146, 147, 148, 149, 150, 151, 152, 153, 154, 155, 156, 157, 158, 159, 160, 161, 162, 163, 164, 165, 166, 167, 168, 169, 170, 171, 172, 173, 174, 175, 176, 177, 178, 179, 180, 181, 182, 183, 184, 185, 186, 187, 188, 189, 190, 191, 192, 193, 194, 195, 196, 197, 198, 199, 200, 201, 202, 203, 204, 205, 206, 207, 208, 209, 210, 211, 212, 213, 214, 215, 216, 217, 218, 219, 220, 221, 236, 237, 238, 239, 240, 222, 223, 224, 225, 226, 227, 228, 229, 230, 231, 232, 233, 234, 235, 241, 242, 243, 244] (by decide +kernel) (by decide +kernel)
set_option maxRecDepth 20000 in
theorem gX5_priceOf_X5_draftNext : GoodIn wsX5_priceOf (wsV RX5 136 RX5 yX5_draftNext wsX5_draftNext) := goodIn_app (goodIn_of _ (by decide +kernel)) ggX5_priceOf_X5_draftNext
theorem dX5_priceOf_0 : decode cX5_priceOf 0 = .ok (.iload_n 1, 1) := by decide +kernel
theorem dX5_priceOf_1 : decode cX5_priceOf 1 = .ok (.bipush 12, 2) := by decide +kernel
theorem dX5_priceOf_3 : decode cX5_priceOf 3 = .ok (.invokestatic 171, 3) := by decide +kernel
theorem dX5_priceOf_6 : decode cX5_priceOf 6 = .ok (.istore_n 2, 1) := by decide +kernel
theorem dX5_priceOf_7 : decode cX5_priceOf 7 = .ok (.aload_n 0, 1) := by decide +kernel
theorem dX5_priceOf_8 : decode cX5_priceOf 8 = .ok (.invokevirtual 133, 3) := by decide +kernel
theorem dX5_priceOf_11 : decode cX5_priceOf 11 = .ok (.aload_n 0, 1) := by decide +kernel
theorem dX5_priceOf_12 : decode cX5_priceOf 12 = .ok (.aload_n 0, 1) := by decide +kernel
theorem dX5_priceOf_13 : decode cX5_priceOf 13 = .ok (.getfield 55, 3) := by decide +kernel
theorem dX5_priceOf_16 : decode cX5_priceOf 16 = .ok (.invokevirtual 136, 3) := by decide +kernel
theorem dX5_priceOf_19 : decode cX5_priceOf 19 = .ok (.aload_n 0, 1) := by decide +kernel
theorem dX5_priceOf_20 : decode cX5_priceOf 20 = .ok (.getfield 44, 3) := by decide +kernel
theorem dX5_priceOf_23 : decode cX5_priceOf 23 = .ok (.getfield 239, 3) := by decide +kernel
theorem dX5_priceOf_26 : decode cX5_priceOf 26 = .ok (.iload_n 2, 1) := by decide +kernel
theorem dX5_priceOf_27 : decode cX5_priceOf 27 = .ok (.iaload, 1) := by decide +kernel
theorem dX5_priceOf_28 : decode cX5_priceOf 28 = .ok (.ireturn, 1) := by decide +kernel
set_option maxRecDepth 20000 in
theorem ggX5_driftNext_X5_pictureOrNull : GoodIn wsX5_driftNext wsX5_pictureOrNull := goodIn_r _ [10, 11, 12, 131, 132, 133, 134, 135, 136, 137, 138, 139, 140, 141, 142, 143, 144] (by decide +kernel) (by decide +kernel)
set_option maxRecDepth 20000 in
theorem gX5_driftNext_X5_pictureOrNull : GoodIn wsX5_driftNext (wsV RX5 211 RX5 yX5_pictureOrNull wsX5_pictureOrNull) := goodIn_app (goodIn_of _ (by decide +kernel)) ggX5_driftNext_X5_pictureOrNull
set_option maxRecDepth 20000 in
theorem ggX5_driftNext_X4_make : GoodIn wsX5_driftNext wsX4_make := goodIn_r _ [17, 18, 19, 20, 21, 22, 23, 24, 25, 26, 27, 28, 29, 30, 31, 32, 33, 9, 34, 35, 36, 37, 38, 39, 40, 41, 42, 43, 44, 45, 46, 47, 48, 49, 50, 51, 52, 53, 54, 55, 56, 57, 58, 59, 60, 61, 62, 63, 64, 65, 66, 67, 68, 69, 70, 71, 72, 73, 74, 75, 76, 77, 78, 79, 80, 81, 82, 83, 84, 85, 86, 87, 88, 89, 90, 91, 92, 93, 94, 95, 96, 97, 98, 99, 100, 101, 102, 103, 104, 16, 105, 106, 107, 108, 109, 110, 111, 112, 113, 114, 115, 116, 117, 118, 119, 120, 121, 122, 123, 124, 125, 126, 145, 146, 147, 152, 153, 154, 155, 156, 157, 158, 159, 160, 161, 162, 163, 164, 165, 148, 149, 150, 151] (by decide +kernel) (by decide +kernel)
set_option maxRecDepth 20000 in
theorem gX5_driftNext_X4_make : GoodIn wsX5_driftNext (wsV RX5 219 RX4 yX4_make wsX4_make) := goodIn_app (goodIn_of _ (by decide +kernel)) ggX5_driftNext_X4_make
set_option maxRecDepth 20000 in
theorem ggX5_driftNext_X5_distance : GoodIn wsX5_driftNext wsX5_distance := goodIn_r _ [129, 130, 125, 37, 126] (by decide +kernel) (by decide +kernel)
set_option maxRecDepth 20000 in
theorem gX5_driftNext_X5_distance : GoodIn wsX5_driftNext (va_wsS RX5 231 yX5_distance wsX5_distance) := goodIn_app (goodIn_of _ (by decide +kernel)) ggX5_driftNext_X5_distance
theorem dX5_driftNext_0 : decode cX5_driftNext 0 = .ok (.aload_n 0, 1) := by decide +kernel
theorem dX5_driftNext_1 : decode cX5_driftNext 1 = .ok (.aload_n 0, 1) := by decide +kernel
theorem dX5_driftNext_2 : decode cX5_driftNext 2 = .ok (.getfield 36, 3) := by decide +kernel
theorem dX5_driftNext_5 : decode cX5_driftNext 5 = .ok (.getfield 208, 3) := by decide +kernel
theorem dX5_driftNext_8 : decode cX5_driftNext 8 = .ok (.invokevirtual 211, 3) := by decide +kernel
theorem dX5_driftNext_11 : decode cX5_driftNext 11 = .ok (.astore_n 1, 1) := by decide +kernel
theorem dX5_driftNext_12 : decode cX5_driftNext 12 = .ok (.aload_n 1, 1) := by decide +kernel
theorem dX5_driftNext_13 : decode cX5_driftNext 13 = .ok (.ifnonnull 5, 3) := by decide +kernel
theorem dX5_driftNext_16 : decode cX5_driftNext 16 = .ok (.iconst (-1), 1) := by decide +kernel
theorem dX5_driftNext_17 : decode cX5_driftNext 17 = .ok (.ireturn, 1) := by decide +kernel
theorem dX5_driftNext_18 : decode cX5_driftNext 18 = .ok (.aload_n 0, 1) := by decide +kernel
theorem dX5_driftNext_19 : decode cX5_driftNext 19 = .ok (.getfield 36, 3) := by decide +kernel
theorem dX5_driftNext_22 : decode cX5_driftNext 22 = .ok (.aload_n 1, 1) := by decide +kernel
theorem dX5_driftNext_23 : decode cX5_driftNext 23 = .ok (.invokevirtual 219, 3) := by decide +kernel
theorem dX5_driftNext_26 : decode cX5_driftNext 26 = .ok (.aload_n 0, 1) := by decide +kernel
theorem dX5_driftNext_27 : decode cX5_driftNext 27 = .ok (.getfield 36, 3) := by decide +kernel
theorem dX5_driftNext_30 : decode cX5_driftNext 30 = .ok (.getfield 242, 3) := by decide +kernel
theorem dX5_driftNext_33 : decode cX5_driftNext 33 = .ok (.getfield 246, 3) := by decide +kernel
theorem dX5_driftNext_36 : decode cX5_driftNext 36 = .ok (.aload_n 1, 1) := by decide +kernel
theorem dX5_driftNext_37 : decode cX5_driftNext 37 = .ok (.getfield 186, 3) := by decide +kernel
theorem dX5_driftNext_40 : decode cX5_driftNext 40 = .ok (.invokestatic 231, 3) := by decide +kernel
theorem dX5_driftNext_43 : decode cX5_driftNext 43 = .ok (.ireturn, 1) := by decide +kernel
set_option maxRecDepth 20000 in
theorem ggX5_bytesOfAll_X5_pictureAt : GoodIn wsX5_bytesOfAll wsX5_pictureAt := goodIn_ca (goodIn_r _ [6, 7, 8, 9, 10, 11, 5, 12, 1, 13, 28, 29, 30, 31, 32, 33, 34, 35, 36, 37, 38, 39, 40, 41] (by decide +kernel) (by decide +kernel)) (goodIn_sub (fun _ h => List.mem_cons_of_mem _ (List.mem_append_right _ h)) (by decide +kernel))
set_option maxRecDepth 20000 in
theorem gX5_bytesOfAll_X5_pictureAt : GoodIn wsX5_bytesOfAll (wsV RX5 161 RX5 yX5_pictureAt wsX5_pictureAt) := goodIn_app (goodIn_of _ (by decide +kernel)) ggX5_bytesOfAll_X5_pictureAt
set_option maxRecDepth 20000 in
theorem ggX5_bytesOfAll_X2_bytesInAll : GoodIn wsX5_bytesOfAll wsX2_bytesInAll := goodIn_r _ [18, 19, 20, 21, 17, 22, 23, 24, 25, 26, 27, 42, 43, 44, 45, 46, 47, 48, 49, 50, 51, 52, 53, 54, 55] (by decide +kernel) (by decide +kernel)
set_option maxRecDepth 20000 in
theorem gX5_bytesOfAll_X2_bytesInAll : GoodIn wsX5_bytesOfAll (wsV RX5 144 RX2 yX2_bytesInAll wsX2_bytesInAll) := goodIn_app (goodIn_of _ (by decide +kernel)) ggX5_bytesOfAll_X2_bytesInAll
theorem dX5_bytesOfAll_0 : decode cX5_bytesOfAll 0 = .ok (.iconst 0, 1) := by decide +kernel
theorem dX5_bytesOfAll_1 : decode cX5_bytesOfAll 1 = .ok (.istore_n 1, 1) := by decide +kernel
theorem dX5_bytesOfAll_2 : decode cX5_bytesOfAll 2 = .ok (.iconst 0, 1) := by decide +kernel
theorem dX5_bytesOfAll_3 : decode cX5_bytesOfAll 3 = .ok (.istore_n 2, 1) := by decide +kernel
theorem dX5_bytesOfAll_4 : decode cX5_bytesOfAll 4 = .ok (.iload_n 2, 1) := by decide +kernel
theorem dX5_bytesOfAll_5 : decode cX5_bytesOfAll 5 = .ok (.aload_n 0, 1) := by decide +kernel
theorem dX5_bytesOfAll_6 : decode cX5_bytesOfAll 6 = .ok (.getfield 48, 3) := by decide +kernel
theorem dX5_bytesOfAll_9 : decode cX5_bytesOfAll 9 = .ok (.if_icmp .ge 20, 3) := by decide +kernel
theorem dX5_bytesOfAll_12 : decode cX5_bytesOfAll 12 = .ok (.iload_n 1, 1) := by decide +kernel
theorem dX5_bytesOfAll_13 : decode cX5_bytesOfAll 13 = .ok (.aload_n 0, 1) := by decide +kernel
theorem dX5_bytesOfAll_14 : decode cX5_bytesOfAll 14 = .ok (.iload_n 2, 1) := by decide +kernel
theorem dX5_bytesOfAll_15 : decode cX5_bytesOfAll 15 = .ok (.invokevirtual 161, 3) := by decide +kernel
theorem dX5_bytesOfAll_18 : decode cX5_bytesOfAll 18 = .ok (.invokevirtual 144, 3) := by decide +kernel
theorem dX5_bytesOfAll_21 : decode cX5_bytesOfAll 21 = .ok (.iadd, 1) := by decide +kernel
theorem dX5_bytesOfAll_22 : decode cX5_bytesOfAll 22 = .ok (.istore_n 1, 1) := by decide +kernel
theorem dX5_bytesOfAll_23 : decode cX5_bytesOfAll 23 = .ok (.iinc 2 1, 3) := by decide +kernel
theorem dX5_bytesOfAll_26 : decode cX5_bytesOfAll 26 = .ok (.goto (-22), 3) := by decide +kernel
theorem dX5_bytesOfAll_29 : decode cX5_bytesOfAll 29 = .ok (.iload_n 1, 1) := by decide +kernel
theorem dX5_bytesOfAll_30 : decode cX5_bytesOfAll 30 = .ok (.ireturn, 1) := by decide +kernel
set_option maxRecDepth 20000 in
theorem ggX5_meanError_X5_pictureAt : GoodIn wsX5_meanError wsX5_pictureAt := goodIn_ca (goodIn_r _ [7, 8, 9, 10, 11, 12, 6, 13, 1, 14, 15, 16, 17, 18, 19, 20, 21, 22, 23, 24, 25, 26, 27, 28] (by decide +kernel) (by decide +kernel)) (goodIn_sub (fun _ h => List.mem_cons_of_mem _ (List.mem_append_right _ h)) (by decide +kernel))
set_option maxRecDepth 20000 in
theorem gX5_meanError_X5_pictureAt : GoodIn wsX5_meanError (wsV RX5 161 RX5 yX5_pictureAt wsX5_pictureAt) := goodIn_app (goodIn_of _ (by decide +kernel)) ggX5_meanError_X5_pictureAt
theorem dX5_meanError_0 : decode cX5_meanError 0 = .ok (.aload_n 0, 1) := by decide +kernel
theorem dX5_meanError_1 : decode cX5_meanError 1 = .ok (.getfield 48, 3) := by decide +kernel
theorem dX5_meanError_4 : decode cX5_meanError 4 = .ok (.iconst 1, 1) := by decide +kernel
theorem dX5_meanError_5 : decode cX5_meanError 5 = .ok (.if_icmp .ge 5, 3) := by decide +kernel
theorem dX5_meanError_8 : decode cX5_meanError 8 = .ok (.dconst 0, 1) := by decide +kernel
theorem dX5_meanError_9 : decode cX5_meanError 9 = .ok (.dreturn, 1) := by decide +kernel
theorem dX5_meanError_10 : decode cX5_meanError 10 = .ok (.lconst 0, 1) := by decide +kernel
theorem dX5_meanError_11 : decode cX5_meanError 11 = .ok (.lstore_n 1, 1) := by decide +kernel
theorem dX5_meanError_12 : decode cX5_meanError 12 = .ok (.iconst 0, 1) := by decide +kernel
theorem dX5_meanError_13 : decode cX5_meanError 13 = .ok (.istore_n 3, 1) := by decide +kernel
theorem dX5_meanError_14 : decode cX5_meanError 14 = .ok (.iload_n 3, 1) := by decide +kernel
theorem dX5_meanError_15 : decode cX5_meanError 15 = .ok (.aload_n 0, 1) := by decide +kernel
theorem dX5_meanError_16 : decode cX5_meanError 16 = .ok (.getfield 48, 3) := by decide +kernel
theorem dX5_meanError_19 : decode cX5_meanError 19 = .ok (.if_icmp .ge 21, 3) := by decide +kernel
theorem dX5_meanError_22 : decode cX5_meanError 22 = .ok (.lload_n 1, 1) := by decide +kernel
theorem dX5_meanError_23 : decode cX5_meanError 23 = .ok (.aload_n 0, 1) := by decide +kernel
theorem dX5_meanError_24 : decode cX5_meanError 24 = .ok (.iload_n 3, 1) := by decide +kernel
theorem dX5_meanError_25 : decode cX5_meanError 25 = .ok (.invokevirtual 161, 3) := by decide +kernel
theorem dX5_meanError_28 : decode cX5_meanError 28 = .ok (.getfield 189, 3) := by decide +kernel
theorem dX5_meanError_31 : decode cX5_meanError 31 = .ok (.i2l, 1) := by decide +kernel
theorem dX5_meanError_32 : decode cX5_meanError 32 = .ok (.ladd, 1) := by decide +kernel
theorem dX5_meanError_33 : decode cX5_meanError 33 = .ok (.lstore_n 1, 1) := by decide +kernel
theorem dX5_meanError_34 : decode cX5_meanError 34 = .ok (.iinc 3 1, 3) := by decide +kernel
theorem dX5_meanError_37 : decode cX5_meanError 37 = .ok (.goto (-23), 3) := by decide +kernel
theorem dX5_meanError_40 : decode cX5_meanError 40 = .ok (.lload_n 1, 1) := by decide +kernel
theorem dX5_meanError_41 : decode cX5_meanError 41 = .ok (.l2d, 1) := by decide +kernel
theorem dX5_meanError_42 : decode cX5_meanError 42 = .ok (.aload_n 0, 1) := by decide +kernel
theorem dX5_meanError_43 : decode cX5_meanError 43 = .ok (.getfield 48, 3) := by decide +kernel
theorem dX5_meanError_46 : decode cX5_meanError 46 = .ok (.i2d, 1) := by decide +kernel
theorem dX5_meanError_47 : decode cX5_meanError 47 = .ok (.ddiv, 1) := by decide +kernel
theorem dX5_meanError_48 : decode cX5_meanError 48 = .ok (.dreturn, 1) := by decide +kernel
set_option maxRecDepth 20000 in
theorem ggX5_digest_X5_drift : GoodIn wsX5_digest wsX5_drift := goodIn_r _ [14, 5, 6, 9, 8, 15, 16, 17, 13, 18, 3, 19, 20, 21, 22, 23, 24, 25, 26, 76, 77, 78, 79, 80, 81, 82, 83, 84, 85, 86, 87, 88, 89, 90, 91, 92, 93, 94, 95, 96, 97, 98, 99, 100, 101, 102, 103, 104, 105, 106] (by decide +kernel) (by decide +kernel)
set_option maxRecDepth 20000 in
theorem gX5_digest_X5_drift : GoodIn wsX5_digest (wsV RX5 255 RX5 yX5_drift wsX5_drift) := goodIn_app (goodIn_of _ (by decide +kernel)) ggX5_digest_X5_drift
set_option maxRecDepth 20000 in
theorem ggX5_digest_X5_bytesOfAll : GoodIn wsX5_digest wsX5_bytesOfAll := goodIn_ca (goodIn_r _ [30, 3, 31, 32, 33, 13, 34, 35, 36, 15, 16, 17, 18, 19, 37, 38, 39, 40, 41, 42, 43, 44, 45, 46, 47, 48, 49, 50, 76, 77, 78, 79, 80, 81, 82, 83, 84, 85, 86, 87, 88, 89, 93, 94, 95, 96, 97, 98, 99, 100, 101, 102, 103, 104, 105, 106] (by decide +kernel) (by decide +kernel)) (goodIn_sub (fun _ h => List.mem_cons_of_mem _ (List.mem_append_right _ h)) (by decide +kernel))
set_option maxRecDepth 20000 in
theorem gX5_digest_X5_bytesOfAll : GoodIn wsX5_digest (wsV RX5 258 RX5 yX5_bytesOfAll wsX5_bytesOfAll) := goodIn_app (goodIn_of _ (by decide +kernel)) ggX5_digest_X5_bytesOfAll
set_option maxRecDepth 20000 in
theorem ggX5_digest_X5_pictureAt : GoodIn wsX5_digest wsX5_pictureAt := goodIn_ca (goodIn_r _ [34, 35, 36, 15, 16, 17, 13, 18, 3, 19, 76, 77, 78, 79, 80, 81, 82, 83, 84, 85, 86, 87, 88, 89] (by decide +kernel) (by decide +kernel)) (goodIn_sub (fun _ h => List.mem_cons_of_mem _ (List.mem_append_right _ h)) (by decide +kernel))
set_option maxRecDepth 20000 in
theorem gX5_digest_X5_pictureAt : GoodIn wsX5_digest (wsV RX5 161 RX5 yX5_pictureAt wsX5_pictureAt) := goodIn_app (goodIn_of _ (by decide +kernel)) ggX5_digest_X5_pictureAt
set_option maxRecDepth 20000 in
theorem ggX5_digest_X2_digestOn : GoodIn wsX5_digest wsX2_digestOn := goodIn_r _ [54, 55, 56, 57, 58, 59, 60, 61, 62, 63, 64, 40, 65, 66, 67, 68, 69, 70, 50, 71, 72, 46, 47, 48, 49, 42, 43, 44, 45, 93, 94, 95, 96, 97, 98, 99, 100, 101, 102, 103, 104, 105, 106] (by decide +kernel) (by decide +kernel)
set_option maxRecDepth 20000 in
theorem gX5_digest_X2_digestOn : GoodIn wsX5_digest (wsV RX5 261 RX2 yX2_digestOn wsX2_digestOn) := goodIn_app (goodIn_of _ (by decide +kernel)) ggX5_digest_X2_digestOn
set_option maxRecDepth 20000 in
theorem ggX5_digest_X5_digestPoints : GoodIn wsX5_digest wsX5_digestPoints := goodIn_r _ [75, 2] (by decide +kernel) (by decide +kernel)
set_option maxRecDepth 20000 in
theorem gX5_digest_X5_digestPoints : GoodIn wsX5_digest (va_wsS RX5 265 yX5_digestPoints wsX5_digestPoints) := goodIn_app (goodIn_of _ (by decide +kernel)) ggX5_digest_X5_digestPoints
set_option maxRecDepth 20000 in
theorem ggX5_digest_X5_pictureOrNull : GoodIn wsX5_digest wsX5_pictureOrNull := goodIn_r _ [18, 3, 19, 76, 77, 78, 79, 80, 81, 82, 83, 84, 85, 86, 87, 88, 89] (by decide +kernel) (by decide +kernel)
set_option maxRecDepth 20000 in
theorem gX5_digest_X5_pictureOrNull : GoodIn wsX5_digest (wsV RX5 211 RX5 yX5_pictureOrNull wsX5_pictureOrNull) := goodIn_app (goodIn_of _ (by decide +kernel)) ggX5_digest_X5_pictureOrNull
theorem dX5_digest_0 : decode cX5_digest 0 = .ok (.ldc2_w 251, 3) := by decide +kernel
theorem dX5_digest_3 : decode cX5_digest 3 = .ok (.lstore_n 1, 1) := by decide +kernel
theorem dX5_digest_4 : decode cX5_digest 4 = .ok (.lload_n 1, 1) := by decide +kernel
theorem dX5_digest_5 : decode cX5_digest 5 = .ok (.ldc2_w 253, 3) := by decide +kernel
theorem dX5_digest_8 : decode cX5_digest 8 = .ok (.lmul, 1) := by decide +kernel
theorem dX5_digest_9 : decode cX5_digest 9 = .ok (.aload_n 0, 1) := by decide +kernel
theorem dX5_digest_10 : decode cX5_digest 10 = .ok (.getfield 48, 3) := by decide +kernel
theorem dX5_digest_13 : decode cX5_digest 13 = .ok (.i2l, 1) := by decide +kernel
theorem dX5_digest_14 : decode cX5_digest 14 = .ok (.ladd, 1) := by decide +kernel
theorem dX5_digest_15 : decode cX5_digest 15 = .ok (.lstore_n 1, 1) := by decide +kernel
theorem dX5_digest_16 : decode cX5_digest 16 = .ok (.lload_n 1, 1) := by decide +kernel
theorem dX5_digest_17 : decode cX5_digest 17 = .ok (.ldc2_w 253, 3) := by decide +kernel
theorem dX5_digest_20 : decode cX5_digest 20 = .ok (.lmul, 1) := by decide +kernel
theorem dX5_digest_21 : decode cX5_digest 21 = .ok (.aload_n 0, 1) := by decide +kernel
theorem dX5_digest_22 : decode cX5_digest 22 = .ok (.getfield 55, 3) := by decide +kernel
theorem dX5_digest_25 : decode cX5_digest 25 = .ok (.i2l, 1) := by decide +kernel
theorem dX5_digest_26 : decode cX5_digest 26 = .ok (.ladd, 1) := by decide +kernel
theorem dX5_digest_27 : decode cX5_digest 27 = .ok (.lstore_n 1, 1) := by decide +kernel
theorem dX5_digest_28 : decode cX5_digest 28 = .ok (.lload_n 1, 1) := by decide +kernel
theorem dX5_digest_29 : decode cX5_digest 29 = .ok (.ldc2_w 253, 3) := by decide +kernel
theorem dX5_digest_32 : decode cX5_digest 32 = .ok (.lmul, 1) := by decide +kernel
theorem dX5_digest_33 : decode cX5_digest 33 = .ok (.aload_n 0, 1) := by decide +kernel
theorem dX5_digest_34 : decode cX5_digest 34 = .ok (.getfield 36, 3) := by decide +kernel
theorem dX5_digest_37 : decode cX5_digest 37 = .ok (.getfield 208, 3) := by decide +kernel
theorem dX5_digest_40 : decode cX5_digest 40 = .ok (.i2l, 1) := by decide +kernel
theorem dX5_digest_41 : decode cX5_digest 41 = .ok (.ladd, 1) := by decide +kernel
theorem dX5_digest_42 : decode cX5_digest 42 = .ok (.lstore_n 1, 1) := by decide +kernel
theorem dX5_digest_43 : decode cX5_digest 43 = .ok (.lload_n 1, 1) := by decide +kernel
theorem dX5_digest_44 : decode cX5_digest 44 = .ok (.ldc2_w 253, 3) := by decide +kernel
theorem dX5_digest_47 : decode cX5_digest 47 = .ok (.lmul, 1) := by decide +kernel
theorem dX5_digest_48 : decode cX5_digest 48 = .ok (.aload_n 0, 1) := by decide +kernel
theorem dX5_digest_49 : decode cX5_digest 49 = .ok (.invokevirtual 255, 3) := by decide +kernel
theorem dX5_digest_52 : decode cX5_digest 52 = .ok (.i2l, 1) := by decide +kernel
theorem dX5_digest_53 : decode cX5_digest 53 = .ok (.ladd, 1) := by decide +kernel
theorem dX5_digest_54 : decode cX5_digest 54 = .ok (.lstore_n 1, 1) := by decide +kernel
theorem dX5_digest_55 : decode cX5_digest 55 = .ok (.lload_n 1, 1) := by decide +kernel
theorem dX5_digest_56 : decode cX5_digest 56 = .ok (.ldc2_w 253, 3) := by decide +kernel
theorem dX5_digest_59 : decode cX5_digest 59 = .ok (.lmul, 1) := by decide +kernel
theorem dX5_digest_60 : decode cX5_digest 60 = .ok (.aload_n 0, 1) := by decide +kernel
theorem dX5_digest_61 : decode cX5_digest 61 = .ok (.invokevirtual 258, 3) := by decide +kernel
theorem dX5_digest_64 : decode cX5_digest 64 = .ok (.i2l, 1) := by decide +kernel
theorem dX5_digest_65 : decode cX5_digest 65 = .ok (.ladd, 1) := by decide +kernel
theorem dX5_digest_66 : decode cX5_digest 66 = .ok (.lstore_n 1, 1) := by decide +kernel
theorem dX5_digest_67 : decode cX5_digest 67 = .ok (.iconst 0, 1) := by decide +kernel
theorem dX5_digest_68 : decode cX5_digest 68 = .ok (.istore_n 3, 1) := by decide +kernel
theorem dX5_digest_69 : decode cX5_digest 69 = .ok (.iload_n 3, 1) := by decide +kernel
theorem dX5_digest_70 : decode cX5_digest 70 = .ok (.aload_n 0, 1) := by decide +kernel
theorem dX5_digest_71 : decode cX5_digest 71 = .ok (.getfield 48, 3) := by decide +kernel
theorem dX5_digest_74 : decode cX5_digest 74 = .ok (.if_icmp .ge 19, 3) := by decide +kernel
theorem dX5_digest_77 : decode cX5_digest 77 = .ok (.aload_n 0, 1) := by decide +kernel
theorem dX5_digest_78 : decode cX5_digest 78 = .ok (.iload_n 3, 1) := by decide +kernel
theorem dX5_digest_79 : decode cX5_digest 79 = .ok (.invokevirtual 161, 3) := by decide +kernel
theorem dX5_digest_82 : decode cX5_digest 82 = .ok (.lload_n 1, 1) := by decide +kernel
theorem dX5_digest_83 : decode cX5_digest 83 = .ok (.invokevirtual 261, 3) := by decide +kernel
theorem dX5_digest_86 : decode cX5_digest 86 = .ok (.lstore_n 1, 1) := by decide +kernel
theorem dX5_digest_87 : decode cX5_digest 87 = .ok (.iinc 3 1, 3) := by decide +kernel
theorem dX5_digest_90 : decode cX5_digest 90 = .ok (.goto (-21), 3) := by decide +kernel
theorem dX5_digest_93 : decode cX5_digest 93 = .ok (.lload_n 1, 1) := by decide +kernel
theorem dX5_digest_94 : decode cX5_digest 94 = .ok (.aload_n 0, 1) := by decide +kernel
theorem dX5_digest_95 : decode cX5_digest 95 = .ok (.getfield 9, 3) := by decide +kernel
theorem dX5_digest_98 : decode cX5_digest 98 = .ok (.invokestatic 265, 3) := by decide +kernel
theorem dX5_digest_101 : decode cX5_digest 101 = .ok (.lstore_n 1, 1) := by decide +kernel
theorem dX5_digest_102 : decode cX5_digest 102 = .ok (.aload_n 0, 1) := by decide +kernel
theorem dX5_digest_103 : decode cX5_digest 103 = .ok (.aload_n 0, 1) := by decide +kernel
theorem dX5_digest_104 : decode cX5_digest 104 = .ok (.getfield 48, 3) := by decide +kernel
theorem dX5_digest_107 : decode cX5_digest 107 = .ok (.iconst 1, 1) := by decide +kernel
theorem dX5_digest_108 : decode cX5_digest 108 = .ok (.isub, 1) := by decide +kernel
theorem dX5_digest_109 : decode cX5_digest 109 = .ok (.invokevirtual 211, 3) := by decide +kernel
theorem dX5_digest_112 : decode cX5_digest 112 = .ok (.astore_n 3, 1) := by decide +kernel
theorem dX5_digest_113 : decode cX5_digest 113 = .ok (.aload_n 3, 1) := by decide +kernel
theorem dX5_digest_114 : decode cX5_digest 114 = .ok (.ifnull 12, 3) := by decide +kernel
theorem dX5_digest_117 : decode cX5_digest 117 = .ok (.lload_n 1, 1) := by decide +kernel
theorem dX5_digest_118 : decode cX5_digest 118 = .ok (.aload_n 3, 1) := by decide +kernel
theorem dX5_digest_119 : decode cX5_digest 119 = .ok (.getfield 186, 3) := by decide +kernel
theorem dX5_digest_122 : decode cX5_digest 122 = .ok (.invokestatic 265, 3) := by decide +kernel
theorem dX5_digest_125 : decode cX5_digest 125 = .ok (.lstore_n 1, 1) := by decide +kernel
theorem dX5_digest_126 : decode cX5_digest 126 = .ok (.lload_n 1, 1) := by decide +kernel
theorem dX5_digest_127 : decode cX5_digest 127 = .ok (.aload_n 0, 1) := by decide +kernel
theorem dX5_digest_128 : decode cX5_digest 128 = .ok (.getfield 36, 3) := by decide +kernel
theorem dX5_digest_131 : decode cX5_digest 131 = .ok (.getfield 228, 3) := by decide +kernel
theorem dX5_digest_134 : decode cX5_digest 134 = .ok (.invokestatic 265, 3) := by decide +kernel
theorem dX5_digest_137 : decode cX5_digest 137 = .ok (.lreturn, 1) := by decide +kernel
theorem dX5_isWithin_0 : decode cX5_isWithin 0 = .ok (.iload_n 0, 1) := by decide +kernel
theorem dX5_isWithin_1 : decode cX5_isWithin 1 = .ok (.iload_n 1, 1) := by decide +kernel
theorem dX5_isWithin_2 : decode cX5_isWithin 2 = .ok (.if_icmp .lt 12, 3) := by decide +kernel
theorem dX5_isWithin_5 : decode cX5_isWithin 5 = .ok (.iload_n 0, 1) := by decide +kernel
theorem dX5_isWithin_6 : decode cX5_isWithin 6 = .ok (.iload_n 2, 1) := by decide +kernel
theorem dX5_isWithin_7 : decode cX5_isWithin 7 = .ok (.if_icmp .gt 7, 3) := by decide +kernel
theorem dX5_isWithin_10 : decode cX5_isWithin 10 = .ok (.iconst 1, 1) := by decide +kernel
theorem dX5_isWithin_11 : decode cX5_isWithin 11 = .ok (.goto 4, 3) := by decide +kernel
theorem dX5_isWithin_14 : decode cX5_isWithin 14 = .ok (.iconst 0, 1) := by decide +kernel
theorem dX5_isWithin_15 : decode cX5_isWithin 15 = .ok (.ireturn, 1) := by decide +kernel
theorem dX5_clip_0 : decode cX5_clip 0 = .ok (.iload_n 0, 1) := by decide +kernel
theorem dX5_clip_1 : decode cX5_clip 1 = .ok (.ifCond .ge 7, 3) := by decide +kernel
theorem dX5_clip_4 : decode cX5_clip 4 = .ok (.iconst 0, 1) := by decide +kernel
theorem dX5_clip_5 : decode cX5_clip 5 = .ok (.goto 17, 3) := by decide +kernel
theorem dX5_clip_8 : decode cX5_clip 8 = .ok (.iload_n 0, 1) := by decide +kernel
theorem dX5_clip_9 : decode cX5_clip 9 = .ok (.sipush 255, 3) := by decide +kernel
theorem dX5_clip_12 : decode cX5_clip 12 = .ok (.if_icmp .le 9, 3) := by decide +kernel
theorem dX5_clip_15 : decode cX5_clip 15 = .ok (.sipush 255, 3) := by decide +kernel
theorem dX5_clip_18 : decode cX5_clip 18 = .ok (.goto 4, 3) := by decide +kernel
theorem dX5_clip_21 : decode cX5_clip 21 = .ok (.iload_n 0, 1) := by decide +kernel
theorem dX5_clip_22 : decode cX5_clip 22 = .ok (.ireturn, 1) := by decide +kernel
theorem dX5_onRow_0 : decode cX5_onRow 0 = .ok (.iconst 0, 1) := by decide +kernel
theorem dX5_onRow_1 : decode cX5_onRow 1 = .ok (.iload_n 0, 1) := by decide +kernel
theorem dX5_onRow_2 : decode cX5_onRow 2 = .ok (.iload_n 1, 1) := by decide +kernel
theorem dX5_onRow_3 : decode cX5_onRow 3 = .ok (.iconst 1, 1) := by decide +kernel
theorem dX5_onRow_4 : decode cX5_onRow 4 = .ok (.isub, 1) := by decide +kernel
theorem dX5_onRow_5 : decode cX5_onRow 5 = .ok (.invokestatic 92, 3) := by decide +kernel
theorem dX5_onRow_8 : decode cX5_onRow 8 = .ok (.invokestatic 86, 3) := by decide +kernel
theorem dX5_onRow_11 : decode cX5_onRow 11 = .ok (.ireturn, 1) := by decide +kernel
theorem dX5_placeIn_0 : decode cX5_placeIn 0 = .ok (.iload_n 0, 1) := by decide +kernel
theorem dX5_placeIn_1 : decode cX5_placeIn 1 = .ok (.ifCond .lt 8, 3) := by decide +kernel
theorem dX5_placeIn_4 : decode cX5_placeIn 4 = .ok (.iload_n 0, 1) := by decide +kernel
theorem dX5_placeIn_5 : decode cX5_placeIn 5 = .ok (.iload_n 1, 1) := by decide +kernel
theorem dX5_placeIn_6 : decode cX5_placeIn 6 = .ok (.if_icmp .lt 14, 3) := by decide +kernel
theorem dX5_placeIn_9 : decode cX5_placeIn 9 = .ok (.new 269, 3) := by decide +kernel
theorem dX5_placeIn_12 : decode cX5_placeIn 12 = .ok (.dup, 1) := by decide +kernel
theorem dX5_placeIn_13 : decode cX5_placeIn 13 = .ok (.ldc_w 271, 3) := by decide +kernel
theorem dX5_placeIn_16 : decode cX5_placeIn 16 = .ok (.invokespecial 273, 3) := by decide +kernel
theorem dX5_placeIn_19 : decode cX5_placeIn 19 = .ok (.athrow, 1) := by decide +kernel
theorem dX5_placeIn_20 : decode cX5_placeIn 20 = .ok (.iload_n 0, 1) := by decide +kernel
theorem dX5_placeIn_21 : decode cX5_placeIn 21 = .ok (.ireturn, 1) := by decide +kernel
set_option maxRecDepth 20000 in
theorem ggX5_pointAt_X5_placeIn : GoodIn wsX5_pointAt wsX5_placeIn := goodIn_ca (goodIn_r _ [4, 5, 6] (by decide +kernel) (by decide +kernel)) (goodIn_sub (fun _ h => List.mem_cons_of_mem _ (List.mem_append_right _ h)) (by decide +kernel))
set_option maxRecDepth 20000 in
theorem gX5_pointAt_X5_placeIn : GoodIn wsX5_pointAt (va_wsS RX5 171 yX5_placeIn wsX5_placeIn) := goodIn_app (goodIn_of _ (by decide +kernel)) ggX5_pointAt_X5_placeIn
theorem dX5_pointAt_0 : decode cX5_pointAt 0 = .ok (.iload_n 1, 1) := by decide +kernel
theorem dX5_pointAt_1 : decode cX5_pointAt 1 = .ok (.bipush 24, 2) := by decide +kernel
theorem dX5_pointAt_3 : decode cX5_pointAt 3 = .ok (.invokestatic 171, 3) := by decide +kernel
theorem dX5_pointAt_6 : decode cX5_pointAt 6 = .ok (.bipush 32, 2) := by decide +kernel
theorem dX5_pointAt_8 : decode cX5_pointAt 8 = .ok (.imul, 1) := by decide +kernel
theorem dX5_pointAt_9 : decode cX5_pointAt 9 = .ok (.iload_n 0, 1) := by decide +kernel
theorem dX5_pointAt_10 : decode cX5_pointAt 10 = .ok (.bipush 32, 2) := by decide +kernel
theorem dX5_pointAt_12 : decode cX5_pointAt 12 = .ok (.invokestatic 171, 3) := by decide +kernel
theorem dX5_pointAt_15 : decode cX5_pointAt 15 = .ok (.iadd, 1) := by decide +kernel
theorem dX5_pointAt_16 : decode cX5_pointAt 16 = .ok (.ireturn, 1) := by decide +kernel
theorem dX5_firstPointOf_0 : decode cX5_firstPointOf 0 = .ok (.iload_n 0, 1) := by decide +kernel
theorem dX5_firstPointOf_1 : decode cX5_firstPointOf 1 = .ok (.iconst 4, 1) := by decide +kernel
theorem dX5_firstPointOf_2 : decode cX5_firstPointOf 2 = .ok (.idiv, 1) := by decide +kernel
theorem dX5_firstPointOf_3 : decode cX5_firstPointOf 3 = .ok (.bipush 8, 2) := by decide +kernel
theorem dX5_firstPointOf_5 : decode cX5_firstPointOf 5 = .ok (.imul, 1) := by decide +kernel
theorem dX5_firstPointOf_6 : decode cX5_firstPointOf 6 = .ok (.bipush 32, 2) := by decide +kernel
theorem dX5_firstPointOf_8 : decode cX5_firstPointOf 8 = .ok (.imul, 1) := by decide +kernel
theorem dX5_firstPointOf_9 : decode cX5_firstPointOf 9 = .ok (.iload_n 0, 1) := by decide +kernel
theorem dX5_firstPointOf_10 : decode cX5_firstPointOf 10 = .ok (.iconst 4, 1) := by decide +kernel
theorem dX5_firstPointOf_11 : decode cX5_firstPointOf 11 = .ok (.irem, 1) := by decide +kernel
theorem dX5_firstPointOf_12 : decode cX5_firstPointOf 12 = .ok (.bipush 8, 2) := by decide +kernel
theorem dX5_firstPointOf_14 : decode cX5_firstPointOf 14 = .ok (.imul, 1) := by decide +kernel
theorem dX5_firstPointOf_15 : decode cX5_firstPointOf 15 = .ok (.iadd, 1) := by decide +kernel
theorem dX5_firstPointOf_16 : decode cX5_firstPointOf 16 = .ok (.ireturn, 1) := by decide +kernel
theorem dX5_isFirstOfBand_0 : decode cX5_isFirstOfBand 0 = .ok (.iload_n 0, 1) := by decide +kernel
theorem dX5_isFirstOfBand_1 : decode cX5_isFirstOfBand 1 = .ok (.iconst 4, 1) := by decide +kernel
theorem dX5_isFirstOfBand_2 : decode cX5_isFirstOfBand 2 = .ok (.irem, 1) := by decide +kernel
theorem dX5_isFirstOfBand_3 : decode cX5_isFirstOfBand 3 = .ok (.ifCond .ne 7, 3) := by decide +kernel
theorem dX5_isFirstOfBand_6 : decode cX5_isFirstOfBand 6 = .ok (.iconst 1, 1) := by decide +kernel
theorem dX5_isFirstOfBand_7 : decode cX5_isFirstOfBand 7 = .ok (.goto 4, 3) := by decide +kernel
theorem dX5_isFirstOfBand_10 : decode cX5_isFirstOfBand 10 = .ok (.iconst 0, 1) := by decide +kernel
theorem dX5_isFirstOfBand_11 : decode cX5_isFirstOfBand 11 = .ok (.ireturn, 1) := by decide +kernel
theorem dX5_folded_0 : decode cX5_folded 0 = .ok (.iload_n 0, 1) := by decide +kernel
theorem dX5_folded_1 : decode cX5_folded 1 = .ok (.ifCond .le 11, 3) := by decide +kernel
theorem dX5_folded_4 : decode cX5_folded 4 = .ok (.iconst 2, 1) := by decide +kernel
theorem dX5_folded_5 : decode cX5_folded 5 = .ok (.iload_n 0, 1) := by decide +kernel
theorem dX5_folded_6 : decode cX5_folded 6 = .ok (.imul, 1) := by decide +kernel
theorem dX5_folded_7 : decode cX5_folded 7 = .ok (.iconst 1, 1) := by decide +kernel
theorem dX5_folded_8 : decode cX5_folded 8 = .ok (.isub, 1) := by decide +kernel
theorem dX5_folded_9 : decode cX5_folded 9 = .ok (.goto 7, 3) := by decide +kernel
theorem dX5_folded_12 : decode cX5_folded 12 = .ok (.bipush (-2), 2) := by decide +kernel
theorem dX5_folded_14 : decode cX5_folded 14 = .ok (.iload_n 0, 1) := by decide +kernel
theorem dX5_folded_15 : decode cX5_folded 15 = .ok (.imul, 1) := by decide +kernel
theorem dX5_folded_16 : decode cX5_folded 16 = .ok (.ireturn, 1) := by decide +kernel
theorem dX5_distance_0 : decode cX5_distance 0 = .ok (.iconst 0, 1) := by decide +kernel
theorem dX5_distance_1 : decode cX5_distance 1 = .ok (.istore_n 2, 1) := by decide +kernel
theorem dX5_distance_2 : decode cX5_distance 2 = .ok (.iconst 0, 1) := by decide +kernel
theorem dX5_distance_3 : decode cX5_distance 3 = .ok (.istore_n 3, 1) := by decide +kernel
theorem dX5_distance_4 : decode cX5_distance 4 = .ok (.iload_n 3, 1) := by decide +kernel
theorem dX5_distance_5 : decode cX5_distance 5 = .ok (.sipush 768, 3) := by decide +kernel
theorem dX5_distance_8 : decode cX5_distance 8 = .ok (.if_icmp .ge 22, 3) := by decide +kernel
theorem dX5_distance_11 : decode cX5_distance 11 = .ok (.iload_n 2, 1) := by decide +kernel
theorem dX5_distance_12 : decode cX5_distance 12 = .ok (.aload_n 0, 1) := by decide +kernel
theorem dX5_distance_13 : decode cX5_distance 13 = .ok (.iload_n 3, 1) := by decide +kernel
theorem dX5_distance_14 : decode cX5_distance 14 = .ok (.iaload, 1) := by decide +kernel
theorem dX5_distance_15 : decode cX5_distance 15 = .ok (.aload_n 1, 1) := by decide +kernel
theorem dX5_distance_16 : decode cX5_distance 16 = .ok (.iload_n 3, 1) := by decide +kernel
theorem dX5_distance_17 : decode cX5_distance 17 = .ok (.iaload, 1) := by decide +kernel
theorem dX5_distance_18 : decode cX5_distance 18 = .ok (.isub, 1) := by decide +kernel
theorem dX5_distance_19 : decode cX5_distance 19 = .ok (.invokestatic 274, 3) := by decide +kernel
theorem dX5_distance_22 : decode cX5_distance 22 = .ok (.iadd, 1) := by decide +kernel
theorem dX5_distance_23 : decode cX5_distance 23 = .ok (.istore_n 2, 1) := by decide +kernel
theorem dX5_distance_24 : decode cX5_distance 24 = .ok (.iinc 3 1, 3) := by decide +kernel
theorem dX5_distance_27 : decode cX5_distance 27 = .ok (.goto (-23), 3) := by decide +kernel
theorem dX5_distance_30 : decode cX5_distance 30 = .ok (.iload_n 2, 1) := by decide +kernel
theorem dX5_distance_31 : decode cX5_distance 31 = .ok (.ireturn, 1) := by decide +kernel
theorem dX5_digestPoints_0 : decode cX5_digestPoints 0 = .ok (.lload_n 0, 1) := by decide +kernel
theorem dX5_digestPoints_1 : decode cX5_digestPoints 1 = .ok (.lstore_n 3, 1) := by decide +kernel
theorem dX5_digestPoints_2 : decode cX5_digestPoints 2 = .ok (.iconst 0, 1) := by decide +kernel
theorem dX5_digestPoints_3 : decode cX5_digestPoints 3 = .ok (.istore 5, 2) := by decide +kernel
theorem dX5_digestPoints_5 : decode cX5_digestPoints 5 = .ok (.iload 5, 2) := by decide +kernel
theorem dX5_digestPoints_7 : decode cX5_digestPoints 7 = .ok (.sipush 768, 3) := by decide +kernel
theorem dX5_digestPoints_10 : decode cX5_digestPoints 10 = .ok (.if_icmp .ge 21, 3) := by decide +kernel
theorem dX5_digestPoints_13 : decode cX5_digestPoints 13 = .ok (.lload_n 3, 1) := by decide +kernel
theorem dX5_digestPoints_14 : decode cX5_digestPoints 14 = .ok (.ldc2_w 253, 3) := by decide +kernel
theorem dX5_digestPoints_17 : decode cX5_digestPoints 17 = .ok (.lmul, 1) := by decide +kernel
theorem dX5_digestPoints_18 : decode cX5_digestPoints 18 = .ok (.aload_n 2, 1) := by decide +kernel
theorem dX5_digestPoints_19 : decode cX5_digestPoints 19 = .ok (.iload 5, 2) := by decide +kernel
theorem dX5_digestPoints_21 : decode cX5_digestPoints 21 = .ok (.iaload, 1) := by decide +kernel
theorem dX5_digestPoints_22 : decode cX5_digestPoints 22 = .ok (.i2l, 1) := by decide +kernel
theorem dX5_digestPoints_23 : decode cX5_digestPoints 23 = .ok (.ladd, 1) := by decide +kernel
theorem dX5_digestPoints_24 : decode cX5_digestPoints 24 = .ok (.lstore_n 3, 1) := by decide +kernel
theorem dX5_digestPoints_25 : decode cX5_digestPoints 25 = .ok (.iinc 5 1, 3) := by decide +kernel
theorem dX5_digestPoints_28 : decode cX5_digestPoints 28 = .ok (.goto (-23), 3) := by decide +kernel
theorem dX5_digestPoints_31 : decode cX5_digestPoints 31 = .ok (.lload_n 3, 1) := by decide +kernel
theorem dX5_digestPoints_32 : decode cX5_digestPoints 32 = .ok (.lreturn, 1) := by decide +kernel
theorem dX5_pictureOrNull_0 : decode cX5_pictureOrNull 0 = .ok (.iload_n 1, 1) := by decide +kernel
theorem dX5_pictureOrNull_1 : decode cX5_pictureOrNull 1 = .ok (.ifCond .lt 17, 3) := by decide +kernel
theorem dX5_pictureOrNull_4 : decode cX5_pictureOrNull 4 = .ok (.iload_n 1, 1) := by decide +kernel
theorem dX5_pictureOrNull_5 : decode cX5_pictureOrNull 5 = .ok (.aload_n 0, 1) := by decide +kernel
theorem dX5_pictureOrNull_6 : decode cX5_pictureOrNull 6 = .ok (.getfield 48, 3) := by decide +kernel
theorem dX5_pictureOrNull_9 : decode cX5_pictureOrNull 9 = .ok (.if_icmp .ge 9, 3) := by decide +kernel
theorem dX5_pictureOrNull_12 : decode cX5_pictureOrNull 12 = .ok (.iload_n 1, 1) := by decide +kernel
theorem dX5_pictureOrNull_13 : decode cX5_pictureOrNull 13 = .ok (.bipush 24, 2) := by decide +kernel
theorem dX5_pictureOrNull_15 : decode cX5_pictureOrNull 15 = .ok (.if_icmp .lt 7, 3) := by decide +kernel
theorem dX5_pictureOrNull_18 : decode cX5_pictureOrNull 18 = .ok (.aconst_null, 1) := by decide +kernel
theorem dX5_pictureOrNull_19 : decode cX5_pictureOrNull 19 = .ok (.goto 9, 3) := by decide +kernel
theorem dX5_pictureOrNull_22 : decode cX5_pictureOrNull 22 = .ok (.aload_n 0, 1) := by decide +kernel
theorem dX5_pictureOrNull_23 : decode cX5_pictureOrNull 23 = .ok (.getfield 15, 3) := by decide +kernel
theorem dX5_pictureOrNull_26 : decode cX5_pictureOrNull 26 = .ok (.iload_n 1, 1) := by decide +kernel
theorem dX5_pictureOrNull_27 : decode cX5_pictureOrNull 27 = .ok (.aaload, 1) := by decide +kernel
theorem dX5_pictureOrNull_28 : decode cX5_pictureOrNull 28 = .ok (.areturn, 1) := by decide +kernel
set_option maxRecDepth 20000 in
theorem ggX5_pictureAt_X5_pictureOrNull : GoodIn wsX5_pictureAt wsX5_pictureOrNull := goodIn_r _ [7, 8, 9, 10, 11, 12, 13, 14, 15, 16, 17, 18, 19, 20, 21, 22, 23] (by decide +kernel) (by decide +kernel)
set_option maxRecDepth 20000 in
theorem gX5_pictureAt_X5_pictureOrNull : GoodIn wsX5_pictureAt (wsV RX5 211 RX5 yX5_pictureOrNull wsX5_pictureOrNull) := goodIn_app (goodIn_of _ (by decide +kernel)) ggX5_pictureAt_X5_pictureOrNull
theorem dX5_pictureAt_0 : decode cX5_pictureAt 0 = .ok (.aload_n 0, 1) := by decide +kernel
theorem dX5_pictureAt_1 : decode cX5_pictureAt 1 = .ok (.iload_n 1, 1) := by decide +kernel
theorem dX5_pictureAt_2 : decode cX5_pictureAt 2 = .ok (.invokevirtual 211, 3) := by decide +kernel
theorem dX5_pictureAt_5 : decode cX5_pictureAt 5 = .ok (.astore_n 2, 1) := by decide +kernel
theorem dX5_pictureAt_6 : decode cX5_pictureAt 6 = .ok (.aload_n 2, 1) := by decide +kernel
theorem dX5_pictureAt_7 : decode cX5_pictureAt 7 = .ok (.ifnonnull 14, 3) := by decide +kernel
theorem dX5_pictureAt_10 : decode cX5_pictureAt 10 = .ok (.new 269, 3) := by decide +kernel
theorem dX5_pictureAt_13 : decode cX5_pictureAt 13 = .ok (.dup, 1) := by decide +kernel
theorem dX5_pictureAt_14 : decode cX5_pictureAt 14 = .ok (.ldc_w 277, 3) := by decide +kernel
theorem dX5_pictureAt_17 : decode cX5_pictureAt 17 = .ok (.invokespecial 273, 3) := by decide +kernel
theorem dX5_pictureAt_20 : decode cX5_pictureAt 20 = .ok (.athrow, 1) := by decide +kernel
theorem dX5_pictureAt_21 : decode cX5_pictureAt 21 = .ok (.aload_n 2, 1) := by decide +kernel
theorem dX5_pictureAt_22 : decode cX5_pictureAt 22 = .ok (.areturn, 1) := by decide +kernel
theorem dX5_refuseIfFull_0 : decode cX5_refuseIfFull 0 = .ok (.aload_n 0, 1) := by decide +kernel
theorem dX5_refuseIfFull_1 : decode cX5_refuseIfFull 1 = .ok (.getfield 48, 3) := by decide +kernel
theorem dX5_refuseIfFull_4 : decode cX5_refuseIfFull 4 = .ok (.bipush 24, 2) := by decide +kernel
theorem dX5_refuseIfFull_6 : decode cX5_refuseIfFull 6 = .ok (.if_icmp .lt 14, 3) := by decide +kernel
theorem dX5_refuseIfFull_9 : decode cX5_refuseIfFull 9 = .ok (.new 214, 3) := by decide +kernel
theorem dX5_refuseIfFull_12 : decode cX5_refuseIfFull 12 = .ok (.dup, 1) := by decide +kernel
theorem dX5_refuseIfFull_13 : decode cX5_refuseIfFull 13 = .ok (.ldc_w 279, 3) := by decide +kernel
theorem dX5_refuseIfFull_16 : decode cX5_refuseIfFull 16 = .ok (.invokespecial 218, 3) := by decide +kernel
theorem dX5_refuseIfFull_19 : decode cX5_refuseIfFull 19 = .ok (.athrow, 1) := by decide +kernel
theorem dX5_refuseIfFull_20 : decode cX5_refuseIfFull 20 = .ok (.return_, 1) := by decide +kernel
theorem dX5_isKeyDue_0 : decode cX5_isKeyDue 0 = .ok (.aload_n 0, 1) := by decide +kernel
theorem dX5_isKeyDue_1 : decode cX5_isKeyDue 1 = .ok (.getfield 48, 3) := by decide +kernel
theorem dX5_isKeyDue_4 : decode cX5_isKeyDue 4 = .ok (.ifCond .eq 23, 3) := by decide +kernel
theorem dX5_isKeyDue_7 : decode cX5_isKeyDue 7 = .ok (.aload_n 0, 1) := by decide +kernel
theorem dX5_isKeyDue_8 : decode cX5_isKeyDue 8 = .ok (.getfield 68, 3) := by decide +kernel
theorem dX5_isKeyDue_11 : decode cX5_isKeyDue 11 = .ok (.ifCond .ne 16, 3) := by decide +kernel
theorem dX5_isKeyDue_14 : decode cX5_isKeyDue 14 = .ok (.aload_n 0, 1) := by decide +kernel
theorem dX5_isKeyDue_15 : decode cX5_isKeyDue 15 = .ok (.getfield 52, 3) := by decide +kernel
theorem dX5_isKeyDue_18 : decode cX5_isKeyDue 18 = .ok (.aload_n 0, 1) := by decide +kernel
theorem dX5_isKeyDue_19 : decode cX5_isKeyDue 19 = .ok (.getfield 61, 3) := by decide +kernel
theorem dX5_isKeyDue_22 : decode cX5_isKeyDue 22 = .ok (.iconst 1, 1) := by decide +kernel
theorem dX5_isKeyDue_23 : decode cX5_isKeyDue 23 = .ok (.isub, 1) := by decide +kernel
theorem dX5_isKeyDue_24 : decode cX5_isKeyDue 24 = .ok (.if_icmp .lt 7, 3) := by decide +kernel
theorem dX5_isKeyDue_27 : decode cX5_isKeyDue 27 = .ok (.iconst 1, 1) := by decide +kernel
theorem dX5_isKeyDue_28 : decode cX5_isKeyDue 28 = .ok (.goto 4, 3) := by decide +kernel
theorem dX5_isKeyDue_31 : decode cX5_isKeyDue 31 = .ok (.iconst 0, 1) := by decide +kernel
theorem dX5_isKeyDue_32 : decode cX5_isKeyDue 32 = .ok (.ireturn, 1) := by decide +kernel
set_option maxRecDepth 20000 in
theorem ggX5_draftNext_X5_pictureOrNull : GoodIn wsX5_draftNext wsX5_pictureOrNull := goodIn_r _ [16, 1, 17, 191, 192, 193, 194, 195, 196, 197, 198, 199, 200, 201, 202, 203, 204] (by decide +kernel) (by decide +kernel)
set_option maxRecDepth 20000 in
theorem gX5_draftNext_X5_pictureOrNull : GoodIn wsX5_draftNext (wsV RX5 211 RX5 yX5_pictureOrNull wsX5_pictureOrNull) := goodIn_app (goodIn_of _ (by decide +kernel)) ggX5_draftNext_X5_pictureOrNull
set_option maxRecDepth 20000 in
theorem ggX5_draftNext_X3_lookAhead : GoodIn wsX5_draftNext wsX3_lookAhead := goodIn_r _ [22, 23, 24, 15, 25, 26, 27, 28, 29, 30, 31, 32, 224, 225, 226, 227] (by decide +kernel) (by decide +kernel)
set_option maxRecDepth 20000 in
theorem gX5_draftNext_X3_lookAhead : GoodIn wsX5_draftNext (wsV RX5 282 RX3 yX3_lookAhead wsX3_lookAhead) := goodIn_app (goodIn_of _ (by decide +kernel)) ggX5_draftNext_X3_lookAhead
set_option maxRecDepth 20000 in
theorem ggX5_draftNext_X5_isKeyDue : GoodIn wsX5_draftNext wsX5_isKeyDue := goodIn_r _ [36, 1, 37, 38, 39, 191, 192, 193, 194, 195, 196, 197, 198, 199, 200, 201, 202, 203, 204] (by decide +kernel) (by decide +kernel)
set_option maxRecDepth 20000 in
theorem gX5_draftNext_X5_isKeyDue : GoodIn wsX5_draftNext (wsV RX5 129 RX5 yX5_isKeyDue wsX5_isKeyDue) := goodIn_app (goodIn_of _ (by decide +kernel)) ggX5_draftNext_X5_isKeyDue
set_option maxRecDepth 20000 in
theorem ggX5_draftNext_X0_codeAll : GoodIn wsX5_draftNext wsX0_codeAll := goodIn_r _ [44, 45, 46, 47, 48, 49, 50, 51, 52, 53, 43, 54, 55, 56, 57, 58, 59, 60, 61, 62, 63, 64, 65, 66, 67, 68, 69, 70, 71, 72, 73, 74, 75, 28, 76, 77, 78, 79, 80, 81, 82, 83, 15, 84, 85, 86, 87, 88, 89, 90, 91, 92, 21, 93, 94, 95, 96, 97, 98, 99, 100, 101, 102, 103, 104, 23, 105, 106, 107, 108, 109, 110, 111, 112, 113, 114, 115, 116, 117, 118, 119, 120, 121, 122, 123, 124, 125, 126, 127, 128, 129, 130, 131, 132, 133, 134, 135, 136, 137, 138, 139, 140, 141, 142, 143, 144, 145, 146, 147, 148, 149, 150, 151, 152, 153, 154, 155, 156, 157, 158, 159, 160, 161, 162, 163, 164, 165, 166, 167, 168, 169, 170, 171, 172, 173, 174, 175, 176, 177, 178, 179, 180, 181, 210, 211, 212, 213, 214, 215, 216, 217, 218, 219, 220, 221, 222, 223, 205, 206, 207, 208, 209, 224, 225, 226, 227] (by decide +kernel) (by decide +kernel)
set_option maxRecDepth 20000 in
theorem gX5_draftNext_X0_codeAll : GoodIn wsX5_draftNext (wsV RX5 292 RX0 yX0_codeAll wsX0_codeAll) := goodIn_app (goodIn_of _ (by decide +kernel)) ggX5_draftNext_X0_codeAll
set_option maxRecDepth 20000 in
theorem ggX5_draftNext_X2_freshBlocks : GoodIn wsX5_draftNext wsX2_freshBlocks := goodIn_r _ [185, 186, 187, 188, 80, 189, 190, 210, 211, 212, 213, 214, 215, 216, 217, 218, 219, 220, 221, 222, 223] (by decide +kernel) (by decide +kernel)
set_option maxRecDepth 20000 in
theorem gX5_draftNext_X2_freshBlocks : GoodIn wsX5_draftNext (wsV RX5 296 RX2 yX2_freshBlocks wsX2_freshBlocks) := goodIn_app (goodIn_of _ (by decide +kernel)) ggX5_draftNext_X2_freshBlocks
theorem dX5_draftNext_0 : decode cX5_draftNext 0 = .ok (.aload_n 0, 1) := by decide +kernel
theorem dX5_draftNext_1 : decode cX5_draftNext 1 = .ok (.aload_n 0, 1) := by decide +kernel
theorem dX5_draftNext_2 : decode cX5_draftNext 2 = .ok (.getfield 48, 3) := by decide +kernel
theorem dX5_draftNext_5 : decode cX5_draftNext 5 = .ok (.iconst 1, 1) := by decide +kernel
theorem dX5_draftNext_6 : decode cX5_draftNext 6 = .ok (.isub, 1) := by decide +kernel
theorem dX5_draftNext_7 : decode cX5_draftNext 7 = .ok (.invokevirtual 211, 3) := by decide +kernel
theorem dX5_draftNext_10 : decode cX5_draftNext 10 = .ok (.astore_n 2, 1) := by decide +kernel
theorem dX5_draftNext_11 : decode cX5_draftNext 11 = .ok (.aload_n 2, 1) := by decide +kernel
theorem dX5_draftNext_12 : decode cX5_draftNext 12 = .ok (.ifnull 17, 3) := by decide +kernel
theorem dX5_draftNext_15 : decode cX5_draftNext 15 = .ok (.aload_n 0, 1) := by decide +kernel
theorem dX5_draftNext_16 : decode cX5_draftNext 16 = .ok (.getfield 22, 3) := by decide +kernel
theorem dX5_draftNext_19 : decode cX5_draftNext 19 = .ok (.getfield 281, 3) := by decide +kernel
theorem dX5_draftNext_22 : decode cX5_draftNext 22 = .ok (.aload_n 2, 1) := by decide +kernel
theorem dX5_draftNext_23 : decode cX5_draftNext 23 = .ok (.getfield 186, 3) := by decide +kernel
theorem dX5_draftNext_26 : decode cX5_draftNext 26 = .ok (.invokevirtual 282, 3) := by decide +kernel
theorem dX5_draftNext_29 : decode cX5_draftNext 29 = .ok (.aload_n 0, 1) := by decide +kernel
theorem dX5_draftNext_30 : decode cX5_draftNext 30 = .ok (.getfield 44, 3) := by decide +kernel
theorem dX5_draftNext_33 : decode cX5_draftNext 33 = .ok (.aload_n 0, 1) := by decide +kernel
theorem dX5_draftNext_34 : decode cX5_draftNext 34 = .ok (.getfield 48, 3) := by decide +kernel
theorem dX5_draftNext_37 : decode cX5_draftNext 37 = .ok (.putfield 286, 3) := by decide +kernel
theorem dX5_draftNext_40 : decode cX5_draftNext 40 = .ok (.aload_n 0, 1) := by decide +kernel
theorem dX5_draftNext_41 : decode cX5_draftNext 41 = .ok (.getfield 44, 3) := by decide +kernel
theorem dX5_draftNext_44 : decode cX5_draftNext 44 = .ok (.iload_n 1, 1) := by decide +kernel
theorem dX5_draftNext_45 : decode cX5_draftNext 45 = .ok (.putfield 165, 3) := by decide +kernel
theorem dX5_draftNext_48 : decode cX5_draftNext 48 = .ok (.aload_n 0, 1) := by decide +kernel
theorem dX5_draftNext_49 : decode cX5_draftNext 49 = .ok (.getfield 44, 3) := by decide +kernel
theorem dX5_draftNext_52 : decode cX5_draftNext 52 = .ok (.aload_n 0, 1) := by decide +kernel
theorem dX5_draftNext_53 : decode cX5_draftNext 53 = .ok (.getfield 64, 3) := by decide +kernel
theorem dX5_draftNext_56 : decode cX5_draftNext 56 = .ok (.putfield 289, 3) := by decide +kernel
theorem dX5_draftNext_59 : decode cX5_draftNext 59 = .ok (.aload_n 0, 1) := by decide +kernel
theorem dX5_draftNext_60 : decode cX5_draftNext 60 = .ok (.getfield 44, 3) := by decide +kernel
theorem dX5_draftNext_63 : decode cX5_draftNext 63 = .ok (.aload_n 2, 1) := by decide +kernel
theorem dX5_draftNext_64 : decode cX5_draftNext 64 = .ok (.ifnull 10, 3) := by decide +kernel
theorem dX5_draftNext_67 : decode cX5_draftNext 67 = .ok (.aload_n 0, 1) := by decide +kernel
theorem dX5_draftNext_68 : decode cX5_draftNext 68 = .ok (.invokevirtual 129, 3) := by decide +kernel
theorem dX5_draftNext_71 : decode cX5_draftNext 71 = .ok (.ifCond .eq 7, 3) := by decide +kernel
theorem dX5_draftNext_74 : decode cX5_draftNext 74 = .ok (.iconst 1, 1) := by decide +kernel
theorem dX5_draftNext_75 : decode cX5_draftNext 75 = .ok (.goto 4, 3) := by decide +kernel
theorem dX5_draftNext_78 : decode cX5_draftNext 78 = .ok (.iconst 0, 1) := by decide +kernel
theorem dX5_draftNext_79 : decode cX5_draftNext 79 = .ok (.putfield 155, 3) := by decide +kernel
theorem dX5_draftNext_82 : decode cX5_draftNext 82 = .ok (.aload_n 0, 1) := by decide +kernel
theorem dX5_draftNext_83 : decode cX5_draftNext 83 = .ok (.getfield 22, 3) := by decide +kernel
theorem dX5_draftNext_86 : decode cX5_draftNext 86 = .ok (.aload_n 0, 1) := by decide +kernel
theorem dX5_draftNext_87 : decode cX5_draftNext 87 = .ok (.getfield 44, 3) := by decide +kernel
theorem dX5_draftNext_90 : decode cX5_draftNext 90 = .ok (.aload_n 0, 1) := by decide +kernel
theorem dX5_draftNext_91 : decode cX5_draftNext 91 = .ok (.getfield 9, 3) := by decide +kernel
theorem dX5_draftNext_94 : decode cX5_draftNext 94 = .ok (.invokevirtual 292, 3) := by decide +kernel
theorem dX5_draftNext_97 : decode cX5_draftNext 97 = .ok (.aload_n 0, 1) := by decide +kernel
theorem dX5_draftNext_98 : decode cX5_draftNext 98 = .ok (.getfield 44, 3) := by decide +kernel
theorem dX5_draftNext_101 : decode cX5_draftNext 101 = .ok (.getfield 155, 3) := by decide +kernel
theorem dX5_draftNext_104 : decode cX5_draftNext 104 = .ok (.ifCond .ne 38, 3) := by decide +kernel
theorem dX5_draftNext_107 : decode cX5_draftNext 107 = .ok (.aload_n 0, 1) := by decide +kernel
theorem dX5_draftNext_108 : decode cX5_draftNext 108 = .ok (.getfield 44, 3) := by decide +kernel
theorem dX5_draftNext_111 : decode cX5_draftNext 111 = .ok (.invokevirtual 296, 3) := by decide +kernel
theorem dX5_draftNext_114 : decode cX5_draftNext 114 = .ok (.bipush 8, 2) := by decide +kernel
theorem dX5_draftNext_116 : decode cX5_draftNext 116 = .ok (.if_icmp .le 26, 3) := by decide +kernel
theorem dX5_draftNext_119 : decode cX5_draftNext 119 = .ok (.aload_n 0, 1) := by decide +kernel
theorem dX5_draftNext_120 : decode cX5_draftNext 120 = .ok (.getfield 44, 3) := by decide +kernel
theorem dX5_draftNext_123 : decode cX5_draftNext 123 = .ok (.iconst 1, 1) := by decide +kernel
theorem dX5_draftNext_124 : decode cX5_draftNext 124 = .ok (.putfield 155, 3) := by decide +kernel
theorem dX5_draftNext_127 : decode cX5_draftNext 127 = .ok (.aload_n 0, 1) := by decide +kernel
theorem dX5_draftNext_128 : decode cX5_draftNext 128 = .ok (.getfield 22, 3) := by decide +kernel
theorem dX5_draftNext_131 : decode cX5_draftNext 131 = .ok (.aload_n 0, 1) := by decide +kernel
theorem dX5_draftNext_132 : decode cX5_draftNext 132 = .ok (.getfield 44, 3) := by decide +kernel
theorem dX5_draftNext_135 : decode cX5_draftNext 135 = .ok (.aload_n 0, 1) := by decide +kernel
theorem dX5_draftNext_136 : decode cX5_draftNext 136 = .ok (.getfield 9, 3) := by decide +kernel
theorem dX5_draftNext_139 : decode cX5_draftNext 139 = .ok (.invokevirtual 292, 3) := by decide +kernel
theorem dX5_draftNext_142 : decode cX5_draftNext 142 = .ok (.return_, 1) := by decide +kernel
set_option maxRecDepth 20000 in
theorem ggX5_steer_X2_bytesInAll : GoodIn wsX5_steer wsX2_bytesInAll := goodIn_r _ [15, 16, 17, 18, 14, 19, 20, 21, 22, 23, 24, 39, 40, 41, 42, 43, 44, 45, 46, 47, 48, 49, 50, 51, 52] (by decide +kernel) (by decide +kernel)
set_option maxRecDepth 20000 in
theorem gX5_steer_X2_bytesInAll : GoodIn wsX5_steer (wsV RX5 144 RX2 yX2_bytesInAll wsX2_bytesInAll) := goodIn_app (goodIn_of _ (by decide +kernel)) ggX5_steer_X2_bytesInAll
theorem dX5_steer_0 : decode cX5_steer 0 = .ok (.aload_n 0, 1) := by decide +kernel
theorem dX5_steer_1 : decode cX5_steer 1 = .ok (.getfield 58, 3) := by decide +kernel
theorem dX5_steer_4 : decode cX5_steer 4 = .ok (.ifCond .ne 4, 3) := by decide +kernel
theorem dX5_steer_7 : decode cX5_steer 7 = .ok (.return_, 1) := by decide +kernel
theorem dX5_steer_8 : decode cX5_steer 8 = .ok (.aload_n 1, 1) := by decide +kernel
theorem dX5_steer_9 : decode cX5_steer 9 = .ok (.invokevirtual 144, 3) := by decide +kernel
theorem dX5_steer_12 : decode cX5_steer 12 = .ok (.istore_n 2, 1) := by decide +kernel
theorem dX5_steer_13 : decode cX5_steer 13 = .ok (.aload_n 1, 1) := by decide +kernel
theorem dX5_steer_14 : decode cX5_steer 14 = .ok (.getfield 155, 3) := by decide +kernel
theorem dX5_steer_17 : decode cX5_steer 17 = .ok (.ifCond .eq 12, 3) := by decide +kernel
theorem dX5_steer_20 : decode cX5_steer 20 = .ok (.iconst 3, 1) := by decide +kernel
theorem dX5_steer_21 : decode cX5_steer 21 = .ok (.aload_n 0, 1) := by decide +kernel
theorem dX5_steer_22 : decode cX5_steer 22 = .ok (.getfield 58, 3) := by decide +kernel
theorem dX5_steer_25 : decode cX5_steer 25 = .ok (.imul, 1) := by decide +kernel
theorem dX5_steer_26 : decode cX5_steer 26 = .ok (.goto 7, 3) := by decide +kernel
theorem dX5_steer_29 : decode cX5_steer 29 = .ok (.aload_n 0, 1) := by decide +kernel
theorem dX5_steer_30 : decode cX5_steer 30 = .ok (.getfield 58, 3) := by decide +kernel
theorem dX5_steer_33 : decode cX5_steer 33 = .ok (.istore_n 3, 1) := by decide +kernel
theorem dX5_steer_34 : decode cX5_steer 34 = .ok (.iload_n 2, 1) := by decide +kernel
theorem dX5_steer_35 : decode cX5_steer 35 = .ok (.iconst 4, 1) := by decide +kernel
theorem dX5_steer_36 : decode cX5_steer 36 = .ok (.imul, 1) := by decide +kernel
theorem dX5_steer_37 : decode cX5_steer 37 = .ok (.iload_n 3, 1) := by decide +kernel
theorem dX5_steer_38 : decode cX5_steer 38 = .ok (.iconst 5, 1) := by decide +kernel
theorem dX5_steer_39 : decode cX5_steer 39 = .ok (.imul, 1) := by decide +kernel
theorem dX5_steer_40 : decode cX5_steer 40 = .ok (.if_icmp .le 28, 3) := by decide +kernel
theorem dX5_steer_43 : decode cX5_steer 43 = .ok (.aload_n 0, 1) := by decide +kernel
theorem dX5_steer_44 : decode cX5_steer 44 = .ok (.bipush 60, 2) := by decide +kernel
theorem dX5_steer_46 : decode cX5_steer 46 = .ok (.aload_n 0, 1) := by decide +kernel
theorem dX5_steer_47 : decode cX5_steer 47 = .ok (.getfield 55, 3) := by decide +kernel
theorem dX5_steer_50 : decode cX5_steer 50 = .ok (.iconst 1, 1) := by decide +kernel
theorem dX5_steer_51 : decode cX5_steer 51 = .ok (.iadd, 1) := by decide +kernel
theorem dX5_steer_52 : decode cX5_steer 52 = .ok (.aload_n 0, 1) := by decide +kernel
theorem dX5_steer_53 : decode cX5_steer 53 = .ok (.getfield 55, 3) := by decide +kernel
theorem dX5_steer_56 : decode cX5_steer 56 = .ok (.iconst 4, 1) := by decide +kernel
theorem dX5_steer_57 : decode cX5_steer 57 = .ok (.idiv, 1) := by decide +kernel
theorem dX5_steer_58 : decode cX5_steer 58 = .ok (.iadd, 1) := by decide +kernel
theorem dX5_steer_59 : decode cX5_steer 59 = .ok (.invokestatic 92, 3) := by decide +kernel
theorem dX5_steer_62 : decode cX5_steer 62 = .ok (.putfield 55, 3) := by decide +kernel
theorem dX5_steer_65 : decode cX5_steer 65 = .ok (.goto 26, 3) := by decide +kernel
theorem dX5_steer_68 : decode cX5_steer 68 = .ok (.iload_n 2, 1) := by decide +kernel
theorem dX5_steer_69 : decode cX5_steer 69 = .ok (.iconst 4, 1) := by decide +kernel
theorem dX5_steer_70 : decode cX5_steer 70 = .ok (.imul, 1) := by decide +kernel
theorem dX5_steer_71 : decode cX5_steer 71 = .ok (.iload_n 3, 1) := by decide +kernel
theorem dX5_steer_72 : decode cX5_steer 72 = .ok (.iconst 3, 1) := by decide +kernel
theorem dX5_steer_73 : decode cX5_steer 73 = .ok (.imul, 1) := by decide +kernel
theorem dX5_steer_74 : decode cX5_steer 74 = .ok (.if_icmp .ge 17, 3) := by decide +kernel
theorem dX5_steer_77 : decode cX5_steer 77 = .ok (.aload_n 0, 1) := by decide +kernel
theorem dX5_steer_78 : decode cX5_steer 78 = .ok (.iconst 1, 1) := by decide +kernel
theorem dX5_steer_79 : decode cX5_steer 79 = .ok (.aload_n 0, 1) := by decide +kernel
theorem dX5_steer_80 : decode cX5_steer 80 = .ok (.getfield 55, 3) := by decide +kernel
theorem dX5_steer_83 : decode cX5_steer 83 = .ok (.iconst 1, 1) := by decide +kernel
theorem dX5_steer_84 : decode cX5_steer 84 = .ok (.isub, 1) := by decide +kernel
theorem dX5_steer_85 : decode cX5_steer 85 = .ok (.invokestatic 86, 3) := by decide +kernel
theorem dX5_steer_88 : decode cX5_steer 88 = .ok (.putfield 55, 3) := by decide +kernel
theorem dX5_steer_91 : decode cX5_steer 91 = .ok (.return_, 1) := by decide +kernel
theorem dX5_handOver_0 : decode cX5_handOver 0 = .ok (.aload_n 1, 1) := by decide +kernel
theorem dX5_handOver_1 : decode cX5_handOver 1 = .ok (.getfield 286, 3) := by decide +kernel
theorem dX5_handOver_4 : decode cX5_handOver 4 = .ok (.aload_n 0, 1) := by decide +kernel
theorem dX5_handOver_5 : decode cX5_handOver 5 = .ok (.getfield 36, 3) := by decide +kernel
theorem dX5_handOver_8 : decode cX5_handOver 8 = .ok (.getfield 208, 3) := by decide +kernel
theorem dX5_handOver_11 : decode cX5_handOver 11 = .ok (.if_icmp .lt 16, 3) := by decide +kernel
theorem dX5_handOver_14 : decode cX5_handOver 14 = .ok (.aload_n 1, 1) := by decide +kernel
theorem dX5_handOver_15 : decode cX5_handOver 15 = .ok (.getfield 235, 3) := by decide +kernel
theorem dX5_handOver_18 : decode cX5_handOver 18 = .ok (.iload_n 2, 1) := by decide +kernel
theorem dX5_handOver_19 : decode cX5_handOver 19 = .ok (.baload, 1) := by decide +kernel
theorem dX5_handOver_20 : decode cX5_handOver 20 = .ok (.ifCond .ne 7, 3) := by decide +kernel
theorem dX5_handOver_23 : decode cX5_handOver 23 = .ok (.iconst 1, 1) := by decide +kernel
theorem dX5_handOver_24 : decode cX5_handOver 24 = .ok (.goto 4, 3) := by decide +kernel
theorem dX5_handOver_27 : decode cX5_handOver 27 = .ok (.iconst 0, 1) := by decide +kernel
theorem dX5_handOver_28 : decode cX5_handOver 28 = .ok (.istore_n 3, 1) := by decide +kernel
theorem dX5_handOver_29 : decode cX5_handOver 29 = .ok (.iload_n 3, 1) := by decide +kernel
theorem dX5_handOver_30 : decode cX5_handOver 30 = .ok (.ifCond .eq 10, 3) := by decide +kernel
theorem dX5_handOver_33 : decode cX5_handOver 33 = .ok (.aload_n 1, 1) := by decide +kernel
theorem dX5_handOver_34 : decode cX5_handOver 34 = .ok (.getfield 235, 3) := by decide +kernel
theorem dX5_handOver_37 : decode cX5_handOver 37 = .ok (.iload_n 2, 1) := by decide +kernel
theorem dX5_handOver_38 : decode cX5_handOver 38 = .ok (.iconst 1, 1) := by decide +kernel
theorem dX5_handOver_39 : decode cX5_handOver 39 = .ok (.bastore, 1) := by decide +kernel
theorem dX5_handOver_40 : decode cX5_handOver 40 = .ok (.iload_n 3, 1) := by decide +kernel
theorem dX5_handOver_41 : decode cX5_handOver 41 = .ok (.ireturn, 1) := by decide +kernel
theorem dJ9_abs_0f7a4_0 : decode cJ9_abs_0f7a4 0 = .ok (.iload_n 0, 1) := by decide +kernel
theorem dJ9_abs_0f7a4_1 : decode cJ9_abs_0f7a4 1 = .ok (.ifCond .ge 8, 3) := by decide +kernel
theorem dJ9_abs_0f7a4_4 : decode cJ9_abs_0f7a4 4 = .ok (.iload_n 0, 1) := by decide +kernel
theorem dJ9_abs_0f7a4_5 : decode cJ9_abs_0f7a4 5 = .ok (.ineg, 1) := by decide +kernel
theorem dJ9_abs_0f7a4_6 : decode cJ9_abs_0f7a4 6 = .ok (.goto 4, 3) := by decide +kernel
theorem dJ9_abs_0f7a4_9 : decode cJ9_abs_0f7a4 9 = .ok (.iload_n 0, 1) := by decide +kernel
theorem dJ9_abs_0f7a4_10 : decode cJ9_abs_0f7a4 10 = .ok (.ireturn, 1) := by decide +kernel
theorem dJ9_max_7cf53_0 : decode cJ9_max_7cf53 0 = .ok (.iload_n 0, 1) := by decide +kernel
theorem dJ9_max_7cf53_1 : decode cJ9_max_7cf53 1 = .ok (.iload_n 1, 1) := by decide +kernel
theorem dJ9_max_7cf53_2 : decode cJ9_max_7cf53 2 = .ok (.if_icmp .lt 7, 3) := by decide +kernel
theorem dJ9_max_7cf53_5 : decode cJ9_max_7cf53 5 = .ok (.iload_n 0, 1) := by decide +kernel
theorem dJ9_max_7cf53_6 : decode cJ9_max_7cf53 6 = .ok (.goto 4, 3) := by decide +kernel
theorem dJ9_max_7cf53_9 : decode cJ9_max_7cf53 9 = .ok (.iload_n 1, 1) := by decide +kernel
theorem dJ9_max_7cf53_10 : decode cJ9_max_7cf53 10 = .ok (.ireturn, 1) := by decide +kernel
theorem dJ9_min_7cf53_0 : decode cJ9_min_7cf53 0 = .ok (.iload_n 0, 1) := by decide +kernel
theorem dJ9_min_7cf53_1 : decode cJ9_min_7cf53 1 = .ok (.iload_n 1, 1) := by decide +kernel
theorem dJ9_min_7cf53_2 : decode cJ9_min_7cf53 2 = .ok (.if_icmp .gt 7, 3) := by decide +kernel
theorem dJ9_min_7cf53_5 : decode cJ9_min_7cf53 5 = .ok (.iload_n 0, 1) := by decide +kernel
theorem dJ9_min_7cf53_6 : decode cJ9_min_7cf53 6 = .ok (.goto 4, 3) := by decide +kernel
theorem dJ9_min_7cf53_9 : decode cJ9_min_7cf53 9 = .ok (.iload_n 1, 1) := by decide +kernel
theorem dJ9_min_7cf53_10 : decode cJ9_min_7cf53 10 = .ok (.ireturn, 1) := by decide +kernel
theorem dJ7_fill_53178_0 : decode cJ7_fill_53178 0 = .ok (.iconst 0, 1) := by decide +kernel
theorem dJ7_fill_53178_1 : decode cJ7_fill_53178 1 = .ok (.istore_n 2, 1) := by decide +kernel
theorem dJ7_fill_53178_2 : decode cJ7_fill_53178 2 = .ok (.aload_n 0, 1) := by decide +kernel
theorem dJ7_fill_53178_3 : decode cJ7_fill_53178 3 = .ok (.arraylength, 1) := by decide +kernel
theorem dJ7_fill_53178_4 : decode cJ7_fill_53178 4 = .ok (.istore_n 3, 1) := by decide +kernel
theorem dJ7_fill_53178_5 : decode cJ7_fill_53178 5 = .ok (.iload_n 2, 1) := by decide +kernel
theorem dJ7_fill_53178_6 : decode cJ7_fill_53178 6 = .ok (.iload_n 3, 1) := by decide +kernel
theorem dJ7_fill_53178_7 : decode cJ7_fill_53178 7 = .ok (.if_icmp .ge 13, 3) := by decide +kernel
theorem dJ7_fill_53178_10 : decode cJ7_fill_53178 10 = .ok (.aload_n 0, 1) := by decide +kernel
theorem dJ7_fill_53178_11 : decode cJ7_fill_53178 11 = .ok (.iload_n 2, 1) := by decide +kernel
theorem dJ7_fill_53178_12 : decode cJ7_fill_53178 12 = .ok (.iload_n 1, 1) := by decide +kernel
theorem dJ7_fill_53178_13 : decode cJ7_fill_53178 13 = .ok (.iastore, 1) := by decide +kernel
theorem dJ7_fill_53178_14 : decode cJ7_fill_53178 14 = .ok (.iinc 2 1, 3) := by decide +kernel
theorem dJ7_fill_53178_17 : decode cJ7_fill_53178 17 = .ok (.goto (-12), 3) := by decide +kernel
theorem dJ7_fill_53178_20 : decode cJ7_fill_53178 20 = .ok (.return_, 1) := by decide +kernel
theorem dJ7_copyOf_59c91_0 : decode cJ7_copyOf_59c91 0 = .ok (.iload_n 1, 1) := by decide +kernel
theorem dJ7_copyOf_59c91_1 : decode cJ7_copyOf_59c91 1 = .ok (.aload_n 0, 1) := by decide +kernel
theorem dJ7_copyOf_59c91_2 : decode cJ7_copyOf_59c91 2 = .ok (.arraylength, 1) := by decide +kernel
theorem dJ7_copyOf_59c91_3 : decode cJ7_copyOf_59c91 3 = .ok (.if_icmp .ne 11, 3) := by decide +kernel
theorem dJ7_copyOf_59c91_6 : decode cJ7_copyOf_59c91 6 = .ok (.aload_n 0, 1) := by decide +kernel
theorem dJ7_copyOf_59c91_7 : decode cJ7_copyOf_59c91 7 = .ok (.invokevirtual 316, 3) := by decide +kernel
theorem dJ7_copyOf_59c91_10 : decode cJ7_copyOf_59c91 10 = .ok (.checkcast 317, 3) := by decide +kernel
theorem dJ7_copyOf_59c91_13 : decode cJ7_copyOf_59c91 13 = .ok (.areturn, 1) := by decide +kernel
theorem dJ7_copyOf_59c91_14 : decode cJ7_copyOf_59c91 14 = .ok (.iload_n 1, 1) := by decide +kernel
theorem dJ7_copyOf_59c91_15 : decode cJ7_copyOf_59c91 15 = .ok (.newarray .int, 2) := by decide +kernel
theorem dJ7_copyOf_59c91_17 : decode cJ7_copyOf_59c91 17 = .ok (.astore_n 2, 1) := by decide +kernel
theorem dJ7_copyOf_59c91_18 : decode cJ7_copyOf_59c91 18 = .ok (.aload_n 0, 1) := by decide +kernel
theorem dJ7_copyOf_59c91_19 : decode cJ7_copyOf_59c91 19 = .ok (.iconst 0, 1) := by decide +kernel
theorem dJ7_copyOf_59c91_20 : decode cJ7_copyOf_59c91 20 = .ok (.aload_n 2, 1) := by decide +kernel
theorem dJ7_copyOf_59c91_21 : decode cJ7_copyOf_59c91 21 = .ok (.iconst 0, 1) := by decide +kernel
theorem dJ7_copyOf_59c91_22 : decode cJ7_copyOf_59c91 22 = .ok (.aload_n 0, 1) := by decide +kernel
theorem dJ7_copyOf_59c91_23 : decode cJ7_copyOf_59c91 23 = .ok (.arraylength, 1) := by decide +kernel
theorem dJ7_copyOf_59c91_24 : decode cJ7_copyOf_59c91 24 = .ok (.iload_n 1, 1) := by decide +kernel
theorem dJ7_copyOf_59c91_25 : decode cJ7_copyOf_59c91 25 = .ok (.invokestatic 304, 3) := by decide +kernel
theorem dJ7_copyOf_59c91_28 : decode cJ7_copyOf_59c91 28 = .ok (.invokestatic 150, 3) := by decide +kernel
theorem dJ7_copyOf_59c91_31 : decode cJ7_copyOf_59c91 31 = .ok (.aload_n 2, 1) := by decide +kernel
theorem dJ7_copyOf_59c91_32 : decode cJ7_copyOf_59c91 32 = .ok (.areturn, 1) := by decide +kernel
theorem dL_below_0 : decode cL_below 0 = .ok (.iload_n 0, 1) := by decide +kernel
theorem dL_below_1 : decode cL_below 1 = .ok (.ldc 7, 2) := by decide +kernel
theorem dL_below_3 : decode cL_below 3 = .ok (.iand, 1) := by decide +kernel
theorem dL_below_4 : decode cL_below 4 = .ok (.iload_n 1, 1) := by decide +kernel
theorem dL_below_5 : decode cL_below 5 = .ok (.irem, 1) := by decide +kernel
theorem dL_below_6 : decode cL_below 6 = .ok (.ireturn, 1) := by decide +kernel
theorem dL_cell_0 : decode cL_cell 0 = .ok (.iload_n 1, 1) := by decide +kernel
theorem dL_cell_1 : decode cL_cell 1 = .ok (.aload_n 0, 1) := by decide +kernel
theorem dL_cell_2 : decode cL_cell 2 = .ok (.arraylength, 1) := by decide +kernel
theorem dL_cell_3 : decode cL_cell 3 = .ok (.if_icmp .ge 9, 3) := by decide +kernel
theorem dL_cell_6 : decode cL_cell 6 = .ok (.aload_n 0, 1) := by decide +kernel
theorem dL_cell_7 : decode cL_cell 7 = .ok (.iload_n 1, 1) := by decide +kernel
theorem dL_cell_8 : decode cL_cell 8 = .ok (.iaload, 1) := by decide +kernel
theorem dL_cell_9 : decode cL_cell 9 = .ok (.goto 9, 3) := by decide +kernel
theorem dL_cell_12 : decode cL_cell 12 = .ok (.ldc 8, 2) := by decide +kernel
theorem dL_cell_14 : decode cL_cell 14 = .ok (.iload_n 1, 1) := by decide +kernel
theorem dL_cell_15 : decode cL_cell 15 = .ok (.iconst 3, 1) := by decide +kernel
theorem dL_cell_16 : decode cL_cell 16 = .ok (.iadd, 1) := by decide +kernel
theorem dL_cell_17 : decode cL_cell 17 = .ok (.imul, 1) := by decide +kernel
theorem dL_cell_18 : decode cL_cell 18 = .ok (.ireturn, 1) := by decide +kernel
set_option maxRecDepth 20000 in
theorem ggL_paint_L_below : GoodIn wsL_paint wsL_below := goodIn_r _ [5, 6] (by decide +kernel) (by decide +kernel)
set_option maxRecDepth 20000 in
theorem gL_paint_L_below : GoodIn wsL_paint (va_wsS RL 9 yL_below wsL_below) := goodIn_app (goodIn_of _ (by decide +kernel)) ggL_paint_L_below
set_option maxRecDepth 20000 in
theorem ggL_paint_X5_box : GoodIn wsL_paint wsX5_box := goodIn_ca (goodIn_r _ [11, 12, 13, 14, 15, 16, 17, 18, 19, 20, 21, 22, 23, 10, 24, 54, 55, 56, 57, 58, 59, 60, 61, 62, 63, 64, 65, 66, 67] (by decide +kernel) (by decide +kernel)) (goodIn_sub (fun _ h => List.mem_cons_of_mem _ (List.mem_append_right _ h)) (by decide +kernel))
set_option maxRecDepth 20000 in
theorem gL_paint_X5_box : GoodIn wsL_paint (wsV RL 15 RX5 yX5_box wsX5_box) := goodIn_app (goodIn_of _ (by decide +kernel)) ggL_paint_X5_box
set_option maxRecDepth 20000 in
theorem ggL_paint_X5_ramp : GoodIn wsL_paint wsX5_ramp := goodIn_ca (goodIn_r _ [28, 12, 13, 21, 22, 23, 10, 24, 29, 30, 31, 54, 55, 56, 57, 58, 59, 60, 61, 62, 63, 64, 65, 66, 67] (by decide +kernel) (by decide +kernel)) (goodIn_sub (fun _ h => List.mem_cons_of_mem _ (List.mem_append_right _ h)) (by decide +kernel))
set_option maxRecDepth 20000 in
theorem gL_paint_X5_ramp : GoodIn wsL_paint (wsV RL 21 RX5 yX5_ramp wsX5_ramp) := goodIn_app (goodIn_of _ (by decide +kernel)) ggL_paint_X5_ramp
set_option maxRecDepth 20000 in
theorem ggL_paint_X5_noise : GoodIn wsL_paint wsX5_noise := goodIn_ca (goodIn_r _ [35, 12, 13, 36, 37, 21, 22, 23, 10, 24, 29, 30, 31, 54, 55, 56, 57, 58, 59, 60, 61, 62, 63, 64, 65, 66, 67] (by decide +kernel) (by decide +kernel)) (goodIn_sub (fun _ h => List.mem_cons_of_mem _ (List.mem_append_right _ h)) (by decide +kernel))
set_option maxRecDepth 20000 in
theorem gL_paint_X5_noise : GoodIn wsL_paint (wsV RL 26 RX5 yX5_noise wsX5_noise) := goodIn_app (goodIn_of _ (by decide +kernel)) ggL_paint_X5_noise
set_option maxRecDepth 20000 in
theorem ggL_paint_X5_shift : GoodIn wsL_paint wsX5_shift := goodIn_ca (goodIn_r _ [41, 12, 13, 21, 42, 43, 44, 45, 46, 22, 23, 10, 24, 47, 48, 49, 18, 19, 16, 20, 14, 15, 17, 54, 55, 56, 57, 58, 59, 60, 61, 62, 63, 64, 65, 66, 67] (by decide +kernel) (by decide +kernel)) (goodIn_sub (fun _ h => List.mem_cons_of_mem _ (List.mem_append_right _ h)) (by decide +kernel))
set_option maxRecDepth 20000 in
theorem gL_paint_X5_shift : GoodIn wsL_paint (wsV RL 29 RX5 yX5_shift wsX5_shift) := goodIn_app (goodIn_of _ (by decide +kernel)) ggL_paint_X5_shift
set_option maxRecDepth 20000 in
theorem ggL_paint_X5_fill : GoodIn wsL_paint wsX5_fill := goodIn_ca (goodIn_r _ [53, 12, 13, 21, 22, 23, 10, 24, 54, 55, 56, 57, 58, 59, 60, 61, 62, 63, 64, 65, 66, 67] (by decide +kernel) (by decide +kernel)) (goodIn_sub (fun _ h => List.mem_cons_of_mem _ (List.mem_append_right _ h)) (by decide +kernel))
set_option maxRecDepth 20000 in
theorem gL_paint_X5_fill : GoodIn wsL_paint (wsV RL 32 RX5 yX5_fill wsX5_fill) := goodIn_app (goodIn_of _ (by decide +kernel)) ggL_paint_X5_fill
theorem dL_paint_0 : decode cL_paint 0 = .ok (.iload_n 1, 1) := by decide +kernel
theorem dL_paint_1 : decode cL_paint 1 = .ok (.iconst 5, 1) := by decide +kernel
theorem dL_paint_2 : decode cL_paint 2 = .ok (.invokestatic 9, 3) := by decide +kernel
theorem dL_paint_5 : decode cL_paint 5 = .ok (.tableswitch 176 0 3 #[31, 88, 128, 150], 31) := by decide +kernel
theorem dL_paint_36 : decode cL_paint 36 = .ok (.aload_n 0, 1) := by decide +kernel
theorem dL_paint_37 : decode cL_paint 37 = .ok (.iload_n 1, 1) := by decide +kernel
theorem dL_paint_38 : decode cL_paint 38 = .ok (.iconst 3, 1) := by decide +kernel
theorem dL_paint_39 : decode cL_paint 39 = .ok (.ishr, 1) := by decide +kernel
theorem dL_paint_40 : decode cL_paint 40 = .ok (.bipush 33, 2) := by decide +kernel
theorem dL_paint_42 : decode cL_paint 42 = .ok (.invokestatic 9, 3) := by decide +kernel
theorem dL_paint_45 : decode cL_paint 45 = .ok (.iconst 4, 1) := by decide +kernel
theorem dL_paint_46 : decode cL_paint 46 = .ok (.isub, 1) := by decide +kernel
theorem dL_paint_47 : decode cL_paint 47 = .ok (.iload_n 2, 1) := by decide +kernel
theorem dL_paint_48 : decode cL_paint 48 = .ok (.bipush 25, 2) := by decide +kernel
theorem dL_paint_50 : decode cL_paint 50 = .ok (.invokestatic 9, 3) := by decide +kernel
theorem dL_paint_53 : decode cL_paint 53 = .ok (.iconst 4, 1) := by decide +kernel
theorem dL_paint_54 : decode cL_paint 54 = .ok (.isub, 1) := by decide +kernel
theorem dL_paint_55 : decode cL_paint 55 = .ok (.iconst 4, 1) := by decide +kernel
theorem dL_paint_56 : decode cL_paint 56 = .ok (.iload_n 2, 1) := by decide +kernel
theorem dL_paint_57 : decode cL_paint 57 = .ok (.iconst 5, 1) := by decide +kernel
theorem dL_paint_58 : decode cL_paint 58 = .ok (.ishr, 1) := by decide +kernel
theorem dL_paint_59 : decode cL_paint 59 = .ok (.bipush 20, 2) := by decide +kernel
theorem dL_paint_61 : decode cL_paint 61 = .ok (.invokestatic 9, 3) := by decide +kernel
theorem dL_paint_64 : decode cL_paint 64 = .ok (.iadd, 1) := by decide +kernel
theorem dL_paint_65 : decode cL_paint 65 = .ok (.iconst 4, 1) := by decide +kernel
theorem dL_paint_66 : decode cL_paint 66 = .ok (.iload_n 1, 1) := by decide +kernel
theorem dL_paint_67 : decode cL_paint 67 = .ok (.bipush 8, 2) := by decide +kernel
theorem dL_paint_69 : decode cL_paint 69 = .ok (.ishr, 1) := by decide +kernel
theorem dL_paint_70 : decode cL_paint 70 = .ok (.bipush 16, 2) := by decide +kernel
theorem dL_paint_72 : decode cL_paint 72 = .ok (.invokestatic 9, 3) := by decide +kernel
theorem dL_paint_75 : decode cL_paint 75 = .ok (.iadd, 1) := by decide +kernel
theorem dL_paint_76 : decode cL_paint 76 = .ok (.iload_n 2, 1) := by decide +kernel
theorem dL_paint_77 : decode cL_paint 77 = .ok (.bipush 9, 2) := by decide +kernel
theorem dL_paint_79 : decode cL_paint 79 = .ok (.ishr, 1) := by decide +kernel
theorem dL_paint_80 : decode cL_paint 80 = .ok (.sipush 256, 3) := by decide +kernel
theorem dL_paint_83 : decode cL_paint 83 = .ok (.invokestatic 9, 3) := by decide +kernel
theorem dL_paint_86 : decode cL_paint 86 = .ok (.invokevirtual 15, 3) := by decide +kernel
theorem dL_paint_89 : decode cL_paint 89 = .ok (.pop, 1) := by decide +kernel
theorem dL_paint_90 : decode cL_paint 90 = .ok (.goto 105, 3) := by decide +kernel
theorem dL_paint_93 : decode cL_paint 93 = .ok (.aload_n 0, 1) := by decide +kernel
theorem dL_paint_94 : decode cL_paint 94 = .ok (.iload_n 1, 1) := by decide +kernel
theorem dL_paint_95 : decode cL_paint 95 = .ok (.iconst 3, 1) := by decide +kernel
theorem dL_paint_96 : decode cL_paint 96 = .ok (.ishr, 1) := by decide +kernel
theorem dL_paint_97 : decode cL_paint 97 = .ok (.bipush 80, 2) := by decide +kernel
theorem dL_paint_99 : decode cL_paint 99 = .ok (.invokestatic 9, 3) := by decide +kernel
theorem dL_paint_102 : decode cL_paint 102 = .ok (.bipush 40, 2) := by decide +kernel
theorem dL_paint_104 : decode cL_paint 104 = .ok (.isub, 1) := by decide +kernel
theorem dL_paint_105 : decode cL_paint 105 = .ok (.iload_n 2, 1) := by decide +kernel
theorem dL_paint_106 : decode cL_paint 106 = .ok (.bipush 41, 2) := by decide +kernel
theorem dL_paint_108 : decode cL_paint 108 = .ok (.invokestatic 9, 3) := by decide +kernel
theorem dL_paint_111 : decode cL_paint 111 = .ok (.bipush 20, 2) := by decide +kernel
theorem dL_paint_113 : decode cL_paint 113 = .ok (.isub, 1) := by decide +kernel
theorem dL_paint_114 : decode cL_paint 114 = .ok (.iload_n 2, 1) := by decide +kernel
theorem dL_paint_115 : decode cL_paint 115 = .ok (.bipush 6, 2) := by decide +kernel
theorem dL_paint_117 : decode cL_paint 117 = .ok (.ishr, 1) := by decide +kernel
theorem dL_paint_118 : decode cL_paint 118 = .ok (.bipush 41, 2) := by decide +kernel
theorem dL_paint_120 : decode cL_paint 120 = .ok (.invokestatic 9, 3) := by decide +kernel
theorem dL_paint_123 : decode cL_paint 123 = .ok (.bipush 20, 2) := by decide +kernel
theorem dL_paint_125 : decode cL_paint 125 = .ok (.isub, 1) := by decide +kernel
theorem dL_paint_126 : decode cL_paint 126 = .ok (.invokevirtual 21, 3) := by decide +kernel
theorem dL_paint_129 : decode cL_paint 129 = .ok (.pop, 1) := by decide +kernel
theorem dL_paint_130 : decode cL_paint 130 = .ok (.goto 65, 3) := by decide +kernel
theorem dL_paint_133 : decode cL_paint 133 = .ok (.aload_n 0, 1) := by decide +kernel
theorem dL_paint_134 : decode cL_paint 134 = .ok (.iload_n 1, 1) := by decide +kernel
theorem dL_paint_135 : decode cL_paint 135 = .ok (.iconst 3, 1) := by decide +kernel
theorem dL_paint_136 : decode cL_paint 136 = .ok (.ishr, 1) := by decide +kernel
theorem dL_paint_137 : decode cL_paint 137 = .ok (.ldc 25, 2) := by decide +kernel
theorem dL_paint_139 : decode cL_paint 139 = .ok (.invokestatic 9, 3) := by decide +kernel
theorem dL_paint_142 : decode cL_paint 142 = .ok (.iload_n 2, 1) := by decide +kernel
theorem dL_paint_143 : decode cL_paint 143 = .ok (.bipush 30, 2) := by decide +kernel
theorem dL_paint_145 : decode cL_paint 145 = .ok (.invokestatic 9, 3) := by decide +kernel
theorem dL_paint_148 : decode cL_paint 148 = .ok (.invokevirtual 26, 3) := by decide +kernel
theorem dL_paint_151 : decode cL_paint 151 = .ok (.pop, 1) := by decide +kernel
theorem dL_paint_152 : decode cL_paint 152 = .ok (.goto 43, 3) := by decide +kernel
theorem dL_paint_155 : decode cL_paint 155 = .ok (.aload_n 0, 1) := by decide +kernel
theorem dL_paint_156 : decode cL_paint 156 = .ok (.iload_n 1, 1) := by decide +kernel
theorem dL_paint_157 : decode cL_paint 157 = .ok (.iconst 3, 1) := by decide +kernel
theorem dL_paint_158 : decode cL_paint 158 = .ok (.ishr, 1) := by decide +kernel
theorem dL_paint_159 : decode cL_paint 159 = .ok (.bipush 7, 2) := by decide +kernel
theorem dL_paint_161 : decode cL_paint 161 = .ok (.invokestatic 9, 3) := by decide +kernel
theorem dL_paint_164 : decode cL_paint 164 = .ok (.iconst 3, 1) := by decide +kernel
theorem dL_paint_165 : decode cL_paint 165 = .ok (.isub, 1) := by decide +kernel
theorem dL_paint_166 : decode cL_paint 166 = .ok (.iload_n 2, 1) := by decide +kernel
theorem dL_paint_167 : decode cL_paint 167 = .ok (.bipush 7, 2) := by decide +kernel
theorem dL_paint_169 : decode cL_paint 169 = .ok (.invokestatic 9, 3) := by decide +kernel
theorem dL_paint_172 : decode cL_paint 172 = .ok (.iconst 3, 1) := by decide +kernel
theorem dL_paint_173 : decode cL_paint 173 = .ok (.isub, 1) := by decide +kernel
theorem dL_paint_174 : decode cL_paint 174 = .ok (.invokevirtual 29, 3) := by decide +kernel
theorem dL_paint_177 : decode cL_paint 177 = .ok (.pop, 1) := by decide +kernel
theorem dL_paint_178 : decode cL_paint 178 = .ok (.goto 17, 3) := by decide +kernel
theorem dL_paint_181 : decode cL_paint 181 = .ok (.aload_n 0, 1) := by decide +kernel
theorem dL_paint_182 : decode cL_paint 182 = .ok (.iload_n 1, 1) := by decide +kernel
theorem dL_paint_183 : decode cL_paint 183 = .ok (.iconst 3, 1) := by decide +kernel
theorem dL_paint_184 : decode cL_paint 184 = .ok (.ishr, 1) := by decide +kernel
theorem dL_paint_185 : decode cL_paint 185 = .ok (.sipush 256, 3) := by decide +kernel
theorem dL_paint_188 : decode cL_paint 188 = .ok (.invokestatic 9, 3) := by decide +kernel
theorem dL_paint_191 : decode cL_paint 191 = .ok (.invokevirtual 32, 3) := by decide +kernel
theorem dL_paint_194 : decode cL_paint 194 = .ok (.pop, 1) := by decide +kernel
theorem dL_paint_195 : decode cL_paint 195 = .ok (.return_, 1) := by decide +kernel
set_option maxRecDepth 20000 in
theorem ggL_isSound_X5_kindOf : GoodIn wsL_isSound wsX5_kindOf := goodIn_ca (goodIn_r _ [9, 10, 11, 12, 13, 8, 14, 15, 16, 17, 18, 19, 20, 21, 22, 23, 24, 25, 80, 81, 82, 83, 84, 85, 86, 87, 88, 89, 90, 91, 92, 93, 94, 95, 96, 97, 98, 99, 100, 101, 102, 103, 104, 105, 106, 107] (by decide +kernel) (by decide +kernel)) (goodIn_sub (fun _ h => List.mem_cons_of_mem _ (List.mem_append_right _ h)) (by decide +kernel))
set_option maxRecDepth 20000 in
theorem gL_isSound_X5_kindOf : GoodIn wsL_isSound (wsV RL 36 RX5 yX5_kindOf wsX5_kindOf) := goodIn_app (goodIn_of _ (by decide +kernel)) ggL_isSound_X5_kindOf
set_option maxRecDepth 20000 in
theorem ggL_isSound_X5_levels : GoodIn wsL_isSound wsX5_levels := goodIn_ca (goodIn_r _ [29, 11, 12, 13, 8, 14, 15, 16, 17, 18, 19, 20, 21, 22, 23, 24, 25, 30, 31, 32, 33, 34, 35, 94, 95, 96, 97, 98, 99, 100, 101, 102, 103, 104, 105, 106, 107, 80, 81, 82, 83, 84, 85, 86, 87, 88, 89, 90, 91, 92, 93] (by decide +kernel) (by decide +kernel)) (goodIn_sub (fun _ h => List.mem_cons_of_mem _ (List.mem_append_right _ h)) (by decide +kernel))
set_option maxRecDepth 20000 in
theorem gL_isSound_X5_levels : GoodIn wsL_isSound (wsV RL 39 RX5 yX5_levels wsX5_levels) := goodIn_app (goodIn_of _ (by decide +kernel)) ggL_isSound_X5_levels
set_option maxRecDepth 20000 in
theorem ggL_isSound_X5_isKey : GoodIn wsL_isSound wsX5_isKey := goodIn_ca (goodIn_r _ [39, 40, 11, 12, 13, 8, 14, 15, 16, 17, 18, 19, 20, 21, 22, 80, 81, 82, 83, 84, 85, 86, 87, 88, 89, 90, 91, 92, 93, 94, 95, 96, 97, 98, 99, 100, 101, 102, 103, 104, 105, 106, 107] (by decide +kernel) (by decide +kernel)) (goodIn_sub (fun _ h => List.mem_cons_of_mem _ (List.mem_append_right _ h)) (by decide +kernel))
set_option maxRecDepth 20000 in
theorem gL_isSound_X5_isKey : GoodIn wsL_isSound (wsV RL 42 RX5 yX5_isKey wsX5_isKey) := goodIn_app (goodIn_of _ (by decide +kernel)) ggL_isSound_X5_isKey
set_option maxRecDepth 20000 in
theorem ggL_isSound_X5_vectorX : GoodIn wsL_isSound wsX5_vectorX := goodIn_ca (goodIn_r _ [44, 45, 11, 12, 13, 8, 14, 15, 16, 17, 18, 19, 20, 21, 22, 23, 24, 25, 80, 81, 82, 83, 84, 85, 86, 87, 88, 89, 90, 91, 92, 93, 94, 95, 96, 97, 98, 99, 100, 101, 102, 103, 104, 105, 106, 107] (by decide +kernel) (by decide +kernel)) (goodIn_sub (fun _ h => List.mem_cons_of_mem _ (List.mem_append_right _ h)) (by decide +kernel))
set_option maxRecDepth 20000 in
theorem gL_isSound_X5_vectorX : GoodIn wsL_isSound (wsV RL 46 RX5 yX5_vectorX wsX5_vectorX) := goodIn_app (goodIn_of _ (by decide +kernel)) ggL_isSound_X5_vectorX
set_option maxRecDepth 20000 in
theorem ggL_isSound_X5_vectorY : GoodIn wsL_isSound wsX5_vectorY := goodIn_ca (goodIn_r _ [49, 50, 11, 12, 13, 8, 14, 15, 16, 17, 18, 19, 20, 21, 22, 23, 24, 25, 80, 81, 82, 83, 84, 85, 86, 87, 88, 89, 90, 91, 92, 93, 94, 95, 96, 97, 98, 99, 100, 101, 102, 103, 104, 105, 106, 107] (by decide +kernel) (by decide +kernel)) (goodIn_sub (fun _ h => List.mem_cons_of_mem _ (List.mem_append_right _ h)) (by decide +kernel))
set_option maxRecDepth 20000 in
theorem gL_isSound_X5_vectorY : GoodIn wsL_isSound (wsV RL 49 RX5 yX5_vectorY wsX5_vectorY) := goodIn_app (goodIn_of _ (by decide +kernel)) ggL_isSound_X5_vectorY
set_option maxRecDepth 20000 in
theorem ggL_isSound_X5_bits : GoodIn wsL_isSound wsX5_bits := goodIn_ca (goodIn_r _ [54, 55, 11, 12, 13, 8, 14, 15, 16, 17, 18, 19, 20, 21, 22, 23, 24, 25, 80, 81, 82, 83, 84, 85, 86, 87, 88, 89, 90, 91, 92, 93, 94, 95, 96, 97, 98, 99, 100, 101, 102, 103, 104, 105, 106, 107] (by decide +kernel) (by decide +kernel)) (goodIn_sub (fun _ h => List.mem_cons_of_mem _ (List.mem_append_right _ h)) (by decide +kernel))
set_option maxRecDepth 20000 in
theorem gL_isSound_X5_bits : GoodIn wsL_isSound (wsV RL 57 RX5 yX5_bits wsX5_bits) := goodIn_app (goodIn_of _ (by decide +kernel)) ggL_isSound_X5_bits
set_option maxRecDepth 20000 in
theorem ggL_isSound_X5_bytes : GoodIn wsL_isSound wsX5_bytes := goodIn_ca (goodIn_r _ [59, 11, 12, 13, 8, 14, 15, 16, 17, 18, 19, 20, 21, 22, 23, 24, 25, 60, 61, 62, 33, 63, 64, 94, 95, 96, 97, 98, 99, 100, 101, 102, 103, 104, 105, 106, 107, 80, 81, 82, 83, 84, 85, 86, 87, 88, 89, 90, 91, 92, 93] (by decide +kernel) (by decide +kernel)) (goodIn_sub (fun _ h => List.mem_cons_of_mem _ (List.mem_append_right _ h)) (by decide +kernel))
set_option maxRecDepth 20000 in
theorem gL_isSound_X5_bytes : GoodIn wsL_isSound (wsV RL 60 RX5 yX5_bytes wsX5_bytes) := goodIn_app (goodIn_of _ (by decide +kernel)) ggL_isSound_X5_bytes
set_option maxRecDepth 20000 in
theorem ggL_isSound_X5_byteAt : GoodIn wsL_isSound wsX5_byteAt := goodIn_ca (goodIn_r _ [68, 69, 11, 12, 13, 8, 14, 15, 16, 17, 18, 19, 20, 21, 22, 23, 24, 25, 70, 71, 72, 33, 73, 74, 61, 62, 63, 64, 60, 80, 81, 82, 83, 84, 85, 86, 87, 88, 89, 90, 91, 92, 93, 94, 95, 96, 97, 98, 99, 100, 101, 102, 103, 104, 105, 106, 107] (by decide +kernel) (by decide +kernel)) (goodIn_sub (fun _ h => List.mem_cons_of_mem _ (List.mem_append_right _ h)) (by decide +kernel))
set_option maxRecDepth 20000 in
theorem gL_isSound_X5_byteAt : GoodIn wsL_isSound (wsV RL 63 RX5 yX5_byteAt wsX5_byteAt) := goodIn_app (goodIn_of _ (by decide +kernel)) ggL_isSound_X5_byteAt
set_option maxRecDepth 20000 in
theorem ggL_isSound_X5_errorOf : GoodIn wsL_isSound wsX5_errorOf := goodIn_ca (goodIn_r _ [78, 79, 11, 12, 13, 8, 14, 15, 16, 17, 18, 19, 20, 21, 22, 80, 81, 82, 83, 84, 85, 86, 87, 88, 89, 90, 91, 92, 93, 94, 95, 96, 97, 98, 99, 100, 101, 102, 103, 104, 105, 106, 107] (by decide +kernel) (by decide +kernel)) (goodIn_sub (fun _ h => List.mem_cons_of_mem _ (List.mem_append_right _ h)) (by decide +kernel))
set_option maxRecDepth 20000 in
theorem gL_isSound_X5_errorOf : GoodIn wsL_isSound (wsV RL 66 RX5 yX5_errorOf wsX5_errorOf) := goodIn_app (goodIn_of _ (by decide +kernel)) ggL_isSound_X5_errorOf
theorem dL_isSound_0 : decode cL_isSound 0 = .ok (.iconst 0, 1) := by decide +kernel
theorem dL_isSound_1 : decode cL_isSound 1 = .ok (.istore_n 2, 1) := by decide +kernel
theorem dL_isSound_2 : decode cL_isSound 2 = .ok (.iconst 0, 1) := by decide +kernel
theorem dL_isSound_3 : decode cL_isSound 3 = .ok (.istore_n 3, 1) := by decide +kernel
theorem dL_isSound_4 : decode cL_isSound 4 = .ok (.iload_n 3, 1) := by decide +kernel
theorem dL_isSound_5 : decode cL_isSound 5 = .ok (.bipush 12, 2) := by decide +kernel
theorem dL_isSound_7 : decode cL_isSound 7 = .ok (.if_icmp .ge 160, 3) := by decide +kernel
theorem dL_isSound_10 : decode cL_isSound 10 = .ok (.aload_n 0, 1) := by decide +kernel
theorem dL_isSound_11 : decode cL_isSound 11 = .ok (.iload_n 1, 1) := by decide +kernel
theorem dL_isSound_12 : decode cL_isSound 12 = .ok (.iload_n 3, 1) := by decide +kernel
theorem dL_isSound_13 : decode cL_isSound 13 = .ok (.invokevirtual 36, 3) := by decide +kernel
theorem dL_isSound_16 : decode cL_isSound 16 = .ok (.istore 4, 2) := by decide +kernel
theorem dL_isSound_18 : decode cL_isSound 18 = .ok (.iload 4, 2) := by decide +kernel
theorem dL_isSound_20 : decode cL_isSound 20 = .ok (.iconst 2, 1) := by decide +kernel
theorem dL_isSound_21 : decode cL_isSound 21 = .ok (.if_icmp .ge 7, 3) := by decide +kernel
theorem dL_isSound_24 : decode cL_isSound 24 = .ok (.iconst 1, 1) := by decide +kernel
theorem dL_isSound_25 : decode cL_isSound 25 = .ok (.goto 4, 3) := by decide +kernel
theorem dL_isSound_28 : decode cL_isSound 28 = .ok (.iconst 0, 1) := by decide +kernel
theorem dL_isSound_29 : decode cL_isSound 29 = .ok (.istore 5, 2) := by decide +kernel
theorem dL_isSound_31 : decode cL_isSound 31 = .ok (.iload 4, 2) := by decide +kernel
theorem dL_isSound_33 : decode cL_isSound 33 = .ok (.ifCond .ne 12, 3) := by decide +kernel
theorem dL_isSound_36 : decode cL_isSound 36 = .ok (.aload_n 0, 1) := by decide +kernel
theorem dL_isSound_37 : decode cL_isSound 37 = .ok (.iload_n 1, 1) := by decide +kernel
theorem dL_isSound_38 : decode cL_isSound 38 = .ok (.iload_n 3, 1) := by decide +kernel
theorem dL_isSound_39 : decode cL_isSound 39 = .ok (.invokevirtual 39, 3) := by decide +kernel
theorem dL_isSound_42 : decode cL_isSound 42 = .ok (.ifCond .ne 79, 3) := by decide +kernel
theorem dL_isSound_45 : decode cL_isSound 45 = .ok (.iload_n 3, 1) := by decide +kernel
theorem dL_isSound_46 : decode cL_isSound 46 = .ok (.iconst 4, 1) := by decide +kernel
theorem dL_isSound_47 : decode cL_isSound 47 = .ok (.irem, 1) := by decide +kernel
theorem dL_isSound_48 : decode cL_isSound 48 = .ok (.ifCond .ne 9, 3) := by decide +kernel
theorem dL_isSound_51 : decode cL_isSound 51 = .ok (.iload 4, 2) := by decide +kernel
theorem dL_isSound_53 : decode cL_isSound 53 = .ok (.iconst 2, 1) := by decide +kernel
theorem dL_isSound_54 : decode cL_isSound 54 = .ok (.if_icmp .gt 67, 3) := by decide +kernel
theorem dL_isSound_57 : decode cL_isSound 57 = .ok (.aload_n 0, 1) := by decide +kernel
theorem dL_isSound_58 : decode cL_isSound 58 = .ok (.iload_n 1, 1) := by decide +kernel
theorem dL_isSound_59 : decode cL_isSound 59 = .ok (.invokevirtual 42, 3) := by decide +kernel
theorem dL_isSound_62 : decode cL_isSound 62 = .ok (.ifCond .eq 8, 3) := by decide +kernel
theorem dL_isSound_65 : decode cL_isSound 65 = .ok (.iload 5, 2) := by decide +kernel
theorem dL_isSound_67 : decode cL_isSound 67 = .ok (.ifCond .ne 54, 3) := by decide +kernel
theorem dL_isSound_70 : decode cL_isSound 70 = .ok (.iload 5, 2) := by decide +kernel
theorem dL_isSound_72 : decode cL_isSound 72 = .ok (.ifCond .ne 21, 3) := by decide +kernel
theorem dL_isSound_75 : decode cL_isSound 75 = .ok (.aload_n 0, 1) := by decide +kernel
theorem dL_isSound_76 : decode cL_isSound 76 = .ok (.iload_n 1, 1) := by decide +kernel
theorem dL_isSound_77 : decode cL_isSound 77 = .ok (.iload_n 3, 1) := by decide +kernel
theorem dL_isSound_78 : decode cL_isSound 78 = .ok (.invokevirtual 46, 3) := by decide +kernel
theorem dL_isSound_81 : decode cL_isSound 81 = .ok (.ifCond .ne 40, 3) := by decide +kernel
theorem dL_isSound_84 : decode cL_isSound 84 = .ok (.aload_n 0, 1) := by decide +kernel
theorem dL_isSound_85 : decode cL_isSound 85 = .ok (.iload_n 1, 1) := by decide +kernel
theorem dL_isSound_86 : decode cL_isSound 86 = .ok (.iload_n 3, 1) := by decide +kernel
theorem dL_isSound_87 : decode cL_isSound 87 = .ok (.invokevirtual 49, 3) := by decide +kernel
theorem dL_isSound_90 : decode cL_isSound 90 = .ok (.ifCond .ne 31, 3) := by decide +kernel
theorem dL_isSound_93 : decode cL_isSound 93 = .ok (.aload_n 0, 1) := by decide +kernel
theorem dL_isSound_94 : decode cL_isSound 94 = .ok (.iload_n 1, 1) := by decide +kernel
theorem dL_isSound_95 : decode cL_isSound 95 = .ok (.iload_n 3, 1) := by decide +kernel
theorem dL_isSound_96 : decode cL_isSound 96 = .ok (.invokevirtual 46, 3) := by decide +kernel
theorem dL_isSound_99 : decode cL_isSound 99 = .ok (.invokestatic 52, 3) := by decide +kernel
theorem dL_isSound_102 : decode cL_isSound 102 = .ok (.bipush 6, 2) := by decide +kernel
theorem dL_isSound_104 : decode cL_isSound 104 = .ok (.if_icmp .gt 17, 3) := by decide +kernel
theorem dL_isSound_107 : decode cL_isSound 107 = .ok (.aload_n 0, 1) := by decide +kernel
theorem dL_isSound_108 : decode cL_isSound 108 = .ok (.iload_n 1, 1) := by decide +kernel
theorem dL_isSound_109 : decode cL_isSound 109 = .ok (.iload_n 3, 1) := by decide +kernel
theorem dL_isSound_110 : decode cL_isSound 110 = .ok (.invokevirtual 49, 3) := by decide +kernel
theorem dL_isSound_113 : decode cL_isSound 113 = .ok (.invokestatic 52, 3) := by decide +kernel
theorem dL_isSound_116 : decode cL_isSound 116 = .ok (.bipush 6, 2) := by decide +kernel
theorem dL_isSound_118 : decode cL_isSound 118 = .ok (.if_icmp .le 5, 3) := by decide +kernel
theorem dL_isSound_121 : decode cL_isSound 121 = .ok (.iconst 0, 1) := by decide +kernel
theorem dL_isSound_122 : decode cL_isSound 122 = .ok (.ireturn, 1) := by decide +kernel
theorem dL_isSound_123 : decode cL_isSound 123 = .ok (.iload_n 2, 1) := by decide +kernel
theorem dL_isSound_124 : decode cL_isSound 124 = .ok (.iload 4, 2) := by decide +kernel
theorem dL_isSound_126 : decode cL_isSound 126 = .ok (.ifCond .ne 32, 3) := by decide +kernel
theorem dL_isSound_129 : decode cL_isSound 129 = .ok (.iload_n 3, 1) := by decide +kernel
theorem dL_isSound_130 : decode cL_isSound 130 = .ok (.iconst 4, 1) := by decide +kernel
theorem dL_isSound_131 : decode cL_isSound 131 = .ok (.irem, 1) := by decide +kernel
theorem dL_isSound_132 : decode cL_isSound 132 = .ok (.ifCond .ne 26, 3) := by decide +kernel
theorem dL_isSound_135 : decode cL_isSound 135 = .ok (.aload_n 0, 1) := by decide +kernel
theorem dL_isSound_136 : decode cL_isSound 136 = .ok (.iload_n 1, 1) := by decide +kernel
theorem dL_isSound_137 : decode cL_isSound 137 = .ok (.iload_n 3, 1) := by decide +kernel
theorem dL_isSound_138 : decode cL_isSound 138 = .ok (.invokevirtual 46, 3) := by decide +kernel
theorem dL_isSound_141 : decode cL_isSound 141 = .ok (.ifCond .ne 12, 3) := by decide +kernel
theorem dL_isSound_144 : decode cL_isSound 144 = .ok (.aload_n 0, 1) := by decide +kernel
theorem dL_isSound_145 : decode cL_isSound 145 = .ok (.iload_n 1, 1) := by decide +kernel
theorem dL_isSound_146 : decode cL_isSound 146 = .ok (.iload_n 3, 1) := by decide +kernel
theorem dL_isSound_147 : decode cL_isSound 147 = .ok (.invokevirtual 49, 3) := by decide +kernel
theorem dL_isSound_150 : decode cL_isSound 150 = .ok (.ifCond .eq 8, 3) := by decide +kernel
theorem dL_isSound_153 : decode cL_isSound 153 = .ok (.bipush 100, 2) := by decide +kernel
theorem dL_isSound_155 : decode cL_isSound 155 = .ok (.goto 4, 3) := by decide +kernel
theorem dL_isSound_158 : decode cL_isSound 158 = .ok (.iconst 1, 1) := by decide +kernel
theorem dL_isSound_159 : decode cL_isSound 159 = .ok (.iadd, 1) := by decide +kernel
theorem dL_isSound_160 : decode cL_isSound 160 = .ok (.istore_n 2, 1) := by decide +kernel
theorem dL_isSound_161 : decode cL_isSound 161 = .ok (.iinc 3 1, 3) := by decide +kernel
theorem dL_isSound_164 : decode cL_isSound 164 = .ok (.goto (-160), 3) := by decide +kernel
theorem dL_isSound_167 : decode cL_isSound 167 = .ok (.iconst 0, 1) := by decide +kernel
theorem dL_isSound_168 : decode cL_isSound 168 = .ok (.istore_n 3, 1) := by decide +kernel
theorem dL_isSound_169 : decode cL_isSound 169 = .ok (.iconst 0, 1) := by decide +kernel
theorem dL_isSound_170 : decode cL_isSound 170 = .ok (.istore 4, 2) := by decide +kernel
theorem dL_isSound_172 : decode cL_isSound 172 = .ok (.iload 4, 2) := by decide +kernel
theorem dL_isSound_174 : decode cL_isSound 174 = .ok (.iconst 3, 1) := by decide +kernel
theorem dL_isSound_175 : decode cL_isSound 175 = .ok (.if_icmp .ge 78, 3) := by decide +kernel
theorem dL_isSound_178 : decode cL_isSound 178 = .ok (.aload_n 0, 1) := by decide +kernel
theorem dL_isSound_179 : decode cL_isSound 179 = .ok (.iload_n 1, 1) := by decide +kernel
theorem dL_isSound_180 : decode cL_isSound 180 = .ok (.iload 4, 2) := by decide +kernel
theorem dL_isSound_182 : decode cL_isSound 182 = .ok (.invokevirtual 57, 3) := by decide +kernel
theorem dL_isSound_185 : decode cL_isSound 185 = .ok (.bipush 8, 2) := by decide +kernel
theorem dL_isSound_187 : decode cL_isSound 187 = .ok (.aload_n 0, 1) := by decide +kernel
theorem dL_isSound_188 : decode cL_isSound 188 = .ok (.iload_n 1, 1) := by decide +kernel
theorem dL_isSound_189 : decode cL_isSound 189 = .ok (.iload 4, 2) := by decide +kernel
theorem dL_isSound_191 : decode cL_isSound 191 = .ok (.invokevirtual 60, 3) := by decide +kernel
theorem dL_isSound_194 : decode cL_isSound 194 = .ok (.imul, 1) := by decide +kernel
theorem dL_isSound_195 : decode cL_isSound 195 = .ok (.if_icmp .gt 40, 3) := by decide +kernel
theorem dL_isSound_198 : decode cL_isSound 198 = .ok (.aload_n 0, 1) := by decide +kernel
theorem dL_isSound_199 : decode cL_isSound 199 = .ok (.iload_n 1, 1) := by decide +kernel
theorem dL_isSound_200 : decode cL_isSound 200 = .ok (.iload 4, 2) := by decide +kernel
theorem dL_isSound_202 : decode cL_isSound 202 = .ok (.invokevirtual 57, 3) := by decide +kernel
theorem dL_isSound_205 : decode cL_isSound 205 = .ok (.bipush 8, 2) := by decide +kernel
theorem dL_isSound_207 : decode cL_isSound 207 = .ok (.aload_n 0, 1) := by decide +kernel
theorem dL_isSound_208 : decode cL_isSound 208 = .ok (.iload_n 1, 1) := by decide +kernel
theorem dL_isSound_209 : decode cL_isSound 209 = .ok (.iload 4, 2) := by decide +kernel
theorem dL_isSound_211 : decode cL_isSound 211 = .ok (.invokevirtual 60, 3) := by decide +kernel
theorem dL_isSound_214 : decode cL_isSound 214 = .ok (.imul, 1) := by decide +kernel
theorem dL_isSound_215 : decode cL_isSound 215 = .ok (.bipush 8, 2) := by decide +kernel
theorem dL_isSound_217 : decode cL_isSound 217 = .ok (.isub, 1) := by decide +kernel
theorem dL_isSound_218 : decode cL_isSound 218 = .ok (.if_icmp .le 17, 3) := by decide +kernel
theorem dL_isSound_221 : decode cL_isSound 221 = .ok (.aload_n 0, 1) := by decide +kernel
theorem dL_isSound_222 : decode cL_isSound 222 = .ok (.iload_n 1, 1) := by decide +kernel
theorem dL_isSound_223 : decode cL_isSound 223 = .ok (.iload 4, 2) := by decide +kernel
theorem dL_isSound_225 : decode cL_isSound 225 = .ok (.iconst 0, 1) := by decide +kernel
theorem dL_isSound_226 : decode cL_isSound 226 = .ok (.invokevirtual 63, 3) := by decide +kernel
theorem dL_isSound_229 : decode cL_isSound 229 = .ok (.iconst 3, 1) := by decide +kernel
theorem dL_isSound_230 : decode cL_isSound 230 = .ok (.ishr, 1) := by decide +kernel
theorem dL_isSound_231 : decode cL_isSound 231 = .ok (.iload_n 1, 1) := by decide +kernel
theorem dL_isSound_232 : decode cL_isSound 232 = .ok (.if_icmp .eq 5, 3) := by decide +kernel
theorem dL_isSound_235 : decode cL_isSound 235 = .ok (.iconst 0, 1) := by decide +kernel
theorem dL_isSound_236 : decode cL_isSound 236 = .ok (.ireturn, 1) := by decide +kernel
theorem dL_isSound_237 : decode cL_isSound 237 = .ok (.iload_n 3, 1) := by decide +kernel
theorem dL_isSound_238 : decode cL_isSound 238 = .ok (.aload_n 0, 1) := by decide +kernel
theorem dL_isSound_239 : decode cL_isSound 239 = .ok (.iload_n 1, 1) := by decide +kernel
theorem dL_isSound_240 : decode cL_isSound 240 = .ok (.iload 4, 2) := by decide +kernel
theorem dL_isSound_242 : decode cL_isSound 242 = .ok (.invokevirtual 60, 3) := by decide +kernel
theorem dL_isSound_245 : decode cL_isSound 245 = .ok (.iadd, 1) := by decide +kernel
theorem dL_isSound_246 : decode cL_isSound 246 = .ok (.istore_n 3, 1) := by decide +kernel
theorem dL_isSound_247 : decode cL_isSound 247 = .ok (.iinc 4 1, 3) := by decide +kernel
theorem dL_isSound_250 : decode cL_isSound 250 = .ok (.goto (-78), 3) := by decide +kernel
theorem dL_isSound_253 : decode cL_isSound 253 = .ok (.iload_n 2, 1) := by decide +kernel
theorem dL_isSound_254 : decode cL_isSound 254 = .ok (.bipush 12, 2) := by decide +kernel
theorem dL_isSound_256 : decode cL_isSound 256 = .ok (.if_icmp .ne 19, 3) := by decide +kernel
theorem dL_isSound_259 : decode cL_isSound 259 = .ok (.iload_n 3, 1) := by decide +kernel
theorem dL_isSound_260 : decode cL_isSound 260 = .ok (.ifCond .le 15, 3) := by decide +kernel
theorem dL_isSound_263 : decode cL_isSound 263 = .ok (.aload_n 0, 1) := by decide +kernel
theorem dL_isSound_264 : decode cL_isSound 264 = .ok (.iload_n 1, 1) := by decide +kernel
theorem dL_isSound_265 : decode cL_isSound 265 = .ok (.invokevirtual 66, 3) := by decide +kernel
theorem dL_isSound_268 : decode cL_isSound 268 = .ok (.ifCond .lt 7, 3) := by decide +kernel
theorem dL_isSound_271 : decode cL_isSound 271 = .ok (.iconst 1, 1) := by decide +kernel
theorem dL_isSound_272 : decode cL_isSound 272 = .ok (.goto 4, 3) := by decide +kernel
theorem dL_isSound_275 : decode cL_isSound 275 = .ok (.iconst 0, 1) := by decide +kernel
theorem dL_isSound_276 : decode cL_isSound 276 = .ok (.ireturn, 1) := by decide +kernel
