theorem kcL_law_0 : ((Array.toList (ByteArray.data cL_law)).drop 0).take 48 = [187, 0, 7, 89, 183, 0, 9, 76, 187, 0, 10, 89, 183, 0, 12, 77, 3, 62, 29, 42, 190, 16, 6, 100, 163, 6, 137, 42, 29, 46, 16, 63, 126, 170, 0, 0, 0, 0, 6, 122, 0, 0, 0, 0, 0, 0, 0, 42] := by decide +kernel
theorem kcL_law_48 : ((Array.toList (ByteArray.data cL_law)).drop 48).take 48 = [0, 0, 0, 187, 0, 0, 0, 210, 0, 0, 1, 23, 0, 0, 1, 46, 0, 0, 1, 99, 0, 0, 1, 152, 0, 0, 1, 215, 0, 0, 1, 238, 0, 0, 1, 251, 0, 0, 2, 18, 0, 0, 2, 41, 0, 0, 2, 74] := by decide +kernel
theorem kcL_law_96 : ((Array.toList (ByteArray.data cL_law)).drop 96).take 48 = [0, 0, 2, 97, 0, 0, 2, 120, 0, 0, 2, 143, 0, 0, 2, 166, 0, 0, 2, 189, 0, 0, 2, 222, 0, 0, 2, 235, 0, 0, 3, 2, 0, 0, 3, 35, 0, 0, 3, 68, 0, 0, 3, 101, 0, 0, 3, 134] := by decide +kernel
theorem kcL_law_144 : ((Array.toList (ByteArray.data cL_law)).drop 144).take 48 = [0, 0, 3, 167, 0, 0, 3, 226, 0, 0, 3, 249, 0, 0, 4, 42, 0, 0, 4, 75, 0, 0, 4, 108, 0, 0, 4, 131, 0, 0, 4, 190, 0, 0, 4, 223, 0, 0, 5, 0, 0, 0, 5, 79, 0, 0, 5, 132] := by decide +kernel
theorem kcL_law_192 : ((Array.toList (ByteArray.data cL_law)).drop 192).take 48 = [0, 0, 5, 181, 0, 0, 5, 224, 0, 0, 5, 237, 0, 0, 6, 50, 0, 0, 6, 73, 0, 0, 6, 86, 0, 0, 6, 99, 43, 42, 29, 4, 96, 46, 182, 0, 13, 87, 44, 42, 29, 4, 96, 46, 182, 0, 17, 87] := by decide +kernel
theorem kcL_law_240 : ((Array.toList (ByteArray.data cL_law)).drop 240).take 48 = [167, 5, 171, 43, 42, 29, 4, 96, 46, 42, 29, 5, 96, 46, 42, 29, 6, 96, 46, 42, 29, 7, 96, 46, 153, 0, 7, 4, 167, 0, 4, 3, 182, 0, 18, 87, 44, 42, 29, 4, 96, 46, 42, 29, 5, 96, 46, 42] := by decide +kernel
theorem kcL_law_288 : ((Array.toList (ByteArray.data cL_law)).drop 288).take 48 = [29, 6, 96, 46, 42, 29, 7, 96, 46, 153, 0, 7, 4, 167, 0, 4, 3, 182, 0, 22, 87, 167, 5, 102, 43, 42, 29, 4, 96, 46, 182, 0, 23, 87, 44, 42, 29, 4, 96, 46, 182, 0, 27, 87, 167, 5, 79, 43] := by decide +kernel
theorem kcL_law_336 : ((Array.toList (ByteArray.data cL_law)).drop 336).take 48 = [42, 29, 4, 96, 46, 42, 29, 5, 96, 46, 42, 29, 6, 96, 46, 42, 29, 7, 96, 46, 182, 0, 28, 87, 44, 42, 29, 4, 96, 46, 42, 29, 5, 96, 46, 42, 29, 6, 96, 46, 42, 29, 7, 96, 46, 182, 0, 32] := by decide +kernel
theorem kcL_law_384 : ((Array.toList (ByteArray.data cL_law)).drop 384).take 48 = [87, 167, 5, 26, 43, 42, 29, 4, 96, 46, 42, 29, 5, 96, 46, 42, 29, 6, 96, 46, 42, 29, 7, 96, 46, 182, 0, 33, 87, 44, 42, 29, 4, 96, 46, 42, 29, 5, 96, 46, 42, 29, 6, 96, 46, 42, 29, 7] := by decide +kernel
theorem kcL_law_432 : ((Array.toList (ByteArray.data cL_law)).drop 432).take 48 = [96, 46, 182, 0, 36, 87, 167, 4, 229, 43, 42, 29, 4, 96, 46, 42, 29, 5, 96, 46, 42, 29, 6, 96, 46, 42, 29, 7, 96, 46, 42, 29, 8, 96, 46, 182, 0, 37, 87, 44, 42, 29, 4, 96, 46, 42, 29, 5] := by decide +kernel
theorem kcL_law_480 : ((Array.toList (ByteArray.data cL_law)).drop 480).take 48 = [96, 46, 42, 29, 6, 96, 46, 42, 29, 7, 96, 46, 42, 29, 8, 96, 46, 182, 0, 41, 87, 167, 4, 166, 43, 42, 29, 4, 96, 46, 182, 0, 42, 87, 44, 42, 29, 4, 96, 46, 182, 0, 45, 87, 167, 4, 143, 43] := by decide +kernel
theorem kcL_law_528 : ((Array.toList (ByteArray.data cL_law)).drop 528).take 48 = [182, 0, 46, 87, 44, 182, 0, 50, 87, 167, 4, 130, 43, 42, 29, 4, 96, 46, 182, 0, 51, 87, 44, 42, 29, 4, 96, 46, 182, 0, 54, 87, 167, 4, 107, 43, 42, 29, 4, 96, 46, 182, 0, 55, 87, 44, 42, 29] := by decide +kernel
theorem kcL_law_576 : ((Array.toList (ByteArray.data cL_law)).drop 576).take 48 = [4, 96, 46, 182, 0, 58, 87, 167, 4, 84, 43, 42, 29, 4, 96, 46, 42, 29, 5, 96, 46, 182, 0, 59, 87, 44, 42, 29, 4, 96, 46, 42, 29, 5, 96, 46, 182, 0, 63, 87, 167, 4, 51, 43, 42, 29, 4, 96] := by decide +kernel
theorem kcL_law_624 : ((Array.toList (ByteArray.data cL_law)).drop 624).take 48 = [46, 182, 0, 64, 87, 44, 42, 29, 4, 96, 46, 182, 0, 67, 87, 167, 4, 28, 43, 42, 29, 4, 96, 46, 182, 0, 68, 87, 44, 42, 29, 4, 96, 46, 182, 0, 71, 87, 167, 4, 5, 43, 42, 29, 4, 96, 46, 182] := by decide +kernel
theorem kcL_law_672 : ((Array.toList (ByteArray.data cL_law)).drop 672).take 48 = [0, 72, 87, 44, 42, 29, 4, 96, 46, 182, 0, 75, 87, 167, 3, 238, 43, 42, 29, 4, 96, 46, 182, 0, 76, 87, 44, 42, 29, 4, 96, 46, 182, 0, 79, 87, 167, 3, 215, 43, 42, 29, 4, 96, 46, 182, 0, 80] := by decide +kernel
theorem kcL_law_720 : ((Array.toList (ByteArray.data cL_law)).drop 720).take 48 = [87, 44, 42, 29, 4, 96, 46, 182, 0, 83, 87, 167, 3, 192, 43, 42, 29, 4, 96, 46, 42, 29, 5, 96, 46, 182, 0, 84, 87, 44, 42, 29, 4, 96, 46, 42, 29, 5, 96, 46, 182, 0, 88, 87, 167, 3, 159, 43] := by decide +kernel
theorem kcL_law_768 : ((Array.toList (ByteArray.data cL_law)).drop 768).take 48 = [182, 0, 89, 87, 44, 182, 0, 92, 87, 167, 3, 146, 43, 42, 29, 4, 96, 46, 182, 0, 93, 87, 44, 42, 29, 4, 96, 46, 182, 0, 96, 87, 167, 3, 123, 43, 42, 29, 4, 96, 46, 42, 29, 5, 96, 46, 182, 0] := by decide +kernel
theorem kcL_law_816 : ((Array.toList (ByteArray.data cL_law)).drop 816).take 48 = [97, 87, 44, 42, 29, 4, 96, 46, 42, 29, 5, 96, 46, 182, 0, 100, 87, 167, 3, 90, 43, 42, 29, 4, 96, 46, 42, 29, 5, 96, 46, 182, 0, 101, 87, 44, 42, 29, 4, 96, 46, 42, 29, 5, 96, 46, 182, 0] := by decide +kernel
theorem kcL_law_864 : ((Array.toList (ByteArray.data cL_law)).drop 864).take 48 = [104, 87, 167, 3, 57, 43, 42, 29, 4, 96, 46, 42, 29, 5, 96, 46, 182, 0, 105, 87, 44, 42, 29, 4, 96, 46, 42, 29, 5, 96, 46, 182, 0, 108, 87, 167, 3, 24, 43, 42, 29, 4, 96, 46, 42, 29, 5, 96] := by decide +kernel
theorem kcL_law_912 : ((Array.toList (ByteArray.data cL_law)).drop 912).take 48 = [46, 182, 0, 109, 87, 44, 42, 29, 4, 96, 46, 42, 29, 5, 96, 46, 182, 0, 112, 87, 167, 2, 247, 43, 42, 29, 4, 96, 46, 42, 29, 5, 96, 46, 182, 0, 113, 87, 44, 42, 29, 4, 96, 46, 42, 29, 5, 96] := by decide +kernel
theorem kcL_law_960 : ((Array.toList (ByteArray.data cL_law)).drop 960).take 48 = [46, 182, 0, 116, 87, 167, 2, 214, 43, 42, 29, 4, 96, 46, 42, 29, 5, 96, 46, 42, 29, 6, 96, 46, 153, 0, 7, 4, 167, 0, 4, 3, 182, 0, 117, 88, 44, 42, 29, 4, 96, 46, 42, 29, 5, 96, 46, 42] := by decide +kernel
theorem kcL_law_1008 : ((Array.toList (ByteArray.data cL_law)).drop 1008).take 48 = [29, 6, 96, 46, 153, 0, 7, 4, 167, 0, 4, 3, 182, 0, 121, 88, 167, 2, 155, 43, 42, 29, 4, 96, 46, 182, 0, 122, 87, 44, 42, 29, 4, 96, 46, 182, 0, 125, 87, 167, 2, 132, 43, 42, 29, 4, 96, 46] := by decide +kernel
theorem kcL_law_1056 : ((Array.toList (ByteArray.data cL_law)).drop 1056).take 48 = [42, 29, 5, 96, 46, 153, 0, 7, 4, 167, 0, 4, 3, 182, 0, 126, 87, 44, 42, 29, 4, 96, 46, 42, 29, 5, 96, 46, 153, 0, 7, 4, 167, 0, 4, 3, 182, 0, 130, 87, 167, 2, 83, 43, 42, 29, 4, 96] := by decide +kernel
theorem kcL_law_1104 : ((Array.toList (ByteArray.data cL_law)).drop 1104).take 48 = [46, 42, 29, 5, 96, 46, 182, 0, 131, 87, 44, 42, 29, 4, 96, 46, 42, 29, 5, 96, 46, 182, 0, 134, 87, 167, 2, 50, 43, 42, 29, 4, 96, 46, 42, 29, 5, 96, 46, 182, 0, 135, 88, 44, 42, 29, 4, 96] := by decide +kernel
theorem kcL_law_1152 : ((Array.toList (ByteArray.data cL_law)).drop 1152).take 48 = [46, 42, 29, 5, 96, 46, 182, 0, 139, 88, 167, 2, 17, 43, 42, 29, 4, 96, 46, 182, 0, 140, 87, 44, 42, 29, 4, 96, 46, 182, 0, 143, 87, 167, 1, 250, 43, 42, 29, 4, 96, 46, 42, 29, 5, 96, 46, 42] := by decide +kernel
theorem kcL_law_1200 : ((Array.toList (ByteArray.data cL_law)).drop 1200).take 48 = [29, 6, 96, 46, 153, 0, 7, 4, 167, 0, 4, 3, 182, 0, 144, 87, 44, 42, 29, 4, 96, 46, 42, 29, 5, 96, 46, 42, 29, 6, 96, 46, 153, 0, 7, 4, 167, 0, 4, 3, 182, 0, 148, 87, 167, 1, 191, 43] := by decide +kernel
theorem kcL_law_1248 : ((Array.toList (ByteArray.data cL_law)).drop 1248).take 48 = [42, 29, 4, 96, 46, 42, 29, 5, 96, 46, 182, 0, 149, 87, 44, 42, 29, 4, 96, 46, 42, 29, 5, 96, 46, 182, 0, 152, 87, 167, 1, 158, 43, 42, 29, 4, 96, 46, 42, 29, 5, 96, 46, 182, 0, 153, 87, 44] := by decide +kernel
theorem kcL_law_1296 : ((Array.toList (ByteArray.data cL_law)).drop 1296).take 48 = [42, 29, 4, 96, 46, 42, 29, 5, 96, 46, 182, 0, 156, 87, 167, 1, 125, 43, 42, 29, 4, 96, 46, 42, 29, 5, 96, 46, 42, 29, 6, 96, 46, 42, 29, 7, 96, 46, 42, 29, 8, 96, 46, 153, 0, 7, 4, 167] := by decide +kernel
theorem kcL_law_1344 : ((Array.toList (ByteArray.data cL_law)).drop 1344).take 48 = [0, 4, 3, 182, 0, 157, 88, 44, 42, 29, 4, 96, 46, 42, 29, 5, 96, 46, 42, 29, 6, 96, 46, 42, 29, 7, 96, 46, 42, 29, 8, 96, 46, 153, 0, 7, 4, 167, 0, 4, 3, 182, 0, 161, 88, 167, 1, 46] := by decide +kernel
theorem kcL_law_1392 : ((Array.toList (ByteArray.data cL_law)).drop 1392).take 48 = [43, 42, 29, 4, 96, 46, 42, 29, 5, 96, 46, 42, 29, 6, 96, 46, 42, 29, 7, 96, 46, 182, 0, 162, 87, 44, 42, 29, 4, 96, 46, 42, 29, 5, 96, 46, 42, 29, 6, 96, 46, 42, 29, 7, 96, 46, 182, 0] := by decide +kernel
theorem kcL_law_1440 : ((Array.toList (ByteArray.data cL_law)).drop 1440).take 48 = [165, 87, 167, 0, 249, 43, 42, 29, 4, 96, 46, 42, 29, 5, 96, 46, 153, 0, 7, 4, 167, 0, 4, 3, 182, 0, 166, 87, 44, 42, 29, 4, 96, 46, 42, 29, 5, 96, 46, 153, 0, 7, 4, 167, 0, 4, 3, 182] := by decide +kernel
theorem kcL_law_1488 : ((Array.toList (ByteArray.data cL_law)).drop 1488).take 48 = [0, 169, 87, 167, 0, 200, 43, 42, 29, 4, 96, 46, 42, 29, 5, 96, 46, 42, 29, 6, 96, 46, 182, 0, 170, 87, 44, 42, 29, 4, 96, 46, 42, 29, 5, 96, 46, 42, 29, 6, 96, 46, 182, 0, 174, 87, 167, 0] := by decide +kernel
theorem kcL_law_1536 : ((Array.toList (ByteArray.data cL_law)).drop 1536).take 48 = [157, 43, 182, 0, 175, 44, 182, 0, 178, 159, 0, 146, 3, 172, 43, 42, 29, 4, 96, 46, 42, 29, 5, 96, 46, 42, 29, 6, 96, 46, 42, 29, 7, 96, 46, 153, 0, 7, 4, 167, 0, 4, 3, 182, 0, 179, 87, 44] := by decide +kernel
theorem kcL_law_1584 : ((Array.toList (ByteArray.data cL_law)).drop 1584).take 48 = [42, 29, 4, 96, 46, 42, 29, 5, 96, 46, 42, 29, 6, 96, 46, 42, 29, 7, 96, 46, 153, 0, 7, 4, 167, 0, 4, 3, 182, 0, 183, 87, 167, 0, 75, 43, 42, 29, 4, 96, 46, 182, 0, 184, 87, 44, 42, 29] := by decide +kernel
theorem kcL_law_1632 : ((Array.toList (ByteArray.data cL_law)).drop 1632).take 48 = [4, 96, 46, 182, 0, 187, 87, 167, 0, 52, 43, 182, 0, 188, 87, 44, 182, 0, 191, 87, 167, 0, 39, 43, 182, 0, 192, 87, 44, 182, 0, 195, 87, 167, 0, 26, 43, 42, 29, 4, 96, 46, 182, 0, 196, 87, 44, 42] := by decide +kernel
theorem kcL_law_1680 : ((Array.toList (ByteArray.data cL_law)).drop 1680).take 48 = [29, 4, 96, 46, 182, 0, 199, 87, 167, 0, 3, 132, 3, 6, 167, 249, 116, 4, 172] := by decide +kernel
theorem ycL_law_0 : Byt cL_law 0 187 := byt_ck (lo := 0) (k := 0) kcL_law_0 rfl rfl
theorem ycL_law_1 : Byt cL_law 1 0 := byt_ck (lo := 0) (k := 1) kcL_law_0 rfl rfl
theorem ycL_law_2 : Byt cL_law 2 7 := byt_ck (lo := 0) (k := 2) kcL_law_0 rfl rfl
theorem dL_law_0 : At cL_law 0 (.new 7) 3 3 := ⟨(o187 7 ycL_law_0 ycL_law_1 ycL_law_2 rfl), rfl⟩
theorem ycL_law_3 : Byt cL_law 3 89 := byt_ck (lo := 0) (k := 3) kcL_law_0 rfl rfl
theorem dL_law_3 : At cL_law 3 .dup 1 4 := ⟨(o89 ycL_law_3), rfl⟩
theorem ycL_law_4 : Byt cL_law 4 183 := byt_ck (lo := 0) (k := 4) kcL_law_0 rfl rfl
theorem ycL_law_5 : Byt cL_law 5 0 := byt_ck (lo := 0) (k := 5) kcL_law_0 rfl rfl
theorem ycL_law_6 : Byt cL_law 6 9 := byt_ck (lo := 0) (k := 6) kcL_law_0 rfl rfl
theorem dL_law_4 : At cL_law 4 (.invokespecial 9) 3 7 := ⟨(o183 9 ycL_law_4 ycL_law_5 ycL_law_6 rfl), rfl⟩
theorem ycL_law_7 : Byt cL_law 7 76 := byt_ck (lo := 0) (k := 7) kcL_law_0 rfl rfl
theorem dL_law_7 : At cL_law 7 (.astore_n 1) 1 8 := ⟨(o76 ycL_law_7), rfl⟩
theorem ycL_law_8 : Byt cL_law 8 187 := byt_ck (lo := 0) (k := 8) kcL_law_0 rfl rfl
theorem ycL_law_9 : Byt cL_law 9 0 := byt_ck (lo := 0) (k := 9) kcL_law_0 rfl rfl
theorem ycL_law_10 : Byt cL_law 10 10 := byt_ck (lo := 0) (k := 10) kcL_law_0 rfl rfl
theorem dL_law_8 : At cL_law 8 (.new 10) 3 11 := ⟨(o187 10 ycL_law_8 ycL_law_9 ycL_law_10 rfl), rfl⟩
theorem ycL_law_11 : Byt cL_law 11 89 := byt_ck (lo := 0) (k := 11) kcL_law_0 rfl rfl
theorem dL_law_11 : At cL_law 11 .dup 1 12 := ⟨(o89 ycL_law_11), rfl⟩
theorem ycL_law_12 : Byt cL_law 12 183 := byt_ck (lo := 0) (k := 12) kcL_law_0 rfl rfl
theorem ycL_law_13 : Byt cL_law 13 0 := byt_ck (lo := 0) (k := 13) kcL_law_0 rfl rfl
theorem ycL_law_14 : Byt cL_law 14 12 := byt_ck (lo := 0) (k := 14) kcL_law_0 rfl rfl
theorem dL_law_12 : At cL_law 12 (.invokespecial 12) 3 15 := ⟨(o183 12 ycL_law_12 ycL_law_13 ycL_law_14 rfl), rfl⟩
theorem ycL_law_15 : Byt cL_law 15 77 := byt_ck (lo := 0) (k := 15) kcL_law_0 rfl rfl
theorem dL_law_15 : At cL_law 15 (.astore_n 2) 1 16 := ⟨(o77 ycL_law_15), rfl⟩
theorem ycL_law_16 : Byt cL_law 16 3 := byt_ck (lo := 0) (k := 16) kcL_law_0 rfl rfl
theorem dL_law_16 : At cL_law 16 (.iconst 0) 1 17 := ⟨(o3 ycL_law_16), rfl⟩
theorem ycL_law_17 : Byt cL_law 17 62 := byt_ck (lo := 0) (k := 17) kcL_law_0 rfl rfl
theorem dL_law_17 : At cL_law 17 (.istore_n 3) 1 18 := ⟨(o62 ycL_law_17), rfl⟩
theorem ycL_law_18 : Byt cL_law 18 29 := byt_ck (lo := 0) (k := 18) kcL_law_0 rfl rfl
theorem dL_law_18 : At cL_law 18 (.iload_n 3) 1 19 := ⟨(o29 ycL_law_18), rfl⟩
theorem ycL_law_19 : Byt cL_law 19 42 := byt_ck (lo := 0) (k := 19) kcL_law_0 rfl rfl
theorem dL_law_19 : At cL_law 19 (.aload_n 0) 1 20 := ⟨(o42 ycL_law_19), rfl⟩
theorem ycL_law_20 : Byt cL_law 20 190 := byt_ck (lo := 0) (k := 20) kcL_law_0 rfl rfl
theorem dL_law_20 : At cL_law 20 .arraylength 1 21 := ⟨(o190 ycL_law_20), rfl⟩
theorem ycL_law_21 : Byt cL_law 21 16 := byt_ck (lo := 0) (k := 21) kcL_law_0 rfl rfl
theorem ycL_law_22 : Byt cL_law 22 6 := byt_ck (lo := 0) (k := 22) kcL_law_0 rfl rfl
theorem dL_law_21 : At cL_law 21 (.bipush 6) 2 23 := ⟨(o16 6 ycL_law_21 ycL_law_22 rfl), rfl⟩
theorem ycL_law_23 : Byt cL_law 23 100 := byt_ck (lo := 0) (k := 23) kcL_law_0 rfl rfl
theorem dL_law_23 : At cL_law 23 .isub 1 24 := ⟨(o100 ycL_law_23), rfl⟩
theorem ycL_law_24 : Byt cL_law 24 163 := byt_ck (lo := 0) (k := 24) kcL_law_0 rfl rfl
theorem ycL_law_25 : Byt cL_law 25 6 := byt_ck (lo := 0) (k := 25) kcL_law_0 rfl rfl
theorem ycL_law_26 : Byt cL_law 26 137 := byt_ck (lo := 0) (k := 26) kcL_law_0 rfl rfl
theorem dL_law_24 : AtB cL_law 24 (.if_icmp .gt 1673) 1673 27 1697 := ⟨(o163 1673 ycL_law_24 ycL_law_25 ycL_law_26 rfl), rfl, rfl⟩
theorem ycL_law_27 : Byt cL_law 27 42 := byt_ck (lo := 0) (k := 27) kcL_law_0 rfl rfl
theorem dL_law_27 : At cL_law 27 (.aload_n 0) 1 28 := ⟨(o42 ycL_law_27), rfl⟩
theorem ycL_law_28 : Byt cL_law 28 29 := byt_ck (lo := 0) (k := 28) kcL_law_0 rfl rfl
theorem dL_law_28 : At cL_law 28 (.iload_n 3) 1 29 := ⟨(o29 ycL_law_28), rfl⟩
theorem ycL_law_29 : Byt cL_law 29 46 := byt_ck (lo := 0) (k := 29) kcL_law_0 rfl rfl
theorem dL_law_29 : At cL_law 29 .iaload 1 30 := ⟨(o46 ycL_law_29), rfl⟩
theorem ycL_law_30 : Byt cL_law 30 16 := byt_ck (lo := 0) (k := 30) kcL_law_0 rfl rfl
theorem ycL_law_31 : Byt cL_law 31 63 := byt_ck (lo := 0) (k := 31) kcL_law_0 rfl rfl
theorem dL_law_30 : At cL_law 30 (.bipush 63) 2 32 := ⟨(o16 63 ycL_law_30 ycL_law_31 rfl), rfl⟩
theorem ycL_law_32 : Byt cL_law 32 126 := byt_ck (lo := 0) (k := 32) kcL_law_0 rfl rfl
theorem dL_law_32 : At cL_law 32 .iand 1 33 := ⟨(o126 ycL_law_32), rfl⟩
theorem dL_law_33 : At cL_law 33 (.tableswitch 1658 0 42 #[187, 210, 279, 302, 355, 408, 471, 494, 507, 530, 553, 586, 609, 632, 655, 678, 701, 734, 747, 770, 803, 836, 869, 902, 935, 994, 1017, 1066, 1099, 1132, 1155, 1214, 1247, 1280, 1359, 1412, 1461, 1504, 1517, 1586, 1609, 1622, 1635]) 187 220 := ⟨(by decide +kernel), rfl⟩
theorem ycL_law_220 : Byt cL_law 220 43 := byt_ck (lo := 192) (k := 28) kcL_law_192 rfl rfl
theorem dL_law_220 : At cL_law 220 (.aload_n 1) 1 221 := ⟨(o43 ycL_law_220), rfl⟩
theorem ycL_law_221 : Byt cL_law 221 42 := byt_ck (lo := 192) (k := 29) kcL_law_192 rfl rfl
theorem dL_law_221 : At cL_law 221 (.aload_n 0) 1 222 := ⟨(o42 ycL_law_221), rfl⟩
theorem ycL_law_222 : Byt cL_law 222 29 := byt_ck (lo := 192) (k := 30) kcL_law_192 rfl rfl
theorem dL_law_222 : At cL_law 222 (.iload_n 3) 1 223 := ⟨(o29 ycL_law_222), rfl⟩
theorem ycL_law_223 : Byt cL_law 223 4 := byt_ck (lo := 192) (k := 31) kcL_law_192 rfl rfl
theorem dL_law_223 : At cL_law 223 (.iconst 1) 1 224 := ⟨(o4 ycL_law_223), rfl⟩
theorem ycL_law_224 : Byt cL_law 224 96 := byt_ck (lo := 192) (k := 32) kcL_law_192 rfl rfl
theorem dL_law_224 : At cL_law 224 .iadd 1 225 := ⟨(o96 ycL_law_224), rfl⟩
theorem ycL_law_225 : Byt cL_law 225 46 := byt_ck (lo := 192) (k := 33) kcL_law_192 rfl rfl
theorem dL_law_225 : At cL_law 225 .iaload 1 226 := ⟨(o46 ycL_law_225), rfl⟩
theorem ycL_law_226 : Byt cL_law 226 182 := byt_ck (lo := 192) (k := 34) kcL_law_192 rfl rfl
theorem ycL_law_227 : Byt cL_law 227 0 := byt_ck (lo := 192) (k := 35) kcL_law_192 rfl rfl
theorem ycL_law_228 : Byt cL_law 228 13 := byt_ck (lo := 192) (k := 36) kcL_law_192 rfl rfl
theorem dL_law_226 : At cL_law 226 (.invokevirtual 13) 3 229 := ⟨(o182 13 ycL_law_226 ycL_law_227 ycL_law_228 rfl), rfl⟩
theorem ycL_law_229 : Byt cL_law 229 87 := byt_ck (lo := 192) (k := 37) kcL_law_192 rfl rfl
theorem dL_law_229 : At cL_law 229 .pop 1 230 := ⟨(o87 ycL_law_229), rfl⟩
theorem ycL_law_230 : Byt cL_law 230 44 := byt_ck (lo := 192) (k := 38) kcL_law_192 rfl rfl
theorem dL_law_230 : At cL_law 230 (.aload_n 2) 1 231 := ⟨(o44 ycL_law_230), rfl⟩
theorem ycL_law_231 : Byt cL_law 231 42 := byt_ck (lo := 192) (k := 39) kcL_law_192 rfl rfl
theorem dL_law_231 : At cL_law 231 (.aload_n 0) 1 232 := ⟨(o42 ycL_law_231), rfl⟩
theorem ycL_law_232 : Byt cL_law 232 29 := byt_ck (lo := 192) (k := 40) kcL_law_192 rfl rfl
theorem dL_law_232 : At cL_law 232 (.iload_n 3) 1 233 := ⟨(o29 ycL_law_232), rfl⟩
theorem ycL_law_233 : Byt cL_law 233 4 := byt_ck (lo := 192) (k := 41) kcL_law_192 rfl rfl
theorem dL_law_233 : At cL_law 233 (.iconst 1) 1 234 := ⟨(o4 ycL_law_233), rfl⟩
theorem ycL_law_234 : Byt cL_law 234 96 := byt_ck (lo := 192) (k := 42) kcL_law_192 rfl rfl
theorem dL_law_234 : At cL_law 234 .iadd 1 235 := ⟨(o96 ycL_law_234), rfl⟩
theorem ycL_law_235 : Byt cL_law 235 46 := byt_ck (lo := 192) (k := 43) kcL_law_192 rfl rfl
theorem dL_law_235 : At cL_law 235 .iaload 1 236 := ⟨(o46 ycL_law_235), rfl⟩
theorem ycL_law_236 : Byt cL_law 236 182 := byt_ck (lo := 192) (k := 44) kcL_law_192 rfl rfl
theorem ycL_law_237 : Byt cL_law 237 0 := byt_ck (lo := 192) (k := 45) kcL_law_192 rfl rfl
theorem ycL_law_238 : Byt cL_law 238 17 := byt_ck (lo := 192) (k := 46) kcL_law_192 rfl rfl
theorem dL_law_236 : At cL_law 236 (.invokevirtual 17) 3 239 := ⟨(o182 17 ycL_law_236 ycL_law_237 ycL_law_238 rfl), rfl⟩
theorem ycL_law_239 : Byt cL_law 239 87 := byt_ck (lo := 192) (k := 47) kcL_law_192 rfl rfl
theorem dL_law_239 : At cL_law 239 .pop 1 240 := ⟨(o87 ycL_law_239), rfl⟩
theorem ycL_law_240 : Byt cL_law 240 167 := byt_ck (lo := 240) (k := 0) kcL_law_240 rfl rfl
theorem ycL_law_241 : Byt cL_law 241 5 := byt_ck (lo := 240) (k := 1) kcL_law_240 rfl rfl
theorem ycL_law_242 : Byt cL_law 242 171 := byt_ck (lo := 240) (k := 2) kcL_law_240 rfl rfl
theorem dL_law_240 : AtB cL_law 240 (.goto 1451) 1451 243 1691 := ⟨(o167 1451 ycL_law_240 ycL_law_241 ycL_law_242 rfl), rfl, rfl⟩
theorem ycL_law_243 : Byt cL_law 243 43 := byt_ck (lo := 240) (k := 3) kcL_law_240 rfl rfl
theorem dL_law_243 : At cL_law 243 (.aload_n 1) 1 244 := ⟨(o43 ycL_law_243), rfl⟩
theorem ycL_law_244 : Byt cL_law 244 42 := byt_ck (lo := 240) (k := 4) kcL_law_240 rfl rfl
theorem dL_law_244 : At cL_law 244 (.aload_n 0) 1 245 := ⟨(o42 ycL_law_244), rfl⟩
theorem ycL_law_245 : Byt cL_law 245 29 := byt_ck (lo := 240) (k := 5) kcL_law_240 rfl rfl
theorem dL_law_245 : At cL_law 245 (.iload_n 3) 1 246 := ⟨(o29 ycL_law_245), rfl⟩
theorem ycL_law_246 : Byt cL_law 246 4 := byt_ck (lo := 240) (k := 6) kcL_law_240 rfl rfl
theorem dL_law_246 : At cL_law 246 (.iconst 1) 1 247 := ⟨(o4 ycL_law_246), rfl⟩
theorem ycL_law_247 : Byt cL_law 247 96 := byt_ck (lo := 240) (k := 7) kcL_law_240 rfl rfl
theorem dL_law_247 : At cL_law 247 .iadd 1 248 := ⟨(o96 ycL_law_247), rfl⟩
theorem ycL_law_248 : Byt cL_law 248 46 := byt_ck (lo := 240) (k := 8) kcL_law_240 rfl rfl
theorem dL_law_248 : At cL_law 248 .iaload 1 249 := ⟨(o46 ycL_law_248), rfl⟩
theorem ycL_law_249 : Byt cL_law 249 42 := byt_ck (lo := 240) (k := 9) kcL_law_240 rfl rfl
theorem dL_law_249 : At cL_law 249 (.aload_n 0) 1 250 := ⟨(o42 ycL_law_249), rfl⟩
theorem ycL_law_250 : Byt cL_law 250 29 := byt_ck (lo := 240) (k := 10) kcL_law_240 rfl rfl
theorem dL_law_250 : At cL_law 250 (.iload_n 3) 1 251 := ⟨(o29 ycL_law_250), rfl⟩
theorem ycL_law_251 : Byt cL_law 251 5 := byt_ck (lo := 240) (k := 11) kcL_law_240 rfl rfl
theorem dL_law_251 : At cL_law 251 (.iconst 2) 1 252 := ⟨(o5 ycL_law_251), rfl⟩
theorem ycL_law_252 : Byt cL_law 252 96 := byt_ck (lo := 240) (k := 12) kcL_law_240 rfl rfl
theorem dL_law_252 : At cL_law 252 .iadd 1 253 := ⟨(o96 ycL_law_252), rfl⟩
theorem ycL_law_253 : Byt cL_law 253 46 := byt_ck (lo := 240) (k := 13) kcL_law_240 rfl rfl
theorem dL_law_253 : At cL_law 253 .iaload 1 254 := ⟨(o46 ycL_law_253), rfl⟩
theorem ycL_law_254 : Byt cL_law 254 42 := byt_ck (lo := 240) (k := 14) kcL_law_240 rfl rfl
theorem dL_law_254 : At cL_law 254 (.aload_n 0) 1 255 := ⟨(o42 ycL_law_254), rfl⟩
theorem ycL_law_255 : Byt cL_law 255 29 := byt_ck (lo := 240) (k := 15) kcL_law_240 rfl rfl
theorem dL_law_255 : At cL_law 255 (.iload_n 3) 1 256 := ⟨(o29 ycL_law_255), rfl⟩
theorem ycL_law_256 : Byt cL_law 256 6 := byt_ck (lo := 240) (k := 16) kcL_law_240 rfl rfl
theorem dL_law_256 : At cL_law 256 (.iconst 3) 1 257 := ⟨(o6 ycL_law_256), rfl⟩
theorem ycL_law_257 : Byt cL_law 257 96 := byt_ck (lo := 240) (k := 17) kcL_law_240 rfl rfl
theorem dL_law_257 : At cL_law 257 .iadd 1 258 := ⟨(o96 ycL_law_257), rfl⟩
theorem ycL_law_258 : Byt cL_law 258 46 := byt_ck (lo := 240) (k := 18) kcL_law_240 rfl rfl
theorem dL_law_258 : At cL_law 258 .iaload 1 259 := ⟨(o46 ycL_law_258), rfl⟩
theorem ycL_law_259 : Byt cL_law 259 42 := byt_ck (lo := 240) (k := 19) kcL_law_240 rfl rfl
theorem dL_law_259 : At cL_law 259 (.aload_n 0) 1 260 := ⟨(o42 ycL_law_259), rfl⟩
theorem ycL_law_260 : Byt cL_law 260 29 := byt_ck (lo := 240) (k := 20) kcL_law_240 rfl rfl
theorem dL_law_260 : At cL_law 260 (.iload_n 3) 1 261 := ⟨(o29 ycL_law_260), rfl⟩
theorem ycL_law_261 : Byt cL_law 261 7 := byt_ck (lo := 240) (k := 21) kcL_law_240 rfl rfl
theorem dL_law_261 : At cL_law 261 (.iconst 4) 1 262 := ⟨(o7 ycL_law_261), rfl⟩
theorem ycL_law_262 : Byt cL_law 262 96 := byt_ck (lo := 240) (k := 22) kcL_law_240 rfl rfl
theorem dL_law_262 : At cL_law 262 .iadd 1 263 := ⟨(o96 ycL_law_262), rfl⟩
theorem ycL_law_263 : Byt cL_law 263 46 := byt_ck (lo := 240) (k := 23) kcL_law_240 rfl rfl
theorem dL_law_263 : At cL_law 263 .iaload 1 264 := ⟨(o46 ycL_law_263), rfl⟩
theorem ycL_law_264 : Byt cL_law 264 153 := byt_ck (lo := 240) (k := 24) kcL_law_240 rfl rfl
theorem ycL_law_265 : Byt cL_law 265 0 := byt_ck (lo := 240) (k := 25) kcL_law_240 rfl rfl
theorem ycL_law_266 : Byt cL_law 266 7 := byt_ck (lo := 240) (k := 26) kcL_law_240 rfl rfl
theorem dL_law_264 : AtB cL_law 264 (.ifCond .eq 7) 7 267 271 := ⟨(o153 7 ycL_law_264 ycL_law_265 ycL_law_266 rfl), rfl, rfl⟩
theorem ycL_law_267 : Byt cL_law 267 4 := byt_ck (lo := 240) (k := 27) kcL_law_240 rfl rfl
theorem dL_law_267 : At cL_law 267 (.iconst 1) 1 268 := ⟨(o4 ycL_law_267), rfl⟩
theorem ycL_law_268 : Byt cL_law 268 167 := byt_ck (lo := 240) (k := 28) kcL_law_240 rfl rfl
theorem ycL_law_269 : Byt cL_law 269 0 := byt_ck (lo := 240) (k := 29) kcL_law_240 rfl rfl
theorem ycL_law_270 : Byt cL_law 270 4 := byt_ck (lo := 240) (k := 30) kcL_law_240 rfl rfl
theorem dL_law_268 : AtB cL_law 268 (.goto 4) 4 271 272 := ⟨(o167 4 ycL_law_268 ycL_law_269 ycL_law_270 rfl), rfl, rfl⟩
theorem ycL_law_271 : Byt cL_law 271 3 := byt_ck (lo := 240) (k := 31) kcL_law_240 rfl rfl
theorem dL_law_271 : At cL_law 271 (.iconst 0) 1 272 := ⟨(o3 ycL_law_271), rfl⟩
theorem ycL_law_272 : Byt cL_law 272 182 := byt_ck (lo := 240) (k := 32) kcL_law_240 rfl rfl
theorem ycL_law_273 : Byt cL_law 273 0 := byt_ck (lo := 240) (k := 33) kcL_law_240 rfl rfl
theorem ycL_law_274 : Byt cL_law 274 18 := byt_ck (lo := 240) (k := 34) kcL_law_240 rfl rfl
theorem dL_law_272 : At cL_law 272 (.invokevirtual 18) 3 275 := ⟨(o182 18 ycL_law_272 ycL_law_273 ycL_law_274 rfl), rfl⟩
theorem ycL_law_275 : Byt cL_law 275 87 := byt_ck (lo := 240) (k := 35) kcL_law_240 rfl rfl
theorem dL_law_275 : At cL_law 275 .pop 1 276 := ⟨(o87 ycL_law_275), rfl⟩
theorem ycL_law_276 : Byt cL_law 276 44 := byt_ck (lo := 240) (k := 36) kcL_law_240 rfl rfl
theorem dL_law_276 : At cL_law 276 (.aload_n 2) 1 277 := ⟨(o44 ycL_law_276), rfl⟩
theorem ycL_law_277 : Byt cL_law 277 42 := byt_ck (lo := 240) (k := 37) kcL_law_240 rfl rfl
theorem dL_law_277 : At cL_law 277 (.aload_n 0) 1 278 := ⟨(o42 ycL_law_277), rfl⟩
theorem ycL_law_278 : Byt cL_law 278 29 := byt_ck (lo := 240) (k := 38) kcL_law_240 rfl rfl
theorem dL_law_278 : At cL_law 278 (.iload_n 3) 1 279 := ⟨(o29 ycL_law_278), rfl⟩
theorem ycL_law_279 : Byt cL_law 279 4 := byt_ck (lo := 240) (k := 39) kcL_law_240 rfl rfl
theorem dL_law_279 : At cL_law 279 (.iconst 1) 1 280 := ⟨(o4 ycL_law_279), rfl⟩
theorem ycL_law_280 : Byt cL_law 280 96 := byt_ck (lo := 240) (k := 40) kcL_law_240 rfl rfl
theorem dL_law_280 : At cL_law 280 .iadd 1 281 := ⟨(o96 ycL_law_280), rfl⟩
theorem ycL_law_281 : Byt cL_law 281 46 := byt_ck (lo := 240) (k := 41) kcL_law_240 rfl rfl
theorem dL_law_281 : At cL_law 281 .iaload 1 282 := ⟨(o46 ycL_law_281), rfl⟩
theorem ycL_law_282 : Byt cL_law 282 42 := byt_ck (lo := 240) (k := 42) kcL_law_240 rfl rfl
theorem dL_law_282 : At cL_law 282 (.aload_n 0) 1 283 := ⟨(o42 ycL_law_282), rfl⟩
theorem ycL_law_283 : Byt cL_law 283 29 := byt_ck (lo := 240) (k := 43) kcL_law_240 rfl rfl
theorem dL_law_283 : At cL_law 283 (.iload_n 3) 1 284 := ⟨(o29 ycL_law_283), rfl⟩
theorem ycL_law_284 : Byt cL_law 284 5 := byt_ck (lo := 240) (k := 44) kcL_law_240 rfl rfl
theorem dL_law_284 : At cL_law 284 (.iconst 2) 1 285 := ⟨(o5 ycL_law_284), rfl⟩
theorem ycL_law_285 : Byt cL_law 285 96 := byt_ck (lo := 240) (k := 45) kcL_law_240 rfl rfl
theorem dL_law_285 : At cL_law 285 .iadd 1 286 := ⟨(o96 ycL_law_285), rfl⟩
theorem ycL_law_286 : Byt cL_law 286 46 := byt_ck (lo := 240) (k := 46) kcL_law_240 rfl rfl
theorem dL_law_286 : At cL_law 286 .iaload 1 287 := ⟨(o46 ycL_law_286), rfl⟩
theorem ycL_law_287 : Byt cL_law 287 42 := byt_ck (lo := 240) (k := 47) kcL_law_240 rfl rfl
theorem dL_law_287 : At cL_law 287 (.aload_n 0) 1 288 := ⟨(o42 ycL_law_287), rfl⟩
theorem ycL_law_288 : Byt cL_law 288 29 := byt_ck (lo := 288) (k := 0) kcL_law_288 rfl rfl
theorem dL_law_288 : At cL_law 288 (.iload_n 3) 1 289 := ⟨(o29 ycL_law_288), rfl⟩
theorem ycL_law_289 : Byt cL_law 289 6 := byt_ck (lo := 288) (k := 1) kcL_law_288 rfl rfl
theorem dL_law_289 : At cL_law 289 (.iconst 3) 1 290 := ⟨(o6 ycL_law_289), rfl⟩
theorem ycL_law_290 : Byt cL_law 290 96 := byt_ck (lo := 288) (k := 2) kcL_law_288 rfl rfl
theorem dL_law_290 : At cL_law 290 .iadd 1 291 := ⟨(o96 ycL_law_290), rfl⟩
theorem ycL_law_291 : Byt cL_law 291 46 := byt_ck (lo := 288) (k := 3) kcL_law_288 rfl rfl
theorem dL_law_291 : At cL_law 291 .iaload 1 292 := ⟨(o46 ycL_law_291), rfl⟩
theorem ycL_law_292 : Byt cL_law 292 42 := byt_ck (lo := 288) (k := 4) kcL_law_288 rfl rfl
theorem dL_law_292 : At cL_law 292 (.aload_n 0) 1 293 := ⟨(o42 ycL_law_292), rfl⟩
theorem ycL_law_293 : Byt cL_law 293 29 := byt_ck (lo := 288) (k := 5) kcL_law_288 rfl rfl
theorem dL_law_293 : At cL_law 293 (.iload_n 3) 1 294 := ⟨(o29 ycL_law_293), rfl⟩
theorem ycL_law_294 : Byt cL_law 294 7 := byt_ck (lo := 288) (k := 6) kcL_law_288 rfl rfl
theorem dL_law_294 : At cL_law 294 (.iconst 4) 1 295 := ⟨(o7 ycL_law_294), rfl⟩
theorem ycL_law_295 : Byt cL_law 295 96 := byt_ck (lo := 288) (k := 7) kcL_law_288 rfl rfl
theorem dL_law_295 : At cL_law 295 .iadd 1 296 := ⟨(o96 ycL_law_295), rfl⟩
theorem ycL_law_296 : Byt cL_law 296 46 := byt_ck (lo := 288) (k := 8) kcL_law_288 rfl rfl
theorem dL_law_296 : At cL_law 296 .iaload 1 297 := ⟨(o46 ycL_law_296), rfl⟩
theorem ycL_law_297 : Byt cL_law 297 153 := byt_ck (lo := 288) (k := 9) kcL_law_288 rfl rfl
theorem ycL_law_298 : Byt cL_law 298 0 := byt_ck (lo := 288) (k := 10) kcL_law_288 rfl rfl
theorem ycL_law_299 : Byt cL_law 299 7 := byt_ck (lo := 288) (k := 11) kcL_law_288 rfl rfl
theorem dL_law_297 : AtB cL_law 297 (.ifCond .eq 7) 7 300 304 := ⟨(o153 7 ycL_law_297 ycL_law_298 ycL_law_299 rfl), rfl, rfl⟩
theorem ycL_law_300 : Byt cL_law 300 4 := byt_ck (lo := 288) (k := 12) kcL_law_288 rfl rfl
theorem dL_law_300 : At cL_law 300 (.iconst 1) 1 301 := ⟨(o4 ycL_law_300), rfl⟩
theorem ycL_law_301 : Byt cL_law 301 167 := byt_ck (lo := 288) (k := 13) kcL_law_288 rfl rfl
theorem ycL_law_302 : Byt cL_law 302 0 := byt_ck (lo := 288) (k := 14) kcL_law_288 rfl rfl
theorem ycL_law_303 : Byt cL_law 303 4 := byt_ck (lo := 288) (k := 15) kcL_law_288 rfl rfl
theorem dL_law_301 : AtB cL_law 301 (.goto 4) 4 304 305 := ⟨(o167 4 ycL_law_301 ycL_law_302 ycL_law_303 rfl), rfl, rfl⟩
theorem ycL_law_304 : Byt cL_law 304 3 := byt_ck (lo := 288) (k := 16) kcL_law_288 rfl rfl
theorem dL_law_304 : At cL_law 304 (.iconst 0) 1 305 := ⟨(o3 ycL_law_304), rfl⟩
theorem ycL_law_305 : Byt cL_law 305 182 := byt_ck (lo := 288) (k := 17) kcL_law_288 rfl rfl
theorem ycL_law_306 : Byt cL_law 306 0 := byt_ck (lo := 288) (k := 18) kcL_law_288 rfl rfl
theorem ycL_law_307 : Byt cL_law 307 22 := byt_ck (lo := 288) (k := 19) kcL_law_288 rfl rfl
theorem dL_law_305 : At cL_law 305 (.invokevirtual 22) 3 308 := ⟨(o182 22 ycL_law_305 ycL_law_306 ycL_law_307 rfl), rfl⟩
theorem ycL_law_308 : Byt cL_law 308 87 := byt_ck (lo := 288) (k := 20) kcL_law_288 rfl rfl
theorem dL_law_308 : At cL_law 308 .pop 1 309 := ⟨(o87 ycL_law_308), rfl⟩
theorem ycL_law_309 : Byt cL_law 309 167 := byt_ck (lo := 288) (k := 21) kcL_law_288 rfl rfl
theorem ycL_law_310 : Byt cL_law 310 5 := byt_ck (lo := 288) (k := 22) kcL_law_288 rfl rfl
theorem ycL_law_311 : Byt cL_law 311 102 := byt_ck (lo := 288) (k := 23) kcL_law_288 rfl rfl
theorem dL_law_309 : AtB cL_law 309 (.goto 1382) 1382 312 1691 := ⟨(o167 1382 ycL_law_309 ycL_law_310 ycL_law_311 rfl), rfl, rfl⟩
theorem ycL_law_312 : Byt cL_law 312 43 := byt_ck (lo := 288) (k := 24) kcL_law_288 rfl rfl
theorem dL_law_312 : At cL_law 312 (.aload_n 1) 1 313 := ⟨(o43 ycL_law_312), rfl⟩
theorem ycL_law_313 : Byt cL_law 313 42 := byt_ck (lo := 288) (k := 25) kcL_law_288 rfl rfl
theorem dL_law_313 : At cL_law 313 (.aload_n 0) 1 314 := ⟨(o42 ycL_law_313), rfl⟩
theorem ycL_law_314 : Byt cL_law 314 29 := byt_ck (lo := 288) (k := 26) kcL_law_288 rfl rfl
theorem dL_law_314 : At cL_law 314 (.iload_n 3) 1 315 := ⟨(o29 ycL_law_314), rfl⟩
theorem ycL_law_315 : Byt cL_law 315 4 := byt_ck (lo := 288) (k := 27) kcL_law_288 rfl rfl
theorem dL_law_315 : At cL_law 315 (.iconst 1) 1 316 := ⟨(o4 ycL_law_315), rfl⟩
theorem ycL_law_316 : Byt cL_law 316 96 := byt_ck (lo := 288) (k := 28) kcL_law_288 rfl rfl
theorem dL_law_316 : At cL_law 316 .iadd 1 317 := ⟨(o96 ycL_law_316), rfl⟩
theorem ycL_law_317 : Byt cL_law 317 46 := byt_ck (lo := 288) (k := 29) kcL_law_288 rfl rfl
theorem dL_law_317 : At cL_law 317 .iaload 1 318 := ⟨(o46 ycL_law_317), rfl⟩
theorem ycL_law_318 : Byt cL_law 318 182 := byt_ck (lo := 288) (k := 30) kcL_law_288 rfl rfl
theorem ycL_law_319 : Byt cL_law 319 0 := byt_ck (lo := 288) (k := 31) kcL_law_288 rfl rfl
theorem ycL_law_320 : Byt cL_law 320 23 := byt_ck (lo := 288) (k := 32) kcL_law_288 rfl rfl
theorem dL_law_318 : At cL_law 318 (.invokevirtual 23) 3 321 := ⟨(o182 23 ycL_law_318 ycL_law_319 ycL_law_320 rfl), rfl⟩
theorem ycL_law_321 : Byt cL_law 321 87 := byt_ck (lo := 288) (k := 33) kcL_law_288 rfl rfl
theorem dL_law_321 : At cL_law 321 .pop 1 322 := ⟨(o87 ycL_law_321), rfl⟩
theorem ycL_law_322 : Byt cL_law 322 44 := byt_ck (lo := 288) (k := 34) kcL_law_288 rfl rfl
theorem dL_law_322 : At cL_law 322 (.aload_n 2) 1 323 := ⟨(o44 ycL_law_322), rfl⟩
theorem ycL_law_323 : Byt cL_law 323 42 := byt_ck (lo := 288) (k := 35) kcL_law_288 rfl rfl
theorem dL_law_323 : At cL_law 323 (.aload_n 0) 1 324 := ⟨(o42 ycL_law_323), rfl⟩
theorem ycL_law_324 : Byt cL_law 324 29 := byt_ck (lo := 288) (k := 36) kcL_law_288 rfl rfl
theorem dL_law_324 : At cL_law 324 (.iload_n 3) 1 325 := ⟨(o29 ycL_law_324), rfl⟩
theorem ycL_law_325 : Byt cL_law 325 4 := byt_ck (lo := 288) (k := 37) kcL_law_288 rfl rfl
theorem dL_law_325 : At cL_law 325 (.iconst 1) 1 326 := ⟨(o4 ycL_law_325), rfl⟩
theorem ycL_law_326 : Byt cL_law 326 96 := byt_ck (lo := 288) (k := 38) kcL_law_288 rfl rfl
theorem dL_law_326 : At cL_law 326 .iadd 1 327 := ⟨(o96 ycL_law_326), rfl⟩
theorem ycL_law_327 : Byt cL_law 327 46 := byt_ck (lo := 288) (k := 39) kcL_law_288 rfl rfl
theorem dL_law_327 : At cL_law 327 .iaload 1 328 := ⟨(o46 ycL_law_327), rfl⟩
theorem ycL_law_328 : Byt cL_law 328 182 := byt_ck (lo := 288) (k := 40) kcL_law_288 rfl rfl
theorem ycL_law_329 : Byt cL_law 329 0 := byt_ck (lo := 288) (k := 41) kcL_law_288 rfl rfl
theorem ycL_law_330 : Byt cL_law 330 27 := byt_ck (lo := 288) (k := 42) kcL_law_288 rfl rfl
theorem dL_law_328 : At cL_law 328 (.invokevirtual 27) 3 331 := ⟨(o182 27 ycL_law_328 ycL_law_329 ycL_law_330 rfl), rfl⟩
theorem ycL_law_331 : Byt cL_law 331 87 := byt_ck (lo := 288) (k := 43) kcL_law_288 rfl rfl
theorem dL_law_331 : At cL_law 331 .pop 1 332 := ⟨(o87 ycL_law_331), rfl⟩
theorem ycL_law_332 : Byt cL_law 332 167 := byt_ck (lo := 288) (k := 44) kcL_law_288 rfl rfl
theorem ycL_law_333 : Byt cL_law 333 5 := byt_ck (lo := 288) (k := 45) kcL_law_288 rfl rfl
theorem ycL_law_334 : Byt cL_law 334 79 := byt_ck (lo := 288) (k := 46) kcL_law_288 rfl rfl
theorem dL_law_332 : AtB cL_law 332 (.goto 1359) 1359 335 1691 := ⟨(o167 1359 ycL_law_332 ycL_law_333 ycL_law_334 rfl), rfl, rfl⟩
theorem ycL_law_335 : Byt cL_law 335 43 := byt_ck (lo := 288) (k := 47) kcL_law_288 rfl rfl
theorem dL_law_335 : At cL_law 335 (.aload_n 1) 1 336 := ⟨(o43 ycL_law_335), rfl⟩
theorem ycL_law_336 : Byt cL_law 336 42 := byt_ck (lo := 336) (k := 0) kcL_law_336 rfl rfl
theorem dL_law_336 : At cL_law 336 (.aload_n 0) 1 337 := ⟨(o42 ycL_law_336), rfl⟩
theorem ycL_law_337 : Byt cL_law 337 29 := byt_ck (lo := 336) (k := 1) kcL_law_336 rfl rfl
theorem dL_law_337 : At cL_law 337 (.iload_n 3) 1 338 := ⟨(o29 ycL_law_337), rfl⟩
theorem ycL_law_338 : Byt cL_law 338 4 := byt_ck (lo := 336) (k := 2) kcL_law_336 rfl rfl
theorem dL_law_338 : At cL_law 338 (.iconst 1) 1 339 := ⟨(o4 ycL_law_338), rfl⟩
theorem ycL_law_339 : Byt cL_law 339 96 := byt_ck (lo := 336) (k := 3) kcL_law_336 rfl rfl
theorem dL_law_339 : At cL_law 339 .iadd 1 340 := ⟨(o96 ycL_law_339), rfl⟩
theorem ycL_law_340 : Byt cL_law 340 46 := byt_ck (lo := 336) (k := 4) kcL_law_336 rfl rfl
theorem dL_law_340 : At cL_law 340 .iaload 1 341 := ⟨(o46 ycL_law_340), rfl⟩
theorem ycL_law_341 : Byt cL_law 341 42 := byt_ck (lo := 336) (k := 5) kcL_law_336 rfl rfl
theorem dL_law_341 : At cL_law 341 (.aload_n 0) 1 342 := ⟨(o42 ycL_law_341), rfl⟩
theorem ycL_law_342 : Byt cL_law 342 29 := byt_ck (lo := 336) (k := 6) kcL_law_336 rfl rfl
theorem dL_law_342 : At cL_law 342 (.iload_n 3) 1 343 := ⟨(o29 ycL_law_342), rfl⟩
theorem ycL_law_343 : Byt cL_law 343 5 := byt_ck (lo := 336) (k := 7) kcL_law_336 rfl rfl
theorem dL_law_343 : At cL_law 343 (.iconst 2) 1 344 := ⟨(o5 ycL_law_343), rfl⟩
theorem ycL_law_344 : Byt cL_law 344 96 := byt_ck (lo := 336) (k := 8) kcL_law_336 rfl rfl
theorem dL_law_344 : At cL_law 344 .iadd 1 345 := ⟨(o96 ycL_law_344), rfl⟩
theorem ycL_law_345 : Byt cL_law 345 46 := byt_ck (lo := 336) (k := 9) kcL_law_336 rfl rfl
theorem dL_law_345 : At cL_law 345 .iaload 1 346 := ⟨(o46 ycL_law_345), rfl⟩
theorem ycL_law_346 : Byt cL_law 346 42 := byt_ck (lo := 336) (k := 10) kcL_law_336 rfl rfl
theorem dL_law_346 : At cL_law 346 (.aload_n 0) 1 347 := ⟨(o42 ycL_law_346), rfl⟩
theorem ycL_law_347 : Byt cL_law 347 29 := byt_ck (lo := 336) (k := 11) kcL_law_336 rfl rfl
theorem dL_law_347 : At cL_law 347 (.iload_n 3) 1 348 := ⟨(o29 ycL_law_347), rfl⟩
theorem ycL_law_348 : Byt cL_law 348 6 := byt_ck (lo := 336) (k := 12) kcL_law_336 rfl rfl
theorem dL_law_348 : At cL_law 348 (.iconst 3) 1 349 := ⟨(o6 ycL_law_348), rfl⟩
theorem ycL_law_349 : Byt cL_law 349 96 := byt_ck (lo := 336) (k := 13) kcL_law_336 rfl rfl
theorem dL_law_349 : At cL_law 349 .iadd 1 350 := ⟨(o96 ycL_law_349), rfl⟩
theorem ycL_law_350 : Byt cL_law 350 46 := byt_ck (lo := 336) (k := 14) kcL_law_336 rfl rfl
theorem dL_law_350 : At cL_law 350 .iaload 1 351 := ⟨(o46 ycL_law_350), rfl⟩
theorem ycL_law_351 : Byt cL_law 351 42 := byt_ck (lo := 336) (k := 15) kcL_law_336 rfl rfl
theorem dL_law_351 : At cL_law 351 (.aload_n 0) 1 352 := ⟨(o42 ycL_law_351), rfl⟩
theorem ycL_law_352 : Byt cL_law 352 29 := byt_ck (lo := 336) (k := 16) kcL_law_336 rfl rfl
theorem dL_law_352 : At cL_law 352 (.iload_n 3) 1 353 := ⟨(o29 ycL_law_352), rfl⟩
theorem ycL_law_353 : Byt cL_law 353 7 := byt_ck (lo := 336) (k := 17) kcL_law_336 rfl rfl
theorem dL_law_353 : At cL_law 353 (.iconst 4) 1 354 := ⟨(o7 ycL_law_353), rfl⟩
theorem ycL_law_354 : Byt cL_law 354 96 := byt_ck (lo := 336) (k := 18) kcL_law_336 rfl rfl
theorem dL_law_354 : At cL_law 354 .iadd 1 355 := ⟨(o96 ycL_law_354), rfl⟩
theorem ycL_law_355 : Byt cL_law 355 46 := byt_ck (lo := 336) (k := 19) kcL_law_336 rfl rfl
theorem dL_law_355 : At cL_law 355 .iaload 1 356 := ⟨(o46 ycL_law_355), rfl⟩
theorem ycL_law_356 : Byt cL_law 356 182 := byt_ck (lo := 336) (k := 20) kcL_law_336 rfl rfl
theorem ycL_law_357 : Byt cL_law 357 0 := byt_ck (lo := 336) (k := 21) kcL_law_336 rfl rfl
theorem ycL_law_358 : Byt cL_law 358 28 := byt_ck (lo := 336) (k := 22) kcL_law_336 rfl rfl
theorem dL_law_356 : At cL_law 356 (.invokevirtual 28) 3 359 := ⟨(o182 28 ycL_law_356 ycL_law_357 ycL_law_358 rfl), rfl⟩
theorem ycL_law_359 : Byt cL_law 359 87 := byt_ck (lo := 336) (k := 23) kcL_law_336 rfl rfl
theorem dL_law_359 : At cL_law 359 .pop 1 360 := ⟨(o87 ycL_law_359), rfl⟩
theorem ycL_law_360 : Byt cL_law 360 44 := byt_ck (lo := 336) (k := 24) kcL_law_336 rfl rfl
theorem dL_law_360 : At cL_law 360 (.aload_n 2) 1 361 := ⟨(o44 ycL_law_360), rfl⟩
theorem ycL_law_361 : Byt cL_law 361 42 := byt_ck (lo := 336) (k := 25) kcL_law_336 rfl rfl
theorem dL_law_361 : At cL_law 361 (.aload_n 0) 1 362 := ⟨(o42 ycL_law_361), rfl⟩
theorem ycL_law_362 : Byt cL_law 362 29 := byt_ck (lo := 336) (k := 26) kcL_law_336 rfl rfl
theorem dL_law_362 : At cL_law 362 (.iload_n 3) 1 363 := ⟨(o29 ycL_law_362), rfl⟩
theorem ycL_law_363 : Byt cL_law 363 4 := byt_ck (lo := 336) (k := 27) kcL_law_336 rfl rfl
theorem dL_law_363 : At cL_law 363 (.iconst 1) 1 364 := ⟨(o4 ycL_law_363), rfl⟩
theorem ycL_law_364 : Byt cL_law 364 96 := byt_ck (lo := 336) (k := 28) kcL_law_336 rfl rfl
theorem dL_law_364 : At cL_law 364 .iadd 1 365 := ⟨(o96 ycL_law_364), rfl⟩
theorem ycL_law_365 : Byt cL_law 365 46 := byt_ck (lo := 336) (k := 29) kcL_law_336 rfl rfl
theorem dL_law_365 : At cL_law 365 .iaload 1 366 := ⟨(o46 ycL_law_365), rfl⟩
theorem ycL_law_366 : Byt cL_law 366 42 := byt_ck (lo := 336) (k := 30) kcL_law_336 rfl rfl
theorem dL_law_366 : At cL_law 366 (.aload_n 0) 1 367 := ⟨(o42 ycL_law_366), rfl⟩
theorem ycL_law_367 : Byt cL_law 367 29 := byt_ck (lo := 336) (k := 31) kcL_law_336 rfl rfl
theorem dL_law_367 : At cL_law 367 (.iload_n 3) 1 368 := ⟨(o29 ycL_law_367), rfl⟩
theorem ycL_law_368 : Byt cL_law 368 5 := byt_ck (lo := 336) (k := 32) kcL_law_336 rfl rfl
theorem dL_law_368 : At cL_law 368 (.iconst 2) 1 369 := ⟨(o5 ycL_law_368), rfl⟩
theorem ycL_law_369 : Byt cL_law 369 96 := byt_ck (lo := 336) (k := 33) kcL_law_336 rfl rfl
theorem dL_law_369 : At cL_law 369 .iadd 1 370 := ⟨(o96 ycL_law_369), rfl⟩
theorem ycL_law_370 : Byt cL_law 370 46 := byt_ck (lo := 336) (k := 34) kcL_law_336 rfl rfl
theorem dL_law_370 : At cL_law 370 .iaload 1 371 := ⟨(o46 ycL_law_370), rfl⟩
theorem ycL_law_371 : Byt cL_law 371 42 := byt_ck (lo := 336) (k := 35) kcL_law_336 rfl rfl
theorem dL_law_371 : At cL_law 371 (.aload_n 0) 1 372 := ⟨(o42 ycL_law_371), rfl⟩
theorem ycL_law_372 : Byt cL_law 372 29 := byt_ck (lo := 336) (k := 36) kcL_law_336 rfl rfl
theorem dL_law_372 : At cL_law 372 (.iload_n 3) 1 373 := ⟨(o29 ycL_law_372), rfl⟩
theorem ycL_law_373 : Byt cL_law 373 6 := byt_ck (lo := 336) (k := 37) kcL_law_336 rfl rfl
theorem dL_law_373 : At cL_law 373 (.iconst 3) 1 374 := ⟨(o6 ycL_law_373), rfl⟩
theorem ycL_law_374 : Byt cL_law 374 96 := byt_ck (lo := 336) (k := 38) kcL_law_336 rfl rfl
theorem dL_law_374 : At cL_law 374 .iadd 1 375 := ⟨(o96 ycL_law_374), rfl⟩
theorem ycL_law_375 : Byt cL_law 375 46 := byt_ck (lo := 336) (k := 39) kcL_law_336 rfl rfl
theorem dL_law_375 : At cL_law 375 .iaload 1 376 := ⟨(o46 ycL_law_375), rfl⟩
theorem ycL_law_376 : Byt cL_law 376 42 := byt_ck (lo := 336) (k := 40) kcL_law_336 rfl rfl
theorem dL_law_376 : At cL_law 376 (.aload_n 0) 1 377 := ⟨(o42 ycL_law_376), rfl⟩
theorem ycL_law_377 : Byt cL_law 377 29 := byt_ck (lo := 336) (k := 41) kcL_law_336 rfl rfl
theorem dL_law_377 : At cL_law 377 (.iload_n 3) 1 378 := ⟨(o29 ycL_law_377), rfl⟩
theorem ycL_law_378 : Byt cL_law 378 7 := byt_ck (lo := 336) (k := 42) kcL_law_336 rfl rfl
theorem dL_law_378 : At cL_law 378 (.iconst 4) 1 379 := ⟨(o7 ycL_law_378), rfl⟩
theorem ycL_law_379 : Byt cL_law 379 96 := byt_ck (lo := 336) (k := 43) kcL_law_336 rfl rfl
theorem dL_law_379 : At cL_law 379 .iadd 1 380 := ⟨(o96 ycL_law_379), rfl⟩
theorem ycL_law_380 : Byt cL_law 380 46 := byt_ck (lo := 336) (k := 44) kcL_law_336 rfl rfl
theorem dL_law_380 : At cL_law 380 .iaload 1 381 := ⟨(o46 ycL_law_380), rfl⟩
theorem ycL_law_381 : Byt cL_law 381 182 := byt_ck (lo := 336) (k := 45) kcL_law_336 rfl rfl
theorem ycL_law_382 : Byt cL_law 382 0 := byt_ck (lo := 336) (k := 46) kcL_law_336 rfl rfl
theorem ycL_law_383 : Byt cL_law 383 32 := byt_ck (lo := 336) (k := 47) kcL_law_336 rfl rfl
theorem dL_law_381 : At cL_law 381 (.invokevirtual 32) 3 384 := ⟨(o182 32 ycL_law_381 ycL_law_382 ycL_law_383 rfl), rfl⟩
theorem ycL_law_384 : Byt cL_law 384 87 := byt_ck (lo := 384) (k := 0) kcL_law_384 rfl rfl
theorem dL_law_384 : At cL_law 384 .pop 1 385 := ⟨(o87 ycL_law_384), rfl⟩
theorem ycL_law_385 : Byt cL_law 385 167 := byt_ck (lo := 384) (k := 1) kcL_law_384 rfl rfl
theorem ycL_law_386 : Byt cL_law 386 5 := byt_ck (lo := 384) (k := 2) kcL_law_384 rfl rfl
theorem ycL_law_387 : Byt cL_law 387 26 := byt_ck (lo := 384) (k := 3) kcL_law_384 rfl rfl
theorem dL_law_385 : AtB cL_law 385 (.goto 1306) 1306 388 1691 := ⟨(o167 1306 ycL_law_385 ycL_law_386 ycL_law_387 rfl), rfl, rfl⟩
theorem ycL_law_388 : Byt cL_law 388 43 := byt_ck (lo := 384) (k := 4) kcL_law_384 rfl rfl
theorem dL_law_388 : At cL_law 388 (.aload_n 1) 1 389 := ⟨(o43 ycL_law_388), rfl⟩
theorem ycL_law_389 : Byt cL_law 389 42 := byt_ck (lo := 384) (k := 5) kcL_law_384 rfl rfl
theorem dL_law_389 : At cL_law 389 (.aload_n 0) 1 390 := ⟨(o42 ycL_law_389), rfl⟩
theorem ycL_law_390 : Byt cL_law 390 29 := byt_ck (lo := 384) (k := 6) kcL_law_384 rfl rfl
theorem dL_law_390 : At cL_law 390 (.iload_n 3) 1 391 := ⟨(o29 ycL_law_390), rfl⟩
theorem ycL_law_391 : Byt cL_law 391 4 := byt_ck (lo := 384) (k := 7) kcL_law_384 rfl rfl
theorem dL_law_391 : At cL_law 391 (.iconst 1) 1 392 := ⟨(o4 ycL_law_391), rfl⟩
theorem ycL_law_392 : Byt cL_law 392 96 := byt_ck (lo := 384) (k := 8) kcL_law_384 rfl rfl
theorem dL_law_392 : At cL_law 392 .iadd 1 393 := ⟨(o96 ycL_law_392), rfl⟩
theorem ycL_law_393 : Byt cL_law 393 46 := byt_ck (lo := 384) (k := 9) kcL_law_384 rfl rfl
theorem dL_law_393 : At cL_law 393 .iaload 1 394 := ⟨(o46 ycL_law_393), rfl⟩
theorem ycL_law_394 : Byt cL_law 394 42 := byt_ck (lo := 384) (k := 10) kcL_law_384 rfl rfl
theorem dL_law_394 : At cL_law 394 (.aload_n 0) 1 395 := ⟨(o42 ycL_law_394), rfl⟩
theorem ycL_law_395 : Byt cL_law 395 29 := byt_ck (lo := 384) (k := 11) kcL_law_384 rfl rfl
theorem dL_law_395 : At cL_law 395 (.iload_n 3) 1 396 := ⟨(o29 ycL_law_395), rfl⟩
theorem ycL_law_396 : Byt cL_law 396 5 := byt_ck (lo := 384) (k := 12) kcL_law_384 rfl rfl
theorem dL_law_396 : At cL_law 396 (.iconst 2) 1 397 := ⟨(o5 ycL_law_396), rfl⟩
theorem ycL_law_397 : Byt cL_law 397 96 := byt_ck (lo := 384) (k := 13) kcL_law_384 rfl rfl
theorem dL_law_397 : At cL_law 397 .iadd 1 398 := ⟨(o96 ycL_law_397), rfl⟩
theorem ycL_law_398 : Byt cL_law 398 46 := byt_ck (lo := 384) (k := 14) kcL_law_384 rfl rfl
theorem dL_law_398 : At cL_law 398 .iaload 1 399 := ⟨(o46 ycL_law_398), rfl⟩
theorem ycL_law_399 : Byt cL_law 399 42 := byt_ck (lo := 384) (k := 15) kcL_law_384 rfl rfl
theorem dL_law_399 : At cL_law 399 (.aload_n 0) 1 400 := ⟨(o42 ycL_law_399), rfl⟩
theorem ycL_law_400 : Byt cL_law 400 29 := byt_ck (lo := 384) (k := 16) kcL_law_384 rfl rfl
theorem dL_law_400 : At cL_law 400 (.iload_n 3) 1 401 := ⟨(o29 ycL_law_400), rfl⟩
theorem ycL_law_401 : Byt cL_law 401 6 := byt_ck (lo := 384) (k := 17) kcL_law_384 rfl rfl
theorem dL_law_401 : At cL_law 401 (.iconst 3) 1 402 := ⟨(o6 ycL_law_401), rfl⟩
theorem ycL_law_402 : Byt cL_law 402 96 := byt_ck (lo := 384) (k := 18) kcL_law_384 rfl rfl
theorem dL_law_402 : At cL_law 402 .iadd 1 403 := ⟨(o96 ycL_law_402), rfl⟩
theorem ycL_law_403 : Byt cL_law 403 46 := byt_ck (lo := 384) (k := 19) kcL_law_384 rfl rfl
theorem dL_law_403 : At cL_law 403 .iaload 1 404 := ⟨(o46 ycL_law_403), rfl⟩
theorem ycL_law_404 : Byt cL_law 404 42 := byt_ck (lo := 384) (k := 20) kcL_law_384 rfl rfl
theorem dL_law_404 : At cL_law 404 (.aload_n 0) 1 405 := ⟨(o42 ycL_law_404), rfl⟩
theorem ycL_law_405 : Byt cL_law 405 29 := byt_ck (lo := 384) (k := 21) kcL_law_384 rfl rfl
theorem dL_law_405 : At cL_law 405 (.iload_n 3) 1 406 := ⟨(o29 ycL_law_405), rfl⟩
theorem ycL_law_406 : Byt cL_law 406 7 := byt_ck (lo := 384) (k := 22) kcL_law_384 rfl rfl
theorem dL_law_406 : At cL_law 406 (.iconst 4) 1 407 := ⟨(o7 ycL_law_406), rfl⟩
theorem ycL_law_407 : Byt cL_law 407 96 := byt_ck (lo := 384) (k := 23) kcL_law_384 rfl rfl
theorem dL_law_407 : At cL_law 407 .iadd 1 408 := ⟨(o96 ycL_law_407), rfl⟩
theorem ycL_law_408 : Byt cL_law 408 46 := byt_ck (lo := 384) (k := 24) kcL_law_384 rfl rfl
theorem dL_law_408 : At cL_law 408 .iaload 1 409 := ⟨(o46 ycL_law_408), rfl⟩
theorem ycL_law_409 : Byt cL_law 409 182 := byt_ck (lo := 384) (k := 25) kcL_law_384 rfl rfl
theorem ycL_law_410 : Byt cL_law 410 0 := byt_ck (lo := 384) (k := 26) kcL_law_384 rfl rfl
theorem ycL_law_411 : Byt cL_law 411 33 := byt_ck (lo := 384) (k := 27) kcL_law_384 rfl rfl
theorem dL_law_409 : At cL_law 409 (.invokevirtual 33) 3 412 := ⟨(o182 33 ycL_law_409 ycL_law_410 ycL_law_411 rfl), rfl⟩
theorem ycL_law_412 : Byt cL_law 412 87 := byt_ck (lo := 384) (k := 28) kcL_law_384 rfl rfl
theorem dL_law_412 : At cL_law 412 .pop 1 413 := ⟨(o87 ycL_law_412), rfl⟩
theorem ycL_law_413 : Byt cL_law 413 44 := byt_ck (lo := 384) (k := 29) kcL_law_384 rfl rfl
theorem dL_law_413 : At cL_law 413 (.aload_n 2) 1 414 := ⟨(o44 ycL_law_413), rfl⟩
theorem ycL_law_414 : Byt cL_law 414 42 := byt_ck (lo := 384) (k := 30) kcL_law_384 rfl rfl
theorem dL_law_414 : At cL_law 414 (.aload_n 0) 1 415 := ⟨(o42 ycL_law_414), rfl⟩
theorem ycL_law_415 : Byt cL_law 415 29 := byt_ck (lo := 384) (k := 31) kcL_law_384 rfl rfl
theorem dL_law_415 : At cL_law 415 (.iload_n 3) 1 416 := ⟨(o29 ycL_law_415), rfl⟩
theorem ycL_law_416 : Byt cL_law 416 4 := byt_ck (lo := 384) (k := 32) kcL_law_384 rfl rfl
theorem dL_law_416 : At cL_law 416 (.iconst 1) 1 417 := ⟨(o4 ycL_law_416), rfl⟩
theorem ycL_law_417 : Byt cL_law 417 96 := byt_ck (lo := 384) (k := 33) kcL_law_384 rfl rfl
theorem dL_law_417 : At cL_law 417 .iadd 1 418 := ⟨(o96 ycL_law_417), rfl⟩
theorem ycL_law_418 : Byt cL_law 418 46 := byt_ck (lo := 384) (k := 34) kcL_law_384 rfl rfl
theorem dL_law_418 : At cL_law 418 .iaload 1 419 := ⟨(o46 ycL_law_418), rfl⟩
theorem ycL_law_419 : Byt cL_law 419 42 := byt_ck (lo := 384) (k := 35) kcL_law_384 rfl rfl
theorem dL_law_419 : At cL_law 419 (.aload_n 0) 1 420 := ⟨(o42 ycL_law_419), rfl⟩
theorem ycL_law_420 : Byt cL_law 420 29 := byt_ck (lo := 384) (k := 36) kcL_law_384 rfl rfl
theorem dL_law_420 : At cL_law 420 (.iload_n 3) 1 421 := ⟨(o29 ycL_law_420), rfl⟩
theorem ycL_law_421 : Byt cL_law 421 5 := byt_ck (lo := 384) (k := 37) kcL_law_384 rfl rfl
theorem dL_law_421 : At cL_law 421 (.iconst 2) 1 422 := ⟨(o5 ycL_law_421), rfl⟩
theorem ycL_law_422 : Byt cL_law 422 96 := byt_ck (lo := 384) (k := 38) kcL_law_384 rfl rfl
theorem dL_law_422 : At cL_law 422 .iadd 1 423 := ⟨(o96 ycL_law_422), rfl⟩
theorem ycL_law_423 : Byt cL_law 423 46 := byt_ck (lo := 384) (k := 39) kcL_law_384 rfl rfl
theorem dL_law_423 : At cL_law 423 .iaload 1 424 := ⟨(o46 ycL_law_423), rfl⟩
theorem ycL_law_424 : Byt cL_law 424 42 := byt_ck (lo := 384) (k := 40) kcL_law_384 rfl rfl
theorem dL_law_424 : At cL_law 424 (.aload_n 0) 1 425 := ⟨(o42 ycL_law_424), rfl⟩
theorem ycL_law_425 : Byt cL_law 425 29 := byt_ck (lo := 384) (k := 41) kcL_law_384 rfl rfl
theorem dL_law_425 : At cL_law 425 (.iload_n 3) 1 426 := ⟨(o29 ycL_law_425), rfl⟩
theorem ycL_law_426 : Byt cL_law 426 6 := byt_ck (lo := 384) (k := 42) kcL_law_384 rfl rfl
theorem dL_law_426 : At cL_law 426 (.iconst 3) 1 427 := ⟨(o6 ycL_law_426), rfl⟩
theorem ycL_law_427 : Byt cL_law 427 96 := byt_ck (lo := 384) (k := 43) kcL_law_384 rfl rfl
theorem dL_law_427 : At cL_law 427 .iadd 1 428 := ⟨(o96 ycL_law_427), rfl⟩
theorem ycL_law_428 : Byt cL_law 428 46 := byt_ck (lo := 384) (k := 44) kcL_law_384 rfl rfl
theorem dL_law_428 : At cL_law 428 .iaload 1 429 := ⟨(o46 ycL_law_428), rfl⟩
theorem ycL_law_429 : Byt cL_law 429 42 := byt_ck (lo := 384) (k := 45) kcL_law_384 rfl rfl
theorem dL_law_429 : At cL_law 429 (.aload_n 0) 1 430 := ⟨(o42 ycL_law_429), rfl⟩
theorem ycL_law_430 : Byt cL_law 430 29 := byt_ck (lo := 384) (k := 46) kcL_law_384 rfl rfl
theorem dL_law_430 : At cL_law 430 (.iload_n 3) 1 431 := ⟨(o29 ycL_law_430), rfl⟩
theorem ycL_law_431 : Byt cL_law 431 7 := byt_ck (lo := 384) (k := 47) kcL_law_384 rfl rfl
theorem dL_law_431 : At cL_law 431 (.iconst 4) 1 432 := ⟨(o7 ycL_law_431), rfl⟩
theorem ycL_law_432 : Byt cL_law 432 96 := byt_ck (lo := 432) (k := 0) kcL_law_432 rfl rfl
theorem dL_law_432 : At cL_law 432 .iadd 1 433 := ⟨(o96 ycL_law_432), rfl⟩
theorem ycL_law_433 : Byt cL_law 433 46 := byt_ck (lo := 432) (k := 1) kcL_law_432 rfl rfl
theorem dL_law_433 : At cL_law 433 .iaload 1 434 := ⟨(o46 ycL_law_433), rfl⟩
theorem ycL_law_434 : Byt cL_law 434 182 := byt_ck (lo := 432) (k := 2) kcL_law_432 rfl rfl
theorem ycL_law_435 : Byt cL_law 435 0 := byt_ck (lo := 432) (k := 3) kcL_law_432 rfl rfl
theorem ycL_law_436 : Byt cL_law 436 36 := byt_ck (lo := 432) (k := 4) kcL_law_432 rfl rfl
theorem dL_law_434 : At cL_law 434 (.invokevirtual 36) 3 437 := ⟨(o182 36 ycL_law_434 ycL_law_435 ycL_law_436 rfl), rfl⟩
theorem ycL_law_437 : Byt cL_law 437 87 := byt_ck (lo := 432) (k := 5) kcL_law_432 rfl rfl
theorem dL_law_437 : At cL_law 437 .pop 1 438 := ⟨(o87 ycL_law_437), rfl⟩
theorem ycL_law_438 : Byt cL_law 438 167 := byt_ck (lo := 432) (k := 6) kcL_law_432 rfl rfl
theorem ycL_law_439 : Byt cL_law 439 4 := byt_ck (lo := 432) (k := 7) kcL_law_432 rfl rfl
theorem ycL_law_440 : Byt cL_law 440 229 := byt_ck (lo := 432) (k := 8) kcL_law_432 rfl rfl
theorem dL_law_438 : AtB cL_law 438 (.goto 1253) 1253 441 1691 := ⟨(o167 1253 ycL_law_438 ycL_law_439 ycL_law_440 rfl), rfl, rfl⟩
theorem ycL_law_441 : Byt cL_law 441 43 := byt_ck (lo := 432) (k := 9) kcL_law_432 rfl rfl
theorem dL_law_441 : At cL_law 441 (.aload_n 1) 1 442 := ⟨(o43 ycL_law_441), rfl⟩
theorem ycL_law_442 : Byt cL_law 442 42 := byt_ck (lo := 432) (k := 10) kcL_law_432 rfl rfl
theorem dL_law_442 : At cL_law 442 (.aload_n 0) 1 443 := ⟨(o42 ycL_law_442), rfl⟩
theorem ycL_law_443 : Byt cL_law 443 29 := byt_ck (lo := 432) (k := 11) kcL_law_432 rfl rfl
theorem dL_law_443 : At cL_law 443 (.iload_n 3) 1 444 := ⟨(o29 ycL_law_443), rfl⟩
theorem ycL_law_444 : Byt cL_law 444 4 := byt_ck (lo := 432) (k := 12) kcL_law_432 rfl rfl
theorem dL_law_444 : At cL_law 444 (.iconst 1) 1 445 := ⟨(o4 ycL_law_444), rfl⟩
theorem ycL_law_445 : Byt cL_law 445 96 := byt_ck (lo := 432) (k := 13) kcL_law_432 rfl rfl
theorem dL_law_445 : At cL_law 445 .iadd 1 446 := ⟨(o96 ycL_law_445), rfl⟩
theorem ycL_law_446 : Byt cL_law 446 46 := byt_ck (lo := 432) (k := 14) kcL_law_432 rfl rfl
theorem dL_law_446 : At cL_law 446 .iaload 1 447 := ⟨(o46 ycL_law_446), rfl⟩
theorem ycL_law_447 : Byt cL_law 447 42 := byt_ck (lo := 432) (k := 15) kcL_law_432 rfl rfl
theorem dL_law_447 : At cL_law 447 (.aload_n 0) 1 448 := ⟨(o42 ycL_law_447), rfl⟩
theorem ycL_law_448 : Byt cL_law 448 29 := byt_ck (lo := 432) (k := 16) kcL_law_432 rfl rfl
theorem dL_law_448 : At cL_law 448 (.iload_n 3) 1 449 := ⟨(o29 ycL_law_448), rfl⟩
theorem ycL_law_449 : Byt cL_law 449 5 := byt_ck (lo := 432) (k := 17) kcL_law_432 rfl rfl
theorem dL_law_449 : At cL_law 449 (.iconst 2) 1 450 := ⟨(o5 ycL_law_449), rfl⟩
theorem ycL_law_450 : Byt cL_law 450 96 := byt_ck (lo := 432) (k := 18) kcL_law_432 rfl rfl
theorem dL_law_450 : At cL_law 450 .iadd 1 451 := ⟨(o96 ycL_law_450), rfl⟩
theorem ycL_law_451 : Byt cL_law 451 46 := byt_ck (lo := 432) (k := 19) kcL_law_432 rfl rfl
theorem dL_law_451 : At cL_law 451 .iaload 1 452 := ⟨(o46 ycL_law_451), rfl⟩
theorem ycL_law_452 : Byt cL_law 452 42 := byt_ck (lo := 432) (k := 20) kcL_law_432 rfl rfl
theorem dL_law_452 : At cL_law 452 (.aload_n 0) 1 453 := ⟨(o42 ycL_law_452), rfl⟩
theorem ycL_law_453 : Byt cL_law 453 29 := byt_ck (lo := 432) (k := 21) kcL_law_432 rfl rfl
theorem dL_law_453 : At cL_law 453 (.iload_n 3) 1 454 := ⟨(o29 ycL_law_453), rfl⟩
theorem ycL_law_454 : Byt cL_law 454 6 := byt_ck (lo := 432) (k := 22) kcL_law_432 rfl rfl
theorem dL_law_454 : At cL_law 454 (.iconst 3) 1 455 := ⟨(o6 ycL_law_454), rfl⟩
theorem ycL_law_455 : Byt cL_law 455 96 := byt_ck (lo := 432) (k := 23) kcL_law_432 rfl rfl
theorem dL_law_455 : At cL_law 455 .iadd 1 456 := ⟨(o96 ycL_law_455), rfl⟩
theorem ycL_law_456 : Byt cL_law 456 46 := byt_ck (lo := 432) (k := 24) kcL_law_432 rfl rfl
theorem dL_law_456 : At cL_law 456 .iaload 1 457 := ⟨(o46 ycL_law_456), rfl⟩
theorem ycL_law_457 : Byt cL_law 457 42 := byt_ck (lo := 432) (k := 25) kcL_law_432 rfl rfl
theorem dL_law_457 : At cL_law 457 (.aload_n 0) 1 458 := ⟨(o42 ycL_law_457), rfl⟩
theorem ycL_law_458 : Byt cL_law 458 29 := byt_ck (lo := 432) (k := 26) kcL_law_432 rfl rfl
theorem dL_law_458 : At cL_law 458 (.iload_n 3) 1 459 := ⟨(o29 ycL_law_458), rfl⟩
theorem ycL_law_459 : Byt cL_law 459 7 := byt_ck (lo := 432) (k := 27) kcL_law_432 rfl rfl
theorem dL_law_459 : At cL_law 459 (.iconst 4) 1 460 := ⟨(o7 ycL_law_459), rfl⟩
theorem ycL_law_460 : Byt cL_law 460 96 := byt_ck (lo := 432) (k := 28) kcL_law_432 rfl rfl
theorem dL_law_460 : At cL_law 460 .iadd 1 461 := ⟨(o96 ycL_law_460), rfl⟩
theorem ycL_law_461 : Byt cL_law 461 46 := byt_ck (lo := 432) (k := 29) kcL_law_432 rfl rfl
theorem dL_law_461 : At cL_law 461 .iaload 1 462 := ⟨(o46 ycL_law_461), rfl⟩
theorem ycL_law_462 : Byt cL_law 462 42 := byt_ck (lo := 432) (k := 30) kcL_law_432 rfl rfl
theorem dL_law_462 : At cL_law 462 (.aload_n 0) 1 463 := ⟨(o42 ycL_law_462), rfl⟩
theorem ycL_law_463 : Byt cL_law 463 29 := byt_ck (lo := 432) (k := 31) kcL_law_432 rfl rfl
theorem dL_law_463 : At cL_law 463 (.iload_n 3) 1 464 := ⟨(o29 ycL_law_463), rfl⟩
theorem ycL_law_464 : Byt cL_law 464 8 := byt_ck (lo := 432) (k := 32) kcL_law_432 rfl rfl
theorem dL_law_464 : At cL_law 464 (.iconst 5) 1 465 := ⟨(o8 ycL_law_464), rfl⟩
theorem ycL_law_465 : Byt cL_law 465 96 := byt_ck (lo := 432) (k := 33) kcL_law_432 rfl rfl
theorem dL_law_465 : At cL_law 465 .iadd 1 466 := ⟨(o96 ycL_law_465), rfl⟩
theorem ycL_law_466 : Byt cL_law 466 46 := byt_ck (lo := 432) (k := 34) kcL_law_432 rfl rfl
theorem dL_law_466 : At cL_law 466 .iaload 1 467 := ⟨(o46 ycL_law_466), rfl⟩
theorem ycL_law_467 : Byt cL_law 467 182 := byt_ck (lo := 432) (k := 35) kcL_law_432 rfl rfl
theorem ycL_law_468 : Byt cL_law 468 0 := byt_ck (lo := 432) (k := 36) kcL_law_432 rfl rfl
theorem ycL_law_469 : Byt cL_law 469 37 := byt_ck (lo := 432) (k := 37) kcL_law_432 rfl rfl
theorem dL_law_467 : At cL_law 467 (.invokevirtual 37) 3 470 := ⟨(o182 37 ycL_law_467 ycL_law_468 ycL_law_469 rfl), rfl⟩
theorem ycL_law_470 : Byt cL_law 470 87 := byt_ck (lo := 432) (k := 38) kcL_law_432 rfl rfl
theorem dL_law_470 : At cL_law 470 .pop 1 471 := ⟨(o87 ycL_law_470), rfl⟩
theorem ycL_law_471 : Byt cL_law 471 44 := byt_ck (lo := 432) (k := 39) kcL_law_432 rfl rfl
theorem dL_law_471 : At cL_law 471 (.aload_n 2) 1 472 := ⟨(o44 ycL_law_471), rfl⟩
theorem ycL_law_472 : Byt cL_law 472 42 := byt_ck (lo := 432) (k := 40) kcL_law_432 rfl rfl
theorem dL_law_472 : At cL_law 472 (.aload_n 0) 1 473 := ⟨(o42 ycL_law_472), rfl⟩
theorem ycL_law_473 : Byt cL_law 473 29 := byt_ck (lo := 432) (k := 41) kcL_law_432 rfl rfl
theorem dL_law_473 : At cL_law 473 (.iload_n 3) 1 474 := ⟨(o29 ycL_law_473), rfl⟩
theorem ycL_law_474 : Byt cL_law 474 4 := byt_ck (lo := 432) (k := 42) kcL_law_432 rfl rfl
theorem dL_law_474 : At cL_law 474 (.iconst 1) 1 475 := ⟨(o4 ycL_law_474), rfl⟩
theorem ycL_law_475 : Byt cL_law 475 96 := byt_ck (lo := 432) (k := 43) kcL_law_432 rfl rfl
theorem dL_law_475 : At cL_law 475 .iadd 1 476 := ⟨(o96 ycL_law_475), rfl⟩
theorem ycL_law_476 : Byt cL_law 476 46 := byt_ck (lo := 432) (k := 44) kcL_law_432 rfl rfl
theorem dL_law_476 : At cL_law 476 .iaload 1 477 := ⟨(o46 ycL_law_476), rfl⟩
theorem ycL_law_477 : Byt cL_law 477 42 := byt_ck (lo := 432) (k := 45) kcL_law_432 rfl rfl
theorem dL_law_477 : At cL_law 477 (.aload_n 0) 1 478 := ⟨(o42 ycL_law_477), rfl⟩
theorem ycL_law_478 : Byt cL_law 478 29 := byt_ck (lo := 432) (k := 46) kcL_law_432 rfl rfl
theorem dL_law_478 : At cL_law 478 (.iload_n 3) 1 479 := ⟨(o29 ycL_law_478), rfl⟩
theorem ycL_law_479 : Byt cL_law 479 5 := byt_ck (lo := 432) (k := 47) kcL_law_432 rfl rfl
theorem dL_law_479 : At cL_law 479 (.iconst 2) 1 480 := ⟨(o5 ycL_law_479), rfl⟩
theorem ycL_law_480 : Byt cL_law 480 96 := byt_ck (lo := 480) (k := 0) kcL_law_480 rfl rfl
theorem dL_law_480 : At cL_law 480 .iadd 1 481 := ⟨(o96 ycL_law_480), rfl⟩
theorem ycL_law_481 : Byt cL_law 481 46 := byt_ck (lo := 480) (k := 1) kcL_law_480 rfl rfl
theorem dL_law_481 : At cL_law 481 .iaload 1 482 := ⟨(o46 ycL_law_481), rfl⟩
theorem ycL_law_482 : Byt cL_law 482 42 := byt_ck (lo := 480) (k := 2) kcL_law_480 rfl rfl
theorem dL_law_482 : At cL_law 482 (.aload_n 0) 1 483 := ⟨(o42 ycL_law_482), rfl⟩
theorem ycL_law_483 : Byt cL_law 483 29 := byt_ck (lo := 480) (k := 3) kcL_law_480 rfl rfl
theorem dL_law_483 : At cL_law 483 (.iload_n 3) 1 484 := ⟨(o29 ycL_law_483), rfl⟩
theorem ycL_law_484 : Byt cL_law 484 6 := byt_ck (lo := 480) (k := 4) kcL_law_480 rfl rfl
theorem dL_law_484 : At cL_law 484 (.iconst 3) 1 485 := ⟨(o6 ycL_law_484), rfl⟩
theorem ycL_law_485 : Byt cL_law 485 96 := byt_ck (lo := 480) (k := 5) kcL_law_480 rfl rfl
theorem dL_law_485 : At cL_law 485 .iadd 1 486 := ⟨(o96 ycL_law_485), rfl⟩
theorem ycL_law_486 : Byt cL_law 486 46 := byt_ck (lo := 480) (k := 6) kcL_law_480 rfl rfl
theorem dL_law_486 : At cL_law 486 .iaload 1 487 := ⟨(o46 ycL_law_486), rfl⟩
theorem ycL_law_487 : Byt cL_law 487 42 := byt_ck (lo := 480) (k := 7) kcL_law_480 rfl rfl
theorem dL_law_487 : At cL_law 487 (.aload_n 0) 1 488 := ⟨(o42 ycL_law_487), rfl⟩
theorem ycL_law_488 : Byt cL_law 488 29 := byt_ck (lo := 480) (k := 8) kcL_law_480 rfl rfl
theorem dL_law_488 : At cL_law 488 (.iload_n 3) 1 489 := ⟨(o29 ycL_law_488), rfl⟩
theorem ycL_law_489 : Byt cL_law 489 7 := byt_ck (lo := 480) (k := 9) kcL_law_480 rfl rfl
theorem dL_law_489 : At cL_law 489 (.iconst 4) 1 490 := ⟨(o7 ycL_law_489), rfl⟩
theorem ycL_law_490 : Byt cL_law 490 96 := byt_ck (lo := 480) (k := 10) kcL_law_480 rfl rfl
theorem dL_law_490 : At cL_law 490 .iadd 1 491 := ⟨(o96 ycL_law_490), rfl⟩
theorem ycL_law_491 : Byt cL_law 491 46 := byt_ck (lo := 480) (k := 11) kcL_law_480 rfl rfl
theorem dL_law_491 : At cL_law 491 .iaload 1 492 := ⟨(o46 ycL_law_491), rfl⟩
theorem ycL_law_492 : Byt cL_law 492 42 := byt_ck (lo := 480) (k := 12) kcL_law_480 rfl rfl
theorem dL_law_492 : At cL_law 492 (.aload_n 0) 1 493 := ⟨(o42 ycL_law_492), rfl⟩
theorem ycL_law_493 : Byt cL_law 493 29 := byt_ck (lo := 480) (k := 13) kcL_law_480 rfl rfl
theorem dL_law_493 : At cL_law 493 (.iload_n 3) 1 494 := ⟨(o29 ycL_law_493), rfl⟩
theorem ycL_law_494 : Byt cL_law 494 8 := byt_ck (lo := 480) (k := 14) kcL_law_480 rfl rfl
theorem dL_law_494 : At cL_law 494 (.iconst 5) 1 495 := ⟨(o8 ycL_law_494), rfl⟩
theorem ycL_law_495 : Byt cL_law 495 96 := byt_ck (lo := 480) (k := 15) kcL_law_480 rfl rfl
theorem dL_law_495 : At cL_law 495 .iadd 1 496 := ⟨(o96 ycL_law_495), rfl⟩
theorem ycL_law_496 : Byt cL_law 496 46 := byt_ck (lo := 480) (k := 16) kcL_law_480 rfl rfl
theorem dL_law_496 : At cL_law 496 .iaload 1 497 := ⟨(o46 ycL_law_496), rfl⟩
theorem ycL_law_497 : Byt cL_law 497 182 := byt_ck (lo := 480) (k := 17) kcL_law_480 rfl rfl
theorem ycL_law_498 : Byt cL_law 498 0 := byt_ck (lo := 480) (k := 18) kcL_law_480 rfl rfl
theorem ycL_law_499 : Byt cL_law 499 41 := byt_ck (lo := 480) (k := 19) kcL_law_480 rfl rfl
theorem dL_law_497 : At cL_law 497 (.invokevirtual 41) 3 500 := ⟨(o182 41 ycL_law_497 ycL_law_498 ycL_law_499 rfl), rfl⟩
theorem ycL_law_500 : Byt cL_law 500 87 := byt_ck (lo := 480) (k := 20) kcL_law_480 rfl rfl
theorem dL_law_500 : At cL_law 500 .pop 1 501 := ⟨(o87 ycL_law_500), rfl⟩
theorem ycL_law_501 : Byt cL_law 501 167 := byt_ck (lo := 480) (k := 21) kcL_law_480 rfl rfl
theorem ycL_law_502 : Byt cL_law 502 4 := byt_ck (lo := 480) (k := 22) kcL_law_480 rfl rfl
theorem ycL_law_503 : Byt cL_law 503 166 := byt_ck (lo := 480) (k := 23) kcL_law_480 rfl rfl
theorem dL_law_501 : AtB cL_law 501 (.goto 1190) 1190 504 1691 := ⟨(o167 1190 ycL_law_501 ycL_law_502 ycL_law_503 rfl), rfl, rfl⟩
theorem ycL_law_504 : Byt cL_law 504 43 := byt_ck (lo := 480) (k := 24) kcL_law_480 rfl rfl
theorem dL_law_504 : At cL_law 504 (.aload_n 1) 1 505 := ⟨(o43 ycL_law_504), rfl⟩
theorem ycL_law_505 : Byt cL_law 505 42 := byt_ck (lo := 480) (k := 25) kcL_law_480 rfl rfl
theorem dL_law_505 : At cL_law 505 (.aload_n 0) 1 506 := ⟨(o42 ycL_law_505), rfl⟩
theorem ycL_law_506 : Byt cL_law 506 29 := byt_ck (lo := 480) (k := 26) kcL_law_480 rfl rfl
theorem dL_law_506 : At cL_law 506 (.iload_n 3) 1 507 := ⟨(o29 ycL_law_506), rfl⟩
theorem ycL_law_507 : Byt cL_law 507 4 := byt_ck (lo := 480) (k := 27) kcL_law_480 rfl rfl
theorem dL_law_507 : At cL_law 507 (.iconst 1) 1 508 := ⟨(o4 ycL_law_507), rfl⟩
theorem ycL_law_508 : Byt cL_law 508 96 := byt_ck (lo := 480) (k := 28) kcL_law_480 rfl rfl
theorem dL_law_508 : At cL_law 508 .iadd 1 509 := ⟨(o96 ycL_law_508), rfl⟩
theorem ycL_law_509 : Byt cL_law 509 46 := byt_ck (lo := 480) (k := 29) kcL_law_480 rfl rfl
theorem dL_law_509 : At cL_law 509 .iaload 1 510 := ⟨(o46 ycL_law_509), rfl⟩
theorem ycL_law_510 : Byt cL_law 510 182 := byt_ck (lo := 480) (k := 30) kcL_law_480 rfl rfl
theorem ycL_law_511 : Byt cL_law 511 0 := byt_ck (lo := 480) (k := 31) kcL_law_480 rfl rfl
theorem ycL_law_512 : Byt cL_law 512 42 := byt_ck (lo := 480) (k := 32) kcL_law_480 rfl rfl
theorem dL_law_510 : At cL_law 510 (.invokevirtual 42) 3 513 := ⟨(o182 42 ycL_law_510 ycL_law_511 ycL_law_512 rfl), rfl⟩
theorem ycL_law_513 : Byt cL_law 513 87 := byt_ck (lo := 480) (k := 33) kcL_law_480 rfl rfl
theorem dL_law_513 : At cL_law 513 .pop 1 514 := ⟨(o87 ycL_law_513), rfl⟩
theorem ycL_law_514 : Byt cL_law 514 44 := byt_ck (lo := 480) (k := 34) kcL_law_480 rfl rfl
theorem dL_law_514 : At cL_law 514 (.aload_n 2) 1 515 := ⟨(o44 ycL_law_514), rfl⟩
theorem ycL_law_515 : Byt cL_law 515 42 := byt_ck (lo := 480) (k := 35) kcL_law_480 rfl rfl
theorem dL_law_515 : At cL_law 515 (.aload_n 0) 1 516 := ⟨(o42 ycL_law_515), rfl⟩
theorem ycL_law_516 : Byt cL_law 516 29 := byt_ck (lo := 480) (k := 36) kcL_law_480 rfl rfl
theorem dL_law_516 : At cL_law 516 (.iload_n 3) 1 517 := ⟨(o29 ycL_law_516), rfl⟩
theorem ycL_law_517 : Byt cL_law 517 4 := byt_ck (lo := 480) (k := 37) kcL_law_480 rfl rfl
theorem dL_law_517 : At cL_law 517 (.iconst 1) 1 518 := ⟨(o4 ycL_law_517), rfl⟩
theorem ycL_law_518 : Byt cL_law 518 96 := byt_ck (lo := 480) (k := 38) kcL_law_480 rfl rfl
theorem dL_law_518 : At cL_law 518 .iadd 1 519 := ⟨(o96 ycL_law_518), rfl⟩
theorem ycL_law_519 : Byt cL_law 519 46 := byt_ck (lo := 480) (k := 39) kcL_law_480 rfl rfl
theorem dL_law_519 : At cL_law 519 .iaload 1 520 := ⟨(o46 ycL_law_519), rfl⟩
theorem ycL_law_520 : Byt cL_law 520 182 := byt_ck (lo := 480) (k := 40) kcL_law_480 rfl rfl
theorem ycL_law_521 : Byt cL_law 521 0 := byt_ck (lo := 480) (k := 41) kcL_law_480 rfl rfl
theorem ycL_law_522 : Byt cL_law 522 45 := byt_ck (lo := 480) (k := 42) kcL_law_480 rfl rfl
theorem dL_law_520 : At cL_law 520 (.invokevirtual 45) 3 523 := ⟨(o182 45 ycL_law_520 ycL_law_521 ycL_law_522 rfl), rfl⟩
theorem ycL_law_523 : Byt cL_law 523 87 := byt_ck (lo := 480) (k := 43) kcL_law_480 rfl rfl
theorem dL_law_523 : At cL_law 523 .pop 1 524 := ⟨(o87 ycL_law_523), rfl⟩
theorem ycL_law_524 : Byt cL_law 524 167 := byt_ck (lo := 480) (k := 44) kcL_law_480 rfl rfl
theorem ycL_law_525 : Byt cL_law 525 4 := byt_ck (lo := 480) (k := 45) kcL_law_480 rfl rfl
theorem ycL_law_526 : Byt cL_law 526 143 := byt_ck (lo := 480) (k := 46) kcL_law_480 rfl rfl
theorem dL_law_524 : AtB cL_law 524 (.goto 1167) 1167 527 1691 := ⟨(o167 1167 ycL_law_524 ycL_law_525 ycL_law_526 rfl), rfl, rfl⟩
theorem ycL_law_527 : Byt cL_law 527 43 := byt_ck (lo := 480) (k := 47) kcL_law_480 rfl rfl
theorem dL_law_527 : At cL_law 527 (.aload_n 1) 1 528 := ⟨(o43 ycL_law_527), rfl⟩
theorem ycL_law_528 : Byt cL_law 528 182 := byt_ck (lo := 528) (k := 0) kcL_law_528 rfl rfl
theorem ycL_law_529 : Byt cL_law 529 0 := byt_ck (lo := 528) (k := 1) kcL_law_528 rfl rfl
theorem ycL_law_530 : Byt cL_law 530 46 := byt_ck (lo := 528) (k := 2) kcL_law_528 rfl rfl
theorem dL_law_528 : At cL_law 528 (.invokevirtual 46) 3 531 := ⟨(o182 46 ycL_law_528 ycL_law_529 ycL_law_530 rfl), rfl⟩
theorem ycL_law_531 : Byt cL_law 531 87 := byt_ck (lo := 528) (k := 3) kcL_law_528 rfl rfl
theorem dL_law_531 : At cL_law 531 .pop 1 532 := ⟨(o87 ycL_law_531), rfl⟩
theorem ycL_law_532 : Byt cL_law 532 44 := byt_ck (lo := 528) (k := 4) kcL_law_528 rfl rfl
theorem dL_law_532 : At cL_law 532 (.aload_n 2) 1 533 := ⟨(o44 ycL_law_532), rfl⟩
theorem ycL_law_533 : Byt cL_law 533 182 := byt_ck (lo := 528) (k := 5) kcL_law_528 rfl rfl
theorem ycL_law_534 : Byt cL_law 534 0 := byt_ck (lo := 528) (k := 6) kcL_law_528 rfl rfl
theorem ycL_law_535 : Byt cL_law 535 50 := byt_ck (lo := 528) (k := 7) kcL_law_528 rfl rfl
theorem dL_law_533 : At cL_law 533 (.invokevirtual 50) 3 536 := ⟨(o182 50 ycL_law_533 ycL_law_534 ycL_law_535 rfl), rfl⟩
theorem ycL_law_536 : Byt cL_law 536 87 := byt_ck (lo := 528) (k := 8) kcL_law_528 rfl rfl
theorem dL_law_536 : At cL_law 536 .pop 1 537 := ⟨(o87 ycL_law_536), rfl⟩
theorem ycL_law_537 : Byt cL_law 537 167 := byt_ck (lo := 528) (k := 9) kcL_law_528 rfl rfl
theorem ycL_law_538 : Byt cL_law 538 4 := byt_ck (lo := 528) (k := 10) kcL_law_528 rfl rfl
theorem ycL_law_539 : Byt cL_law 539 130 := byt_ck (lo := 528) (k := 11) kcL_law_528 rfl rfl
theorem dL_law_537 : AtB cL_law 537 (.goto 1154) 1154 540 1691 := ⟨(o167 1154 ycL_law_537 ycL_law_538 ycL_law_539 rfl), rfl, rfl⟩
theorem ycL_law_540 : Byt cL_law 540 43 := byt_ck (lo := 528) (k := 12) kcL_law_528 rfl rfl
theorem dL_law_540 : At cL_law 540 (.aload_n 1) 1 541 := ⟨(o43 ycL_law_540), rfl⟩
theorem ycL_law_541 : Byt cL_law 541 42 := byt_ck (lo := 528) (k := 13) kcL_law_528 rfl rfl
theorem dL_law_541 : At cL_law 541 (.aload_n 0) 1 542 := ⟨(o42 ycL_law_541), rfl⟩
theorem ycL_law_542 : Byt cL_law 542 29 := byt_ck (lo := 528) (k := 14) kcL_law_528 rfl rfl
theorem dL_law_542 : At cL_law 542 (.iload_n 3) 1 543 := ⟨(o29 ycL_law_542), rfl⟩
theorem ycL_law_543 : Byt cL_law 543 4 := byt_ck (lo := 528) (k := 15) kcL_law_528 rfl rfl
theorem dL_law_543 : At cL_law 543 (.iconst 1) 1 544 := ⟨(o4 ycL_law_543), rfl⟩
theorem ycL_law_544 : Byt cL_law 544 96 := byt_ck (lo := 528) (k := 16) kcL_law_528 rfl rfl
theorem dL_law_544 : At cL_law 544 .iadd 1 545 := ⟨(o96 ycL_law_544), rfl⟩
theorem ycL_law_545 : Byt cL_law 545 46 := byt_ck (lo := 528) (k := 17) kcL_law_528 rfl rfl
theorem dL_law_545 : At cL_law 545 .iaload 1 546 := ⟨(o46 ycL_law_545), rfl⟩
theorem ycL_law_546 : Byt cL_law 546 182 := byt_ck (lo := 528) (k := 18) kcL_law_528 rfl rfl
theorem ycL_law_547 : Byt cL_law 547 0 := byt_ck (lo := 528) (k := 19) kcL_law_528 rfl rfl
theorem ycL_law_548 : Byt cL_law 548 51 := byt_ck (lo := 528) (k := 20) kcL_law_528 rfl rfl
theorem dL_law_546 : At cL_law 546 (.invokevirtual 51) 3 549 := ⟨(o182 51 ycL_law_546 ycL_law_547 ycL_law_548 rfl), rfl⟩
theorem ycL_law_549 : Byt cL_law 549 87 := byt_ck (lo := 528) (k := 21) kcL_law_528 rfl rfl
theorem dL_law_549 : At cL_law 549 .pop 1 550 := ⟨(o87 ycL_law_549), rfl⟩
theorem ycL_law_550 : Byt cL_law 550 44 := byt_ck (lo := 528) (k := 22) kcL_law_528 rfl rfl
theorem dL_law_550 : At cL_law 550 (.aload_n 2) 1 551 := ⟨(o44 ycL_law_550), rfl⟩
theorem ycL_law_551 : Byt cL_law 551 42 := byt_ck (lo := 528) (k := 23) kcL_law_528 rfl rfl
theorem dL_law_551 : At cL_law 551 (.aload_n 0) 1 552 := ⟨(o42 ycL_law_551), rfl⟩
theorem ycL_law_552 : Byt cL_law 552 29 := byt_ck (lo := 528) (k := 24) kcL_law_528 rfl rfl
theorem dL_law_552 : At cL_law 552 (.iload_n 3) 1 553 := ⟨(o29 ycL_law_552), rfl⟩
theorem ycL_law_553 : Byt cL_law 553 4 := byt_ck (lo := 528) (k := 25) kcL_law_528 rfl rfl
theorem dL_law_553 : At cL_law 553 (.iconst 1) 1 554 := ⟨(o4 ycL_law_553), rfl⟩
theorem ycL_law_554 : Byt cL_law 554 96 := byt_ck (lo := 528) (k := 26) kcL_law_528 rfl rfl
theorem dL_law_554 : At cL_law 554 .iadd 1 555 := ⟨(o96 ycL_law_554), rfl⟩
theorem ycL_law_555 : Byt cL_law 555 46 := byt_ck (lo := 528) (k := 27) kcL_law_528 rfl rfl
theorem dL_law_555 : At cL_law 555 .iaload 1 556 := ⟨(o46 ycL_law_555), rfl⟩
theorem ycL_law_556 : Byt cL_law 556 182 := byt_ck (lo := 528) (k := 28) kcL_law_528 rfl rfl
theorem ycL_law_557 : Byt cL_law 557 0 := byt_ck (lo := 528) (k := 29) kcL_law_528 rfl rfl
theorem ycL_law_558 : Byt cL_law 558 54 := byt_ck (lo := 528) (k := 30) kcL_law_528 rfl rfl
theorem dL_law_556 : At cL_law 556 (.invokevirtual 54) 3 559 := ⟨(o182 54 ycL_law_556 ycL_law_557 ycL_law_558 rfl), rfl⟩
theorem ycL_law_559 : Byt cL_law 559 87 := byt_ck (lo := 528) (k := 31) kcL_law_528 rfl rfl
theorem dL_law_559 : At cL_law 559 .pop 1 560 := ⟨(o87 ycL_law_559), rfl⟩
theorem ycL_law_560 : Byt cL_law 560 167 := byt_ck (lo := 528) (k := 32) kcL_law_528 rfl rfl
theorem ycL_law_561 : Byt cL_law 561 4 := byt_ck (lo := 528) (k := 33) kcL_law_528 rfl rfl
theorem ycL_law_562 : Byt cL_law 562 107 := byt_ck (lo := 528) (k := 34) kcL_law_528 rfl rfl
theorem dL_law_560 : AtB cL_law 560 (.goto 1131) 1131 563 1691 := ⟨(o167 1131 ycL_law_560 ycL_law_561 ycL_law_562 rfl), rfl, rfl⟩
theorem ycL_law_563 : Byt cL_law 563 43 := byt_ck (lo := 528) (k := 35) kcL_law_528 rfl rfl
theorem dL_law_563 : At cL_law 563 (.aload_n 1) 1 564 := ⟨(o43 ycL_law_563), rfl⟩
theorem ycL_law_564 : Byt cL_law 564 42 := byt_ck (lo := 528) (k := 36) kcL_law_528 rfl rfl
theorem dL_law_564 : At cL_law 564 (.aload_n 0) 1 565 := ⟨(o42 ycL_law_564), rfl⟩
theorem ycL_law_565 : Byt cL_law 565 29 := byt_ck (lo := 528) (k := 37) kcL_law_528 rfl rfl
theorem dL_law_565 : At cL_law 565 (.iload_n 3) 1 566 := ⟨(o29 ycL_law_565), rfl⟩
theorem ycL_law_566 : Byt cL_law 566 4 := byt_ck (lo := 528) (k := 38) kcL_law_528 rfl rfl
theorem dL_law_566 : At cL_law 566 (.iconst 1) 1 567 := ⟨(o4 ycL_law_566), rfl⟩
theorem ycL_law_567 : Byt cL_law 567 96 := byt_ck (lo := 528) (k := 39) kcL_law_528 rfl rfl
theorem dL_law_567 : At cL_law 567 .iadd 1 568 := ⟨(o96 ycL_law_567), rfl⟩
theorem ycL_law_568 : Byt cL_law 568 46 := byt_ck (lo := 528) (k := 40) kcL_law_528 rfl rfl
theorem dL_law_568 : At cL_law 568 .iaload 1 569 := ⟨(o46 ycL_law_568), rfl⟩
theorem ycL_law_569 : Byt cL_law 569 182 := byt_ck (lo := 528) (k := 41) kcL_law_528 rfl rfl
theorem ycL_law_570 : Byt cL_law 570 0 := byt_ck (lo := 528) (k := 42) kcL_law_528 rfl rfl
theorem ycL_law_571 : Byt cL_law 571 55 := byt_ck (lo := 528) (k := 43) kcL_law_528 rfl rfl
theorem dL_law_569 : At cL_law 569 (.invokevirtual 55) 3 572 := ⟨(o182 55 ycL_law_569 ycL_law_570 ycL_law_571 rfl), rfl⟩
theorem ycL_law_572 : Byt cL_law 572 87 := byt_ck (lo := 528) (k := 44) kcL_law_528 rfl rfl
theorem dL_law_572 : At cL_law 572 .pop 1 573 := ⟨(o87 ycL_law_572), rfl⟩
theorem ycL_law_573 : Byt cL_law 573 44 := byt_ck (lo := 528) (k := 45) kcL_law_528 rfl rfl
theorem dL_law_573 : At cL_law 573 (.aload_n 2) 1 574 := ⟨(o44 ycL_law_573), rfl⟩
theorem ycL_law_574 : Byt cL_law 574 42 := byt_ck (lo := 528) (k := 46) kcL_law_528 rfl rfl
theorem dL_law_574 : At cL_law 574 (.aload_n 0) 1 575 := ⟨(o42 ycL_law_574), rfl⟩
theorem ycL_law_575 : Byt cL_law 575 29 := byt_ck (lo := 528) (k := 47) kcL_law_528 rfl rfl
theorem dL_law_575 : At cL_law 575 (.iload_n 3) 1 576 := ⟨(o29 ycL_law_575), rfl⟩
theorem ycL_law_576 : Byt cL_law 576 4 := byt_ck (lo := 576) (k := 0) kcL_law_576 rfl rfl
theorem dL_law_576 : At cL_law 576 (.iconst 1) 1 577 := ⟨(o4 ycL_law_576), rfl⟩
theorem ycL_law_577 : Byt cL_law 577 96 := byt_ck (lo := 576) (k := 1) kcL_law_576 rfl rfl
theorem dL_law_577 : At cL_law 577 .iadd 1 578 := ⟨(o96 ycL_law_577), rfl⟩
theorem ycL_law_578 : Byt cL_law 578 46 := byt_ck (lo := 576) (k := 2) kcL_law_576 rfl rfl
theorem dL_law_578 : At cL_law 578 .iaload 1 579 := ⟨(o46 ycL_law_578), rfl⟩
theorem ycL_law_579 : Byt cL_law 579 182 := byt_ck (lo := 576) (k := 3) kcL_law_576 rfl rfl
theorem ycL_law_580 : Byt cL_law 580 0 := byt_ck (lo := 576) (k := 4) kcL_law_576 rfl rfl
theorem ycL_law_581 : Byt cL_law 581 58 := byt_ck (lo := 576) (k := 5) kcL_law_576 rfl rfl
theorem dL_law_579 : At cL_law 579 (.invokevirtual 58) 3 582 := ⟨(o182 58 ycL_law_579 ycL_law_580 ycL_law_581 rfl), rfl⟩
theorem ycL_law_582 : Byt cL_law 582 87 := byt_ck (lo := 576) (k := 6) kcL_law_576 rfl rfl
theorem dL_law_582 : At cL_law 582 .pop 1 583 := ⟨(o87 ycL_law_582), rfl⟩
theorem ycL_law_583 : Byt cL_law 583 167 := byt_ck (lo := 576) (k := 7) kcL_law_576 rfl rfl
theorem ycL_law_584 : Byt cL_law 584 4 := byt_ck (lo := 576) (k := 8) kcL_law_576 rfl rfl
theorem ycL_law_585 : Byt cL_law 585 84 := byt_ck (lo := 576) (k := 9) kcL_law_576 rfl rfl
theorem dL_law_583 : AtB cL_law 583 (.goto 1108) 1108 586 1691 := ⟨(o167 1108 ycL_law_583 ycL_law_584 ycL_law_585 rfl), rfl, rfl⟩
theorem ycL_law_586 : Byt cL_law 586 43 := byt_ck (lo := 576) (k := 10) kcL_law_576 rfl rfl
theorem dL_law_586 : At cL_law 586 (.aload_n 1) 1 587 := ⟨(o43 ycL_law_586), rfl⟩
theorem ycL_law_587 : Byt cL_law 587 42 := byt_ck (lo := 576) (k := 11) kcL_law_576 rfl rfl
theorem dL_law_587 : At cL_law 587 (.aload_n 0) 1 588 := ⟨(o42 ycL_law_587), rfl⟩
theorem ycL_law_588 : Byt cL_law 588 29 := byt_ck (lo := 576) (k := 12) kcL_law_576 rfl rfl
theorem dL_law_588 : At cL_law 588 (.iload_n 3) 1 589 := ⟨(o29 ycL_law_588), rfl⟩
theorem ycL_law_589 : Byt cL_law 589 4 := byt_ck (lo := 576) (k := 13) kcL_law_576 rfl rfl
theorem dL_law_589 : At cL_law 589 (.iconst 1) 1 590 := ⟨(o4 ycL_law_589), rfl⟩
theorem ycL_law_590 : Byt cL_law 590 96 := byt_ck (lo := 576) (k := 14) kcL_law_576 rfl rfl
theorem dL_law_590 : At cL_law 590 .iadd 1 591 := ⟨(o96 ycL_law_590), rfl⟩
theorem ycL_law_591 : Byt cL_law 591 46 := byt_ck (lo := 576) (k := 15) kcL_law_576 rfl rfl
theorem dL_law_591 : At cL_law 591 .iaload 1 592 := ⟨(o46 ycL_law_591), rfl⟩
theorem ycL_law_592 : Byt cL_law 592 42 := byt_ck (lo := 576) (k := 16) kcL_law_576 rfl rfl
theorem dL_law_592 : At cL_law 592 (.aload_n 0) 1 593 := ⟨(o42 ycL_law_592), rfl⟩
theorem ycL_law_593 : Byt cL_law 593 29 := byt_ck (lo := 576) (k := 17) kcL_law_576 rfl rfl
theorem dL_law_593 : At cL_law 593 (.iload_n 3) 1 594 := ⟨(o29 ycL_law_593), rfl⟩
theorem ycL_law_594 : Byt cL_law 594 5 := byt_ck (lo := 576) (k := 18) kcL_law_576 rfl rfl
theorem dL_law_594 : At cL_law 594 (.iconst 2) 1 595 := ⟨(o5 ycL_law_594), rfl⟩
theorem ycL_law_595 : Byt cL_law 595 96 := byt_ck (lo := 576) (k := 19) kcL_law_576 rfl rfl
theorem dL_law_595 : At cL_law 595 .iadd 1 596 := ⟨(o96 ycL_law_595), rfl⟩
theorem ycL_law_596 : Byt cL_law 596 46 := byt_ck (lo := 576) (k := 20) kcL_law_576 rfl rfl
theorem dL_law_596 : At cL_law 596 .iaload 1 597 := ⟨(o46 ycL_law_596), rfl⟩
theorem ycL_law_597 : Byt cL_law 597 182 := byt_ck (lo := 576) (k := 21) kcL_law_576 rfl rfl
theorem ycL_law_598 : Byt cL_law 598 0 := byt_ck (lo := 576) (k := 22) kcL_law_576 rfl rfl
theorem ycL_law_599 : Byt cL_law 599 59 := byt_ck (lo := 576) (k := 23) kcL_law_576 rfl rfl
theorem dL_law_597 : At cL_law 597 (.invokevirtual 59) 3 600 := ⟨(o182 59 ycL_law_597 ycL_law_598 ycL_law_599 rfl), rfl⟩
theorem ycL_law_600 : Byt cL_law 600 87 := byt_ck (lo := 576) (k := 24) kcL_law_576 rfl rfl
theorem dL_law_600 : At cL_law 600 .pop 1 601 := ⟨(o87 ycL_law_600), rfl⟩
theorem ycL_law_601 : Byt cL_law 601 44 := byt_ck (lo := 576) (k := 25) kcL_law_576 rfl rfl
theorem dL_law_601 : At cL_law 601 (.aload_n 2) 1 602 := ⟨(o44 ycL_law_601), rfl⟩
theorem ycL_law_602 : Byt cL_law 602 42 := byt_ck (lo := 576) (k := 26) kcL_law_576 rfl rfl
theorem dL_law_602 : At cL_law 602 (.aload_n 0) 1 603 := ⟨(o42 ycL_law_602), rfl⟩
theorem ycL_law_603 : Byt cL_law 603 29 := byt_ck (lo := 576) (k := 27) kcL_law_576 rfl rfl
theorem dL_law_603 : At cL_law 603 (.iload_n 3) 1 604 := ⟨(o29 ycL_law_603), rfl⟩
theorem ycL_law_604 : Byt cL_law 604 4 := byt_ck (lo := 576) (k := 28) kcL_law_576 rfl rfl
theorem dL_law_604 : At cL_law 604 (.iconst 1) 1 605 := ⟨(o4 ycL_law_604), rfl⟩
theorem ycL_law_605 : Byt cL_law 605 96 := byt_ck (lo := 576) (k := 29) kcL_law_576 rfl rfl
theorem dL_law_605 : At cL_law 605 .iadd 1 606 := ⟨(o96 ycL_law_605), rfl⟩
theorem ycL_law_606 : Byt cL_law 606 46 := byt_ck (lo := 576) (k := 30) kcL_law_576 rfl rfl
theorem dL_law_606 : At cL_law 606 .iaload 1 607 := ⟨(o46 ycL_law_606), rfl⟩
theorem ycL_law_607 : Byt cL_law 607 42 := byt_ck (lo := 576) (k := 31) kcL_law_576 rfl rfl
theorem dL_law_607 : At cL_law 607 (.aload_n 0) 1 608 := ⟨(o42 ycL_law_607), rfl⟩
theorem ycL_law_608 : Byt cL_law 608 29 := byt_ck (lo := 576) (k := 32) kcL_law_576 rfl rfl
theorem dL_law_608 : At cL_law 608 (.iload_n 3) 1 609 := ⟨(o29 ycL_law_608), rfl⟩
theorem ycL_law_609 : Byt cL_law 609 5 := byt_ck (lo := 576) (k := 33) kcL_law_576 rfl rfl
theorem dL_law_609 : At cL_law 609 (.iconst 2) 1 610 := ⟨(o5 ycL_law_609), rfl⟩
theorem ycL_law_610 : Byt cL_law 610 96 := byt_ck (lo := 576) (k := 34) kcL_law_576 rfl rfl
theorem dL_law_610 : At cL_law 610 .iadd 1 611 := ⟨(o96 ycL_law_610), rfl⟩
theorem ycL_law_611 : Byt cL_law 611 46 := byt_ck (lo := 576) (k := 35) kcL_law_576 rfl rfl
theorem dL_law_611 : At cL_law 611 .iaload 1 612 := ⟨(o46 ycL_law_611), rfl⟩
theorem ycL_law_612 : Byt cL_law 612 182 := byt_ck (lo := 576) (k := 36) kcL_law_576 rfl rfl
theorem ycL_law_613 : Byt cL_law 613 0 := byt_ck (lo := 576) (k := 37) kcL_law_576 rfl rfl
theorem ycL_law_614 : Byt cL_law 614 63 := byt_ck (lo := 576) (k := 38) kcL_law_576 rfl rfl
theorem dL_law_612 : At cL_law 612 (.invokevirtual 63) 3 615 := ⟨(o182 63 ycL_law_612 ycL_law_613 ycL_law_614 rfl), rfl⟩
theorem ycL_law_615 : Byt cL_law 615 87 := byt_ck (lo := 576) (k := 39) kcL_law_576 rfl rfl
theorem dL_law_615 : At cL_law 615 .pop 1 616 := ⟨(o87 ycL_law_615), rfl⟩
theorem ycL_law_616 : Byt cL_law 616 167 := byt_ck (lo := 576) (k := 40) kcL_law_576 rfl rfl
theorem ycL_law_617 : Byt cL_law 617 4 := byt_ck (lo := 576) (k := 41) kcL_law_576 rfl rfl
theorem ycL_law_618 : Byt cL_law 618 51 := byt_ck (lo := 576) (k := 42) kcL_law_576 rfl rfl
theorem dL_law_616 : AtB cL_law 616 (.goto 1075) 1075 619 1691 := ⟨(o167 1075 ycL_law_616 ycL_law_617 ycL_law_618 rfl), rfl, rfl⟩
theorem ycL_law_619 : Byt cL_law 619 43 := byt_ck (lo := 576) (k := 43) kcL_law_576 rfl rfl
theorem dL_law_619 : At cL_law 619 (.aload_n 1) 1 620 := ⟨(o43 ycL_law_619), rfl⟩
theorem ycL_law_620 : Byt cL_law 620 42 := byt_ck (lo := 576) (k := 44) kcL_law_576 rfl rfl
theorem dL_law_620 : At cL_law 620 (.aload_n 0) 1 621 := ⟨(o42 ycL_law_620), rfl⟩
theorem ycL_law_621 : Byt cL_law 621 29 := byt_ck (lo := 576) (k := 45) kcL_law_576 rfl rfl
theorem dL_law_621 : At cL_law 621 (.iload_n 3) 1 622 := ⟨(o29 ycL_law_621), rfl⟩
theorem ycL_law_622 : Byt cL_law 622 4 := byt_ck (lo := 576) (k := 46) kcL_law_576 rfl rfl
theorem dL_law_622 : At cL_law 622 (.iconst 1) 1 623 := ⟨(o4 ycL_law_622), rfl⟩
theorem ycL_law_623 : Byt cL_law 623 96 := byt_ck (lo := 576) (k := 47) kcL_law_576 rfl rfl
theorem dL_law_623 : At cL_law 623 .iadd 1 624 := ⟨(o96 ycL_law_623), rfl⟩
theorem ycL_law_624 : Byt cL_law 624 46 := byt_ck (lo := 624) (k := 0) kcL_law_624 rfl rfl
theorem dL_law_624 : At cL_law 624 .iaload 1 625 := ⟨(o46 ycL_law_624), rfl⟩
theorem ycL_law_625 : Byt cL_law 625 182 := byt_ck (lo := 624) (k := 1) kcL_law_624 rfl rfl
theorem ycL_law_626 : Byt cL_law 626 0 := byt_ck (lo := 624) (k := 2) kcL_law_624 rfl rfl
theorem ycL_law_627 : Byt cL_law 627 64 := byt_ck (lo := 624) (k := 3) kcL_law_624 rfl rfl
theorem dL_law_625 : At cL_law 625 (.invokevirtual 64) 3 628 := ⟨(o182 64 ycL_law_625 ycL_law_626 ycL_law_627 rfl), rfl⟩
theorem ycL_law_628 : Byt cL_law 628 87 := byt_ck (lo := 624) (k := 4) kcL_law_624 rfl rfl
theorem dL_law_628 : At cL_law 628 .pop 1 629 := ⟨(o87 ycL_law_628), rfl⟩
theorem ycL_law_629 : Byt cL_law 629 44 := byt_ck (lo := 624) (k := 5) kcL_law_624 rfl rfl
theorem dL_law_629 : At cL_law 629 (.aload_n 2) 1 630 := ⟨(o44 ycL_law_629), rfl⟩
theorem ycL_law_630 : Byt cL_law 630 42 := byt_ck (lo := 624) (k := 6) kcL_law_624 rfl rfl
theorem dL_law_630 : At cL_law 630 (.aload_n 0) 1 631 := ⟨(o42 ycL_law_630), rfl⟩
theorem ycL_law_631 : Byt cL_law 631 29 := byt_ck (lo := 624) (k := 7) kcL_law_624 rfl rfl
theorem dL_law_631 : At cL_law 631 (.iload_n 3) 1 632 := ⟨(o29 ycL_law_631), rfl⟩
theorem ycL_law_632 : Byt cL_law 632 4 := byt_ck (lo := 624) (k := 8) kcL_law_624 rfl rfl
theorem dL_law_632 : At cL_law 632 (.iconst 1) 1 633 := ⟨(o4 ycL_law_632), rfl⟩
theorem ycL_law_633 : Byt cL_law 633 96 := byt_ck (lo := 624) (k := 9) kcL_law_624 rfl rfl
theorem dL_law_633 : At cL_law 633 .iadd 1 634 := ⟨(o96 ycL_law_633), rfl⟩
theorem ycL_law_634 : Byt cL_law 634 46 := byt_ck (lo := 624) (k := 10) kcL_law_624 rfl rfl
theorem dL_law_634 : At cL_law 634 .iaload 1 635 := ⟨(o46 ycL_law_634), rfl⟩
theorem ycL_law_635 : Byt cL_law 635 182 := byt_ck (lo := 624) (k := 11) kcL_law_624 rfl rfl
theorem ycL_law_636 : Byt cL_law 636 0 := byt_ck (lo := 624) (k := 12) kcL_law_624 rfl rfl
theorem ycL_law_637 : Byt cL_law 637 67 := byt_ck (lo := 624) (k := 13) kcL_law_624 rfl rfl
theorem dL_law_635 : At cL_law 635 (.invokevirtual 67) 3 638 := ⟨(o182 67 ycL_law_635 ycL_law_636 ycL_law_637 rfl), rfl⟩
theorem ycL_law_638 : Byt cL_law 638 87 := byt_ck (lo := 624) (k := 14) kcL_law_624 rfl rfl
theorem dL_law_638 : At cL_law 638 .pop 1 639 := ⟨(o87 ycL_law_638), rfl⟩
theorem ycL_law_639 : Byt cL_law 639 167 := byt_ck (lo := 624) (k := 15) kcL_law_624 rfl rfl
theorem ycL_law_640 : Byt cL_law 640 4 := byt_ck (lo := 624) (k := 16) kcL_law_624 rfl rfl
theorem ycL_law_641 : Byt cL_law 641 28 := byt_ck (lo := 624) (k := 17) kcL_law_624 rfl rfl
theorem dL_law_639 : AtB cL_law 639 (.goto 1052) 1052 642 1691 := ⟨(o167 1052 ycL_law_639 ycL_law_640 ycL_law_641 rfl), rfl, rfl⟩
theorem ycL_law_642 : Byt cL_law 642 43 := byt_ck (lo := 624) (k := 18) kcL_law_624 rfl rfl
theorem dL_law_642 : At cL_law 642 (.aload_n 1) 1 643 := ⟨(o43 ycL_law_642), rfl⟩
theorem ycL_law_643 : Byt cL_law 643 42 := byt_ck (lo := 624) (k := 19) kcL_law_624 rfl rfl
theorem dL_law_643 : At cL_law 643 (.aload_n 0) 1 644 := ⟨(o42 ycL_law_643), rfl⟩
theorem ycL_law_644 : Byt cL_law 644 29 := byt_ck (lo := 624) (k := 20) kcL_law_624 rfl rfl
theorem dL_law_644 : At cL_law 644 (.iload_n 3) 1 645 := ⟨(o29 ycL_law_644), rfl⟩
theorem ycL_law_645 : Byt cL_law 645 4 := byt_ck (lo := 624) (k := 21) kcL_law_624 rfl rfl
theorem dL_law_645 : At cL_law 645 (.iconst 1) 1 646 := ⟨(o4 ycL_law_645), rfl⟩
theorem ycL_law_646 : Byt cL_law 646 96 := byt_ck (lo := 624) (k := 22) kcL_law_624 rfl rfl
theorem dL_law_646 : At cL_law 646 .iadd 1 647 := ⟨(o96 ycL_law_646), rfl⟩
theorem ycL_law_647 : Byt cL_law 647 46 := byt_ck (lo := 624) (k := 23) kcL_law_624 rfl rfl
theorem dL_law_647 : At cL_law 647 .iaload 1 648 := ⟨(o46 ycL_law_647), rfl⟩
theorem ycL_law_648 : Byt cL_law 648 182 := byt_ck (lo := 624) (k := 24) kcL_law_624 rfl rfl
theorem ycL_law_649 : Byt cL_law 649 0 := byt_ck (lo := 624) (k := 25) kcL_law_624 rfl rfl
theorem ycL_law_650 : Byt cL_law 650 68 := byt_ck (lo := 624) (k := 26) kcL_law_624 rfl rfl
theorem dL_law_648 : At cL_law 648 (.invokevirtual 68) 3 651 := ⟨(o182 68 ycL_law_648 ycL_law_649 ycL_law_650 rfl), rfl⟩
theorem ycL_law_651 : Byt cL_law 651 87 := byt_ck (lo := 624) (k := 27) kcL_law_624 rfl rfl
theorem dL_law_651 : At cL_law 651 .pop 1 652 := ⟨(o87 ycL_law_651), rfl⟩
theorem ycL_law_652 : Byt cL_law 652 44 := byt_ck (lo := 624) (k := 28) kcL_law_624 rfl rfl
theorem dL_law_652 : At cL_law 652 (.aload_n 2) 1 653 := ⟨(o44 ycL_law_652), rfl⟩
theorem ycL_law_653 : Byt cL_law 653 42 := byt_ck (lo := 624) (k := 29) kcL_law_624 rfl rfl
theorem dL_law_653 : At cL_law 653 (.aload_n 0) 1 654 := ⟨(o42 ycL_law_653), rfl⟩
theorem ycL_law_654 : Byt cL_law 654 29 := byt_ck (lo := 624) (k := 30) kcL_law_624 rfl rfl
theorem dL_law_654 : At cL_law 654 (.iload_n 3) 1 655 := ⟨(o29 ycL_law_654), rfl⟩
theorem ycL_law_655 : Byt cL_law 655 4 := byt_ck (lo := 624) (k := 31) kcL_law_624 rfl rfl
theorem dL_law_655 : At cL_law 655 (.iconst 1) 1 656 := ⟨(o4 ycL_law_655), rfl⟩
theorem ycL_law_656 : Byt cL_law 656 96 := byt_ck (lo := 624) (k := 32) kcL_law_624 rfl rfl
theorem dL_law_656 : At cL_law 656 .iadd 1 657 := ⟨(o96 ycL_law_656), rfl⟩
theorem ycL_law_657 : Byt cL_law 657 46 := byt_ck (lo := 624) (k := 33) kcL_law_624 rfl rfl
theorem dL_law_657 : At cL_law 657 .iaload 1 658 := ⟨(o46 ycL_law_657), rfl⟩
theorem ycL_law_658 : Byt cL_law 658 182 := byt_ck (lo := 624) (k := 34) kcL_law_624 rfl rfl
theorem ycL_law_659 : Byt cL_law 659 0 := byt_ck (lo := 624) (k := 35) kcL_law_624 rfl rfl
theorem ycL_law_660 : Byt cL_law 660 71 := byt_ck (lo := 624) (k := 36) kcL_law_624 rfl rfl
theorem dL_law_658 : At cL_law 658 (.invokevirtual 71) 3 661 := ⟨(o182 71 ycL_law_658 ycL_law_659 ycL_law_660 rfl), rfl⟩
theorem ycL_law_661 : Byt cL_law 661 87 := byt_ck (lo := 624) (k := 37) kcL_law_624 rfl rfl
theorem dL_law_661 : At cL_law 661 .pop 1 662 := ⟨(o87 ycL_law_661), rfl⟩
theorem ycL_law_662 : Byt cL_law 662 167 := byt_ck (lo := 624) (k := 38) kcL_law_624 rfl rfl
theorem ycL_law_663 : Byt cL_law 663 4 := byt_ck (lo := 624) (k := 39) kcL_law_624 rfl rfl
theorem ycL_law_664 : Byt cL_law 664 5 := byt_ck (lo := 624) (k := 40) kcL_law_624 rfl rfl
theorem dL_law_662 : AtB cL_law 662 (.goto 1029) 1029 665 1691 := ⟨(o167 1029 ycL_law_662 ycL_law_663 ycL_law_664 rfl), rfl, rfl⟩
theorem ycL_law_665 : Byt cL_law 665 43 := byt_ck (lo := 624) (k := 41) kcL_law_624 rfl rfl
theorem dL_law_665 : At cL_law 665 (.aload_n 1) 1 666 := ⟨(o43 ycL_law_665), rfl⟩
theorem ycL_law_666 : Byt cL_law 666 42 := byt_ck (lo := 624) (k := 42) kcL_law_624 rfl rfl
theorem dL_law_666 : At cL_law 666 (.aload_n 0) 1 667 := ⟨(o42 ycL_law_666), rfl⟩
theorem ycL_law_667 : Byt cL_law 667 29 := byt_ck (lo := 624) (k := 43) kcL_law_624 rfl rfl
theorem dL_law_667 : At cL_law 667 (.iload_n 3) 1 668 := ⟨(o29 ycL_law_667), rfl⟩
theorem ycL_law_668 : Byt cL_law 668 4 := byt_ck (lo := 624) (k := 44) kcL_law_624 rfl rfl
theorem dL_law_668 : At cL_law 668 (.iconst 1) 1 669 := ⟨(o4 ycL_law_668), rfl⟩
theorem ycL_law_669 : Byt cL_law 669 96 := byt_ck (lo := 624) (k := 45) kcL_law_624 rfl rfl
theorem dL_law_669 : At cL_law 669 .iadd 1 670 := ⟨(o96 ycL_law_669), rfl⟩
theorem ycL_law_670 : Byt cL_law 670 46 := byt_ck (lo := 624) (k := 46) kcL_law_624 rfl rfl
theorem dL_law_670 : At cL_law 670 .iaload 1 671 := ⟨(o46 ycL_law_670), rfl⟩
theorem ycL_law_671 : Byt cL_law 671 182 := byt_ck (lo := 624) (k := 47) kcL_law_624 rfl rfl
theorem ycL_law_672 : Byt cL_law 672 0 := byt_ck (lo := 672) (k := 0) kcL_law_672 rfl rfl
theorem ycL_law_673 : Byt cL_law 673 72 := byt_ck (lo := 672) (k := 1) kcL_law_672 rfl rfl
theorem dL_law_671 : At cL_law 671 (.invokevirtual 72) 3 674 := ⟨(o182 72 ycL_law_671 ycL_law_672 ycL_law_673 rfl), rfl⟩
theorem ycL_law_674 : Byt cL_law 674 87 := byt_ck (lo := 672) (k := 2) kcL_law_672 rfl rfl
theorem dL_law_674 : At cL_law 674 .pop 1 675 := ⟨(o87 ycL_law_674), rfl⟩
theorem ycL_law_675 : Byt cL_law 675 44 := byt_ck (lo := 672) (k := 3) kcL_law_672 rfl rfl
theorem dL_law_675 : At cL_law 675 (.aload_n 2) 1 676 := ⟨(o44 ycL_law_675), rfl⟩
theorem ycL_law_676 : Byt cL_law 676 42 := byt_ck (lo := 672) (k := 4) kcL_law_672 rfl rfl
theorem dL_law_676 : At cL_law 676 (.aload_n 0) 1 677 := ⟨(o42 ycL_law_676), rfl⟩
theorem ycL_law_677 : Byt cL_law 677 29 := byt_ck (lo := 672) (k := 5) kcL_law_672 rfl rfl
theorem dL_law_677 : At cL_law 677 (.iload_n 3) 1 678 := ⟨(o29 ycL_law_677), rfl⟩
theorem ycL_law_678 : Byt cL_law 678 4 := byt_ck (lo := 672) (k := 6) kcL_law_672 rfl rfl
theorem dL_law_678 : At cL_law 678 (.iconst 1) 1 679 := ⟨(o4 ycL_law_678), rfl⟩
theorem ycL_law_679 : Byt cL_law 679 96 := byt_ck (lo := 672) (k := 7) kcL_law_672 rfl rfl
theorem dL_law_679 : At cL_law 679 .iadd 1 680 := ⟨(o96 ycL_law_679), rfl⟩
theorem ycL_law_680 : Byt cL_law 680 46 := byt_ck (lo := 672) (k := 8) kcL_law_672 rfl rfl
theorem dL_law_680 : At cL_law 680 .iaload 1 681 := ⟨(o46 ycL_law_680), rfl⟩
theorem ycL_law_681 : Byt cL_law 681 182 := byt_ck (lo := 672) (k := 9) kcL_law_672 rfl rfl
theorem ycL_law_682 : Byt cL_law 682 0 := byt_ck (lo := 672) (k := 10) kcL_law_672 rfl rfl
theorem ycL_law_683 : Byt cL_law 683 75 := byt_ck (lo := 672) (k := 11) kcL_law_672 rfl rfl
theorem dL_law_681 : At cL_law 681 (.invokevirtual 75) 3 684 := ⟨(o182 75 ycL_law_681 ycL_law_682 ycL_law_683 rfl), rfl⟩
theorem ycL_law_684 : Byt cL_law 684 87 := byt_ck (lo := 672) (k := 12) kcL_law_672 rfl rfl
theorem dL_law_684 : At cL_law 684 .pop 1 685 := ⟨(o87 ycL_law_684), rfl⟩
theorem ycL_law_685 : Byt cL_law 685 167 := byt_ck (lo := 672) (k := 13) kcL_law_672 rfl rfl
theorem ycL_law_686 : Byt cL_law 686 3 := byt_ck (lo := 672) (k := 14) kcL_law_672 rfl rfl
theorem ycL_law_687 : Byt cL_law 687 238 := byt_ck (lo := 672) (k := 15) kcL_law_672 rfl rfl
theorem dL_law_685 : AtB cL_law 685 (.goto 1006) 1006 688 1691 := ⟨(o167 1006 ycL_law_685 ycL_law_686 ycL_law_687 rfl), rfl, rfl⟩
theorem ycL_law_688 : Byt cL_law 688 43 := byt_ck (lo := 672) (k := 16) kcL_law_672 rfl rfl
theorem dL_law_688 : At cL_law 688 (.aload_n 1) 1 689 := ⟨(o43 ycL_law_688), rfl⟩
theorem ycL_law_689 : Byt cL_law 689 42 := byt_ck (lo := 672) (k := 17) kcL_law_672 rfl rfl
theorem dL_law_689 : At cL_law 689 (.aload_n 0) 1 690 := ⟨(o42 ycL_law_689), rfl⟩
theorem ycL_law_690 : Byt cL_law 690 29 := byt_ck (lo := 672) (k := 18) kcL_law_672 rfl rfl
theorem dL_law_690 : At cL_law 690 (.iload_n 3) 1 691 := ⟨(o29 ycL_law_690), rfl⟩
theorem ycL_law_691 : Byt cL_law 691 4 := byt_ck (lo := 672) (k := 19) kcL_law_672 rfl rfl
theorem dL_law_691 : At cL_law 691 (.iconst 1) 1 692 := ⟨(o4 ycL_law_691), rfl⟩
theorem ycL_law_692 : Byt cL_law 692 96 := byt_ck (lo := 672) (k := 20) kcL_law_672 rfl rfl
theorem dL_law_692 : At cL_law 692 .iadd 1 693 := ⟨(o96 ycL_law_692), rfl⟩
theorem ycL_law_693 : Byt cL_law 693 46 := byt_ck (lo := 672) (k := 21) kcL_law_672 rfl rfl
theorem dL_law_693 : At cL_law 693 .iaload 1 694 := ⟨(o46 ycL_law_693), rfl⟩
theorem ycL_law_694 : Byt cL_law 694 182 := byt_ck (lo := 672) (k := 22) kcL_law_672 rfl rfl
theorem ycL_law_695 : Byt cL_law 695 0 := byt_ck (lo := 672) (k := 23) kcL_law_672 rfl rfl
theorem ycL_law_696 : Byt cL_law 696 76 := byt_ck (lo := 672) (k := 24) kcL_law_672 rfl rfl
theorem dL_law_694 : At cL_law 694 (.invokevirtual 76) 3 697 := ⟨(o182 76 ycL_law_694 ycL_law_695 ycL_law_696 rfl), rfl⟩
theorem ycL_law_697 : Byt cL_law 697 87 := byt_ck (lo := 672) (k := 25) kcL_law_672 rfl rfl
theorem dL_law_697 : At cL_law 697 .pop 1 698 := ⟨(o87 ycL_law_697), rfl⟩
theorem ycL_law_698 : Byt cL_law 698 44 := byt_ck (lo := 672) (k := 26) kcL_law_672 rfl rfl
theorem dL_law_698 : At cL_law 698 (.aload_n 2) 1 699 := ⟨(o44 ycL_law_698), rfl⟩
theorem ycL_law_699 : Byt cL_law 699 42 := byt_ck (lo := 672) (k := 27) kcL_law_672 rfl rfl
theorem dL_law_699 : At cL_law 699 (.aload_n 0) 1 700 := ⟨(o42 ycL_law_699), rfl⟩
theorem ycL_law_700 : Byt cL_law 700 29 := byt_ck (lo := 672) (k := 28) kcL_law_672 rfl rfl
theorem dL_law_700 : At cL_law 700 (.iload_n 3) 1 701 := ⟨(o29 ycL_law_700), rfl⟩
theorem ycL_law_701 : Byt cL_law 701 4 := byt_ck (lo := 672) (k := 29) kcL_law_672 rfl rfl
theorem dL_law_701 : At cL_law 701 (.iconst 1) 1 702 := ⟨(o4 ycL_law_701), rfl⟩
theorem ycL_law_702 : Byt cL_law 702 96 := byt_ck (lo := 672) (k := 30) kcL_law_672 rfl rfl
theorem dL_law_702 : At cL_law 702 .iadd 1 703 := ⟨(o96 ycL_law_702), rfl⟩
theorem ycL_law_703 : Byt cL_law 703 46 := byt_ck (lo := 672) (k := 31) kcL_law_672 rfl rfl
theorem dL_law_703 : At cL_law 703 .iaload 1 704 := ⟨(o46 ycL_law_703), rfl⟩
theorem ycL_law_704 : Byt cL_law 704 182 := byt_ck (lo := 672) (k := 32) kcL_law_672 rfl rfl
theorem ycL_law_705 : Byt cL_law 705 0 := byt_ck (lo := 672) (k := 33) kcL_law_672 rfl rfl
theorem ycL_law_706 : Byt cL_law 706 79 := byt_ck (lo := 672) (k := 34) kcL_law_672 rfl rfl
theorem dL_law_704 : At cL_law 704 (.invokevirtual 79) 3 707 := ⟨(o182 79 ycL_law_704 ycL_law_705 ycL_law_706 rfl), rfl⟩
theorem ycL_law_707 : Byt cL_law 707 87 := byt_ck (lo := 672) (k := 35) kcL_law_672 rfl rfl
theorem dL_law_707 : At cL_law 707 .pop 1 708 := ⟨(o87 ycL_law_707), rfl⟩
theorem ycL_law_708 : Byt cL_law 708 167 := byt_ck (lo := 672) (k := 36) kcL_law_672 rfl rfl
theorem ycL_law_709 : Byt cL_law 709 3 := byt_ck (lo := 672) (k := 37) kcL_law_672 rfl rfl
theorem ycL_law_710 : Byt cL_law 710 215 := byt_ck (lo := 672) (k := 38) kcL_law_672 rfl rfl
theorem dL_law_708 : AtB cL_law 708 (.goto 983) 983 711 1691 := ⟨(o167 983 ycL_law_708 ycL_law_709 ycL_law_710 rfl), rfl, rfl⟩
theorem ycL_law_711 : Byt cL_law 711 43 := byt_ck (lo := 672) (k := 39) kcL_law_672 rfl rfl
theorem dL_law_711 : At cL_law 711 (.aload_n 1) 1 712 := ⟨(o43 ycL_law_711), rfl⟩
theorem ycL_law_712 : Byt cL_law 712 42 := byt_ck (lo := 672) (k := 40) kcL_law_672 rfl rfl
theorem dL_law_712 : At cL_law 712 (.aload_n 0) 1 713 := ⟨(o42 ycL_law_712), rfl⟩
theorem ycL_law_713 : Byt cL_law 713 29 := byt_ck (lo := 672) (k := 41) kcL_law_672 rfl rfl
theorem dL_law_713 : At cL_law 713 (.iload_n 3) 1 714 := ⟨(o29 ycL_law_713), rfl⟩
theorem ycL_law_714 : Byt cL_law 714 4 := byt_ck (lo := 672) (k := 42) kcL_law_672 rfl rfl
theorem dL_law_714 : At cL_law 714 (.iconst 1) 1 715 := ⟨(o4 ycL_law_714), rfl⟩
theorem ycL_law_715 : Byt cL_law 715 96 := byt_ck (lo := 672) (k := 43) kcL_law_672 rfl rfl
theorem dL_law_715 : At cL_law 715 .iadd 1 716 := ⟨(o96 ycL_law_715), rfl⟩
theorem ycL_law_716 : Byt cL_law 716 46 := byt_ck (lo := 672) (k := 44) kcL_law_672 rfl rfl
theorem dL_law_716 : At cL_law 716 .iaload 1 717 := ⟨(o46 ycL_law_716), rfl⟩
theorem ycL_law_717 : Byt cL_law 717 182 := byt_ck (lo := 672) (k := 45) kcL_law_672 rfl rfl
theorem ycL_law_718 : Byt cL_law 718 0 := byt_ck (lo := 672) (k := 46) kcL_law_672 rfl rfl
theorem ycL_law_719 : Byt cL_law 719 80 := byt_ck (lo := 672) (k := 47) kcL_law_672 rfl rfl
theorem dL_law_717 : At cL_law 717 (.invokevirtual 80) 3 720 := ⟨(o182 80 ycL_law_717 ycL_law_718 ycL_law_719 rfl), rfl⟩
theorem ycL_law_720 : Byt cL_law 720 87 := byt_ck (lo := 720) (k := 0) kcL_law_720 rfl rfl
theorem dL_law_720 : At cL_law 720 .pop 1 721 := ⟨(o87 ycL_law_720), rfl⟩
theorem ycL_law_721 : Byt cL_law 721 44 := byt_ck (lo := 720) (k := 1) kcL_law_720 rfl rfl
theorem dL_law_721 : At cL_law 721 (.aload_n 2) 1 722 := ⟨(o44 ycL_law_721), rfl⟩
theorem ycL_law_722 : Byt cL_law 722 42 := byt_ck (lo := 720) (k := 2) kcL_law_720 rfl rfl
theorem dL_law_722 : At cL_law 722 (.aload_n 0) 1 723 := ⟨(o42 ycL_law_722), rfl⟩
theorem ycL_law_723 : Byt cL_law 723 29 := byt_ck (lo := 720) (k := 3) kcL_law_720 rfl rfl
theorem dL_law_723 : At cL_law 723 (.iload_n 3) 1 724 := ⟨(o29 ycL_law_723), rfl⟩
theorem ycL_law_724 : Byt cL_law 724 4 := byt_ck (lo := 720) (k := 4) kcL_law_720 rfl rfl
theorem dL_law_724 : At cL_law 724 (.iconst 1) 1 725 := ⟨(o4 ycL_law_724), rfl⟩
theorem ycL_law_725 : Byt cL_law 725 96 := byt_ck (lo := 720) (k := 5) kcL_law_720 rfl rfl
theorem dL_law_725 : At cL_law 725 .iadd 1 726 := ⟨(o96 ycL_law_725), rfl⟩
theorem ycL_law_726 : Byt cL_law 726 46 := byt_ck (lo := 720) (k := 6) kcL_law_720 rfl rfl
theorem dL_law_726 : At cL_law 726 .iaload 1 727 := ⟨(o46 ycL_law_726), rfl⟩
theorem ycL_law_727 : Byt cL_law 727 182 := byt_ck (lo := 720) (k := 7) kcL_law_720 rfl rfl
theorem ycL_law_728 : Byt cL_law 728 0 := byt_ck (lo := 720) (k := 8) kcL_law_720 rfl rfl
theorem ycL_law_729 : Byt cL_law 729 83 := byt_ck (lo := 720) (k := 9) kcL_law_720 rfl rfl
theorem dL_law_727 : At cL_law 727 (.invokevirtual 83) 3 730 := ⟨(o182 83 ycL_law_727 ycL_law_728 ycL_law_729 rfl), rfl⟩
theorem ycL_law_730 : Byt cL_law 730 87 := byt_ck (lo := 720) (k := 10) kcL_law_720 rfl rfl
theorem dL_law_730 : At cL_law 730 .pop 1 731 := ⟨(o87 ycL_law_730), rfl⟩
theorem ycL_law_731 : Byt cL_law 731 167 := byt_ck (lo := 720) (k := 11) kcL_law_720 rfl rfl
theorem ycL_law_732 : Byt cL_law 732 3 := byt_ck (lo := 720) (k := 12) kcL_law_720 rfl rfl
theorem ycL_law_733 : Byt cL_law 733 192 := byt_ck (lo := 720) (k := 13) kcL_law_720 rfl rfl
theorem dL_law_731 : AtB cL_law 731 (.goto 960) 960 734 1691 := ⟨(o167 960 ycL_law_731 ycL_law_732 ycL_law_733 rfl), rfl, rfl⟩
theorem ycL_law_734 : Byt cL_law 734 43 := byt_ck (lo := 720) (k := 14) kcL_law_720 rfl rfl
theorem dL_law_734 : At cL_law 734 (.aload_n 1) 1 735 := ⟨(o43 ycL_law_734), rfl⟩
theorem ycL_law_735 : Byt cL_law 735 42 := byt_ck (lo := 720) (k := 15) kcL_law_720 rfl rfl
theorem dL_law_735 : At cL_law 735 (.aload_n 0) 1 736 := ⟨(o42 ycL_law_735), rfl⟩
theorem ycL_law_736 : Byt cL_law 736 29 := byt_ck (lo := 720) (k := 16) kcL_law_720 rfl rfl
theorem dL_law_736 : At cL_law 736 (.iload_n 3) 1 737 := ⟨(o29 ycL_law_736), rfl⟩
theorem ycL_law_737 : Byt cL_law 737 4 := byt_ck (lo := 720) (k := 17) kcL_law_720 rfl rfl
theorem dL_law_737 : At cL_law 737 (.iconst 1) 1 738 := ⟨(o4 ycL_law_737), rfl⟩
theorem ycL_law_738 : Byt cL_law 738 96 := byt_ck (lo := 720) (k := 18) kcL_law_720 rfl rfl
theorem dL_law_738 : At cL_law 738 .iadd 1 739 := ⟨(o96 ycL_law_738), rfl⟩
theorem ycL_law_739 : Byt cL_law 739 46 := byt_ck (lo := 720) (k := 19) kcL_law_720 rfl rfl
theorem dL_law_739 : At cL_law 739 .iaload 1 740 := ⟨(o46 ycL_law_739), rfl⟩
theorem ycL_law_740 : Byt cL_law 740 42 := byt_ck (lo := 720) (k := 20) kcL_law_720 rfl rfl
theorem dL_law_740 : At cL_law 740 (.aload_n 0) 1 741 := ⟨(o42 ycL_law_740), rfl⟩
theorem ycL_law_741 : Byt cL_law 741 29 := byt_ck (lo := 720) (k := 21) kcL_law_720 rfl rfl
theorem dL_law_741 : At cL_law 741 (.iload_n 3) 1 742 := ⟨(o29 ycL_law_741), rfl⟩
theorem ycL_law_742 : Byt cL_law 742 5 := byt_ck (lo := 720) (k := 22) kcL_law_720 rfl rfl
theorem dL_law_742 : At cL_law 742 (.iconst 2) 1 743 := ⟨(o5 ycL_law_742), rfl⟩
theorem ycL_law_743 : Byt cL_law 743 96 := byt_ck (lo := 720) (k := 23) kcL_law_720 rfl rfl
theorem dL_law_743 : At cL_law 743 .iadd 1 744 := ⟨(o96 ycL_law_743), rfl⟩
theorem ycL_law_744 : Byt cL_law 744 46 := byt_ck (lo := 720) (k := 24) kcL_law_720 rfl rfl
theorem dL_law_744 : At cL_law 744 .iaload 1 745 := ⟨(o46 ycL_law_744), rfl⟩
theorem ycL_law_745 : Byt cL_law 745 182 := byt_ck (lo := 720) (k := 25) kcL_law_720 rfl rfl
theorem ycL_law_746 : Byt cL_law 746 0 := byt_ck (lo := 720) (k := 26) kcL_law_720 rfl rfl
theorem ycL_law_747 : Byt cL_law 747 84 := byt_ck (lo := 720) (k := 27) kcL_law_720 rfl rfl
theorem dL_law_745 : At cL_law 745 (.invokevirtual 84) 3 748 := ⟨(o182 84 ycL_law_745 ycL_law_746 ycL_law_747 rfl), rfl⟩
theorem ycL_law_748 : Byt cL_law 748 87 := byt_ck (lo := 720) (k := 28) kcL_law_720 rfl rfl
theorem dL_law_748 : At cL_law 748 .pop 1 749 := ⟨(o87 ycL_law_748), rfl⟩
theorem ycL_law_749 : Byt cL_law 749 44 := byt_ck (lo := 720) (k := 29) kcL_law_720 rfl rfl
theorem dL_law_749 : At cL_law 749 (.aload_n 2) 1 750 := ⟨(o44 ycL_law_749), rfl⟩
theorem ycL_law_750 : Byt cL_law 750 42 := byt_ck (lo := 720) (k := 30) kcL_law_720 rfl rfl
theorem dL_law_750 : At cL_law 750 (.aload_n 0) 1 751 := ⟨(o42 ycL_law_750), rfl⟩
theorem ycL_law_751 : Byt cL_law 751 29 := byt_ck (lo := 720) (k := 31) kcL_law_720 rfl rfl
theorem dL_law_751 : At cL_law 751 (.iload_n 3) 1 752 := ⟨(o29 ycL_law_751), rfl⟩
theorem ycL_law_752 : Byt cL_law 752 4 := byt_ck (lo := 720) (k := 32) kcL_law_720 rfl rfl
theorem dL_law_752 : At cL_law 752 (.iconst 1) 1 753 := ⟨(o4 ycL_law_752), rfl⟩
theorem ycL_law_753 : Byt cL_law 753 96 := byt_ck (lo := 720) (k := 33) kcL_law_720 rfl rfl
theorem dL_law_753 : At cL_law 753 .iadd 1 754 := ⟨(o96 ycL_law_753), rfl⟩
theorem ycL_law_754 : Byt cL_law 754 46 := byt_ck (lo := 720) (k := 34) kcL_law_720 rfl rfl
theorem dL_law_754 : At cL_law 754 .iaload 1 755 := ⟨(o46 ycL_law_754), rfl⟩
theorem ycL_law_755 : Byt cL_law 755 42 := byt_ck (lo := 720) (k := 35) kcL_law_720 rfl rfl
theorem dL_law_755 : At cL_law 755 (.aload_n 0) 1 756 := ⟨(o42 ycL_law_755), rfl⟩
theorem ycL_law_756 : Byt cL_law 756 29 := byt_ck (lo := 720) (k := 36) kcL_law_720 rfl rfl
theorem dL_law_756 : At cL_law 756 (.iload_n 3) 1 757 := ⟨(o29 ycL_law_756), rfl⟩
theorem ycL_law_757 : Byt cL_law 757 5 := byt_ck (lo := 720) (k := 37) kcL_law_720 rfl rfl
theorem dL_law_757 : At cL_law 757 (.iconst 2) 1 758 := ⟨(o5 ycL_law_757), rfl⟩
theorem ycL_law_758 : Byt cL_law 758 96 := byt_ck (lo := 720) (k := 38) kcL_law_720 rfl rfl
theorem dL_law_758 : At cL_law 758 .iadd 1 759 := ⟨(o96 ycL_law_758), rfl⟩
theorem ycL_law_759 : Byt cL_law 759 46 := byt_ck (lo := 720) (k := 39) kcL_law_720 rfl rfl
theorem dL_law_759 : At cL_law 759 .iaload 1 760 := ⟨(o46 ycL_law_759), rfl⟩
theorem ycL_law_760 : Byt cL_law 760 182 := byt_ck (lo := 720) (k := 40) kcL_law_720 rfl rfl
theorem ycL_law_761 : Byt cL_law 761 0 := byt_ck (lo := 720) (k := 41) kcL_law_720 rfl rfl
theorem ycL_law_762 : Byt cL_law 762 88 := byt_ck (lo := 720) (k := 42) kcL_law_720 rfl rfl
theorem dL_law_760 : At cL_law 760 (.invokevirtual 88) 3 763 := ⟨(o182 88 ycL_law_760 ycL_law_761 ycL_law_762 rfl), rfl⟩
theorem ycL_law_763 : Byt cL_law 763 87 := byt_ck (lo := 720) (k := 43) kcL_law_720 rfl rfl
theorem dL_law_763 : At cL_law 763 .pop 1 764 := ⟨(o87 ycL_law_763), rfl⟩
theorem ycL_law_764 : Byt cL_law 764 167 := byt_ck (lo := 720) (k := 44) kcL_law_720 rfl rfl
theorem ycL_law_765 : Byt cL_law 765 3 := byt_ck (lo := 720) (k := 45) kcL_law_720 rfl rfl
theorem ycL_law_766 : Byt cL_law 766 159 := byt_ck (lo := 720) (k := 46) kcL_law_720 rfl rfl
theorem dL_law_764 : AtB cL_law 764 (.goto 927) 927 767 1691 := ⟨(o167 927 ycL_law_764 ycL_law_765 ycL_law_766 rfl), rfl, rfl⟩
theorem ycL_law_767 : Byt cL_law 767 43 := byt_ck (lo := 720) (k := 47) kcL_law_720 rfl rfl
theorem dL_law_767 : At cL_law 767 (.aload_n 1) 1 768 := ⟨(o43 ycL_law_767), rfl⟩
theorem ycL_law_768 : Byt cL_law 768 182 := byt_ck (lo := 768) (k := 0) kcL_law_768 rfl rfl
theorem ycL_law_769 : Byt cL_law 769 0 := byt_ck (lo := 768) (k := 1) kcL_law_768 rfl rfl
theorem ycL_law_770 : Byt cL_law 770 89 := byt_ck (lo := 768) (k := 2) kcL_law_768 rfl rfl
theorem dL_law_768 : At cL_law 768 (.invokevirtual 89) 3 771 := ⟨(o182 89 ycL_law_768 ycL_law_769 ycL_law_770 rfl), rfl⟩
theorem ycL_law_771 : Byt cL_law 771 87 := byt_ck (lo := 768) (k := 3) kcL_law_768 rfl rfl
theorem dL_law_771 : At cL_law 771 .pop 1 772 := ⟨(o87 ycL_law_771), rfl⟩
theorem ycL_law_772 : Byt cL_law 772 44 := byt_ck (lo := 768) (k := 4) kcL_law_768 rfl rfl
theorem dL_law_772 : At cL_law 772 (.aload_n 2) 1 773 := ⟨(o44 ycL_law_772), rfl⟩
theorem ycL_law_773 : Byt cL_law 773 182 := byt_ck (lo := 768) (k := 5) kcL_law_768 rfl rfl
theorem ycL_law_774 : Byt cL_law 774 0 := byt_ck (lo := 768) (k := 6) kcL_law_768 rfl rfl
theorem ycL_law_775 : Byt cL_law 775 92 := byt_ck (lo := 768) (k := 7) kcL_law_768 rfl rfl
theorem dL_law_773 : At cL_law 773 (.invokevirtual 92) 3 776 := ⟨(o182 92 ycL_law_773 ycL_law_774 ycL_law_775 rfl), rfl⟩
theorem ycL_law_776 : Byt cL_law 776 87 := byt_ck (lo := 768) (k := 8) kcL_law_768 rfl rfl
theorem dL_law_776 : At cL_law 776 .pop 1 777 := ⟨(o87 ycL_law_776), rfl⟩
theorem ycL_law_777 : Byt cL_law 777 167 := byt_ck (lo := 768) (k := 9) kcL_law_768 rfl rfl
theorem ycL_law_778 : Byt cL_law 778 3 := byt_ck (lo := 768) (k := 10) kcL_law_768 rfl rfl
theorem ycL_law_779 : Byt cL_law 779 146 := byt_ck (lo := 768) (k := 11) kcL_law_768 rfl rfl
theorem dL_law_777 : AtB cL_law 777 (.goto 914) 914 780 1691 := ⟨(o167 914 ycL_law_777 ycL_law_778 ycL_law_779 rfl), rfl, rfl⟩
theorem ycL_law_780 : Byt cL_law 780 43 := byt_ck (lo := 768) (k := 12) kcL_law_768 rfl rfl
theorem dL_law_780 : At cL_law 780 (.aload_n 1) 1 781 := ⟨(o43 ycL_law_780), rfl⟩
theorem ycL_law_781 : Byt cL_law 781 42 := byt_ck (lo := 768) (k := 13) kcL_law_768 rfl rfl
theorem dL_law_781 : At cL_law 781 (.aload_n 0) 1 782 := ⟨(o42 ycL_law_781), rfl⟩
theorem ycL_law_782 : Byt cL_law 782 29 := byt_ck (lo := 768) (k := 14) kcL_law_768 rfl rfl
theorem dL_law_782 : At cL_law 782 (.iload_n 3) 1 783 := ⟨(o29 ycL_law_782), rfl⟩
theorem ycL_law_783 : Byt cL_law 783 4 := byt_ck (lo := 768) (k := 15) kcL_law_768 rfl rfl
theorem dL_law_783 : At cL_law 783 (.iconst 1) 1 784 := ⟨(o4 ycL_law_783), rfl⟩
theorem ycL_law_784 : Byt cL_law 784 96 := byt_ck (lo := 768) (k := 16) kcL_law_768 rfl rfl
theorem dL_law_784 : At cL_law 784 .iadd 1 785 := ⟨(o96 ycL_law_784), rfl⟩
theorem ycL_law_785 : Byt cL_law 785 46 := byt_ck (lo := 768) (k := 17) kcL_law_768 rfl rfl
theorem dL_law_785 : At cL_law 785 .iaload 1 786 := ⟨(o46 ycL_law_785), rfl⟩
theorem ycL_law_786 : Byt cL_law 786 182 := byt_ck (lo := 768) (k := 18) kcL_law_768 rfl rfl
theorem ycL_law_787 : Byt cL_law 787 0 := byt_ck (lo := 768) (k := 19) kcL_law_768 rfl rfl
theorem ycL_law_788 : Byt cL_law 788 93 := byt_ck (lo := 768) (k := 20) kcL_law_768 rfl rfl
theorem dL_law_786 : At cL_law 786 (.invokevirtual 93) 3 789 := ⟨(o182 93 ycL_law_786 ycL_law_787 ycL_law_788 rfl), rfl⟩
theorem ycL_law_789 : Byt cL_law 789 87 := byt_ck (lo := 768) (k := 21) kcL_law_768 rfl rfl
theorem dL_law_789 : At cL_law 789 .pop 1 790 := ⟨(o87 ycL_law_789), rfl⟩
theorem ycL_law_790 : Byt cL_law 790 44 := byt_ck (lo := 768) (k := 22) kcL_law_768 rfl rfl
theorem dL_law_790 : At cL_law 790 (.aload_n 2) 1 791 := ⟨(o44 ycL_law_790), rfl⟩
theorem ycL_law_791 : Byt cL_law 791 42 := byt_ck (lo := 768) (k := 23) kcL_law_768 rfl rfl
theorem dL_law_791 : At cL_law 791 (.aload_n 0) 1 792 := ⟨(o42 ycL_law_791), rfl⟩
theorem ycL_law_792 : Byt cL_law 792 29 := byt_ck (lo := 768) (k := 24) kcL_law_768 rfl rfl
theorem dL_law_792 : At cL_law 792 (.iload_n 3) 1 793 := ⟨(o29 ycL_law_792), rfl⟩
theorem ycL_law_793 : Byt cL_law 793 4 := byt_ck (lo := 768) (k := 25) kcL_law_768 rfl rfl
theorem dL_law_793 : At cL_law 793 (.iconst 1) 1 794 := ⟨(o4 ycL_law_793), rfl⟩
theorem ycL_law_794 : Byt cL_law 794 96 := byt_ck (lo := 768) (k := 26) kcL_law_768 rfl rfl
theorem dL_law_794 : At cL_law 794 .iadd 1 795 := ⟨(o96 ycL_law_794), rfl⟩
theorem ycL_law_795 : Byt cL_law 795 46 := byt_ck (lo := 768) (k := 27) kcL_law_768 rfl rfl
theorem dL_law_795 : At cL_law 795 .iaload 1 796 := ⟨(o46 ycL_law_795), rfl⟩
theorem ycL_law_796 : Byt cL_law 796 182 := byt_ck (lo := 768) (k := 28) kcL_law_768 rfl rfl
theorem ycL_law_797 : Byt cL_law 797 0 := byt_ck (lo := 768) (k := 29) kcL_law_768 rfl rfl
theorem ycL_law_798 : Byt cL_law 798 96 := byt_ck (lo := 768) (k := 30) kcL_law_768 rfl rfl
theorem dL_law_796 : At cL_law 796 (.invokevirtual 96) 3 799 := ⟨(o182 96 ycL_law_796 ycL_law_797 ycL_law_798 rfl), rfl⟩
theorem ycL_law_799 : Byt cL_law 799 87 := byt_ck (lo := 768) (k := 31) kcL_law_768 rfl rfl
theorem dL_law_799 : At cL_law 799 .pop 1 800 := ⟨(o87 ycL_law_799), rfl⟩
theorem ycL_law_800 : Byt cL_law 800 167 := byt_ck (lo := 768) (k := 32) kcL_law_768 rfl rfl
theorem ycL_law_801 : Byt cL_law 801 3 := byt_ck (lo := 768) (k := 33) kcL_law_768 rfl rfl
theorem ycL_law_802 : Byt cL_law 802 123 := byt_ck (lo := 768) (k := 34) kcL_law_768 rfl rfl
theorem dL_law_800 : AtB cL_law 800 (.goto 891) 891 803 1691 := ⟨(o167 891 ycL_law_800 ycL_law_801 ycL_law_802 rfl), rfl, rfl⟩
theorem ycL_law_803 : Byt cL_law 803 43 := byt_ck (lo := 768) (k := 35) kcL_law_768 rfl rfl
theorem dL_law_803 : At cL_law 803 (.aload_n 1) 1 804 := ⟨(o43 ycL_law_803), rfl⟩
theorem ycL_law_804 : Byt cL_law 804 42 := byt_ck (lo := 768) (k := 36) kcL_law_768 rfl rfl
theorem dL_law_804 : At cL_law 804 (.aload_n 0) 1 805 := ⟨(o42 ycL_law_804), rfl⟩
theorem ycL_law_805 : Byt cL_law 805 29 := byt_ck (lo := 768) (k := 37) kcL_law_768 rfl rfl
theorem dL_law_805 : At cL_law 805 (.iload_n 3) 1 806 := ⟨(o29 ycL_law_805), rfl⟩
theorem ycL_law_806 : Byt cL_law 806 4 := byt_ck (lo := 768) (k := 38) kcL_law_768 rfl rfl
theorem dL_law_806 : At cL_law 806 (.iconst 1) 1 807 := ⟨(o4 ycL_law_806), rfl⟩
theorem ycL_law_807 : Byt cL_law 807 96 := byt_ck (lo := 768) (k := 39) kcL_law_768 rfl rfl
theorem dL_law_807 : At cL_law 807 .iadd 1 808 := ⟨(o96 ycL_law_807), rfl⟩
theorem ycL_law_808 : Byt cL_law 808 46 := byt_ck (lo := 768) (k := 40) kcL_law_768 rfl rfl
theorem dL_law_808 : At cL_law 808 .iaload 1 809 := ⟨(o46 ycL_law_808), rfl⟩
theorem ycL_law_809 : Byt cL_law 809 42 := byt_ck (lo := 768) (k := 41) kcL_law_768 rfl rfl
theorem dL_law_809 : At cL_law 809 (.aload_n 0) 1 810 := ⟨(o42 ycL_law_809), rfl⟩
theorem ycL_law_810 : Byt cL_law 810 29 := byt_ck (lo := 768) (k := 42) kcL_law_768 rfl rfl
theorem dL_law_810 : At cL_law 810 (.iload_n 3) 1 811 := ⟨(o29 ycL_law_810), rfl⟩
theorem ycL_law_811 : Byt cL_law 811 5 := byt_ck (lo := 768) (k := 43) kcL_law_768 rfl rfl
theorem dL_law_811 : At cL_law 811 (.iconst 2) 1 812 := ⟨(o5 ycL_law_811), rfl⟩
theorem ycL_law_812 : Byt cL_law 812 96 := byt_ck (lo := 768) (k := 44) kcL_law_768 rfl rfl
theorem dL_law_812 : At cL_law 812 .iadd 1 813 := ⟨(o96 ycL_law_812), rfl⟩
theorem ycL_law_813 : Byt cL_law 813 46 := byt_ck (lo := 768) (k := 45) kcL_law_768 rfl rfl
theorem dL_law_813 : At cL_law 813 .iaload 1 814 := ⟨(o46 ycL_law_813), rfl⟩
theorem ycL_law_814 : Byt cL_law 814 182 := byt_ck (lo := 768) (k := 46) kcL_law_768 rfl rfl
theorem ycL_law_815 : Byt cL_law 815 0 := byt_ck (lo := 768) (k := 47) kcL_law_768 rfl rfl
theorem ycL_law_816 : Byt cL_law 816 97 := byt_ck (lo := 816) (k := 0) kcL_law_816 rfl rfl
theorem dL_law_814 : At cL_law 814 (.invokevirtual 97) 3 817 := ⟨(o182 97 ycL_law_814 ycL_law_815 ycL_law_816 rfl), rfl⟩
theorem ycL_law_817 : Byt cL_law 817 87 := byt_ck (lo := 816) (k := 1) kcL_law_816 rfl rfl
theorem dL_law_817 : At cL_law 817 .pop 1 818 := ⟨(o87 ycL_law_817), rfl⟩
theorem ycL_law_818 : Byt cL_law 818 44 := byt_ck (lo := 816) (k := 2) kcL_law_816 rfl rfl
theorem dL_law_818 : At cL_law 818 (.aload_n 2) 1 819 := ⟨(o44 ycL_law_818), rfl⟩
theorem ycL_law_819 : Byt cL_law 819 42 := byt_ck (lo := 816) (k := 3) kcL_law_816 rfl rfl
theorem dL_law_819 : At cL_law 819 (.aload_n 0) 1 820 := ⟨(o42 ycL_law_819), rfl⟩
theorem ycL_law_820 : Byt cL_law 820 29 := byt_ck (lo := 816) (k := 4) kcL_law_816 rfl rfl
theorem dL_law_820 : At cL_law 820 (.iload_n 3) 1 821 := ⟨(o29 ycL_law_820), rfl⟩
theorem ycL_law_821 : Byt cL_law 821 4 := byt_ck (lo := 816) (k := 5) kcL_law_816 rfl rfl
theorem dL_law_821 : At cL_law 821 (.iconst 1) 1 822 := ⟨(o4 ycL_law_821), rfl⟩
theorem ycL_law_822 : Byt cL_law 822 96 := byt_ck (lo := 816) (k := 6) kcL_law_816 rfl rfl
theorem dL_law_822 : At cL_law 822 .iadd 1 823 := ⟨(o96 ycL_law_822), rfl⟩
theorem ycL_law_823 : Byt cL_law 823 46 := byt_ck (lo := 816) (k := 7) kcL_law_816 rfl rfl
theorem dL_law_823 : At cL_law 823 .iaload 1 824 := ⟨(o46 ycL_law_823), rfl⟩
theorem ycL_law_824 : Byt cL_law 824 42 := byt_ck (lo := 816) (k := 8) kcL_law_816 rfl rfl
theorem dL_law_824 : At cL_law 824 (.aload_n 0) 1 825 := ⟨(o42 ycL_law_824), rfl⟩
theorem ycL_law_825 : Byt cL_law 825 29 := byt_ck (lo := 816) (k := 9) kcL_law_816 rfl rfl
theorem dL_law_825 : At cL_law 825 (.iload_n 3) 1 826 := ⟨(o29 ycL_law_825), rfl⟩
theorem ycL_law_826 : Byt cL_law 826 5 := byt_ck (lo := 816) (k := 10) kcL_law_816 rfl rfl
theorem dL_law_826 : At cL_law 826 (.iconst 2) 1 827 := ⟨(o5 ycL_law_826), rfl⟩
theorem ycL_law_827 : Byt cL_law 827 96 := byt_ck (lo := 816) (k := 11) kcL_law_816 rfl rfl
theorem dL_law_827 : At cL_law 827 .iadd 1 828 := ⟨(o96 ycL_law_827), rfl⟩
theorem ycL_law_828 : Byt cL_law 828 46 := byt_ck (lo := 816) (k := 12) kcL_law_816 rfl rfl
theorem dL_law_828 : At cL_law 828 .iaload 1 829 := ⟨(o46 ycL_law_828), rfl⟩
theorem ycL_law_829 : Byt cL_law 829 182 := byt_ck (lo := 816) (k := 13) kcL_law_816 rfl rfl
theorem ycL_law_830 : Byt cL_law 830 0 := byt_ck (lo := 816) (k := 14) kcL_law_816 rfl rfl
theorem ycL_law_831 : Byt cL_law 831 100 := byt_ck (lo := 816) (k := 15) kcL_law_816 rfl rfl
theorem dL_law_829 : At cL_law 829 (.invokevirtual 100) 3 832 := ⟨(o182 100 ycL_law_829 ycL_law_830 ycL_law_831 rfl), rfl⟩
theorem ycL_law_832 : Byt cL_law 832 87 := byt_ck (lo := 816) (k := 16) kcL_law_816 rfl rfl
theorem dL_law_832 : At cL_law 832 .pop 1 833 := ⟨(o87 ycL_law_832), rfl⟩
theorem ycL_law_833 : Byt cL_law 833 167 := byt_ck (lo := 816) (k := 17) kcL_law_816 rfl rfl
theorem ycL_law_834 : Byt cL_law 834 3 := byt_ck (lo := 816) (k := 18) kcL_law_816 rfl rfl
theorem ycL_law_835 : Byt cL_law 835 90 := byt_ck (lo := 816) (k := 19) kcL_law_816 rfl rfl
theorem dL_law_833 : AtB cL_law 833 (.goto 858) 858 836 1691 := ⟨(o167 858 ycL_law_833 ycL_law_834 ycL_law_835 rfl), rfl, rfl⟩
theorem ycL_law_836 : Byt cL_law 836 43 := byt_ck (lo := 816) (k := 20) kcL_law_816 rfl rfl
theorem dL_law_836 : At cL_law 836 (.aload_n 1) 1 837 := ⟨(o43 ycL_law_836), rfl⟩
theorem ycL_law_837 : Byt cL_law 837 42 := byt_ck (lo := 816) (k := 21) kcL_law_816 rfl rfl
theorem dL_law_837 : At cL_law 837 (.aload_n 0) 1 838 := ⟨(o42 ycL_law_837), rfl⟩
theorem ycL_law_838 : Byt cL_law 838 29 := byt_ck (lo := 816) (k := 22) kcL_law_816 rfl rfl
theorem dL_law_838 : At cL_law 838 (.iload_n 3) 1 839 := ⟨(o29 ycL_law_838), rfl⟩
theorem ycL_law_839 : Byt cL_law 839 4 := byt_ck (lo := 816) (k := 23) kcL_law_816 rfl rfl
theorem dL_law_839 : At cL_law 839 (.iconst 1) 1 840 := ⟨(o4 ycL_law_839), rfl⟩
theorem ycL_law_840 : Byt cL_law 840 96 := byt_ck (lo := 816) (k := 24) kcL_law_816 rfl rfl
theorem dL_law_840 : At cL_law 840 .iadd 1 841 := ⟨(o96 ycL_law_840), rfl⟩
theorem ycL_law_841 : Byt cL_law 841 46 := byt_ck (lo := 816) (k := 25) kcL_law_816 rfl rfl
theorem dL_law_841 : At cL_law 841 .iaload 1 842 := ⟨(o46 ycL_law_841), rfl⟩
theorem ycL_law_842 : Byt cL_law 842 42 := byt_ck (lo := 816) (k := 26) kcL_law_816 rfl rfl
theorem dL_law_842 : At cL_law 842 (.aload_n 0) 1 843 := ⟨(o42 ycL_law_842), rfl⟩
theorem ycL_law_843 : Byt cL_law 843 29 := byt_ck (lo := 816) (k := 27) kcL_law_816 rfl rfl
theorem dL_law_843 : At cL_law 843 (.iload_n 3) 1 844 := ⟨(o29 ycL_law_843), rfl⟩
theorem ycL_law_844 : Byt cL_law 844 5 := byt_ck (lo := 816) (k := 28) kcL_law_816 rfl rfl
theorem dL_law_844 : At cL_law 844 (.iconst 2) 1 845 := ⟨(o5 ycL_law_844), rfl⟩
theorem ycL_law_845 : Byt cL_law 845 96 := byt_ck (lo := 816) (k := 29) kcL_law_816 rfl rfl
theorem dL_law_845 : At cL_law 845 .iadd 1 846 := ⟨(o96 ycL_law_845), rfl⟩
theorem ycL_law_846 : Byt cL_law 846 46 := byt_ck (lo := 816) (k := 30) kcL_law_816 rfl rfl
theorem dL_law_846 : At cL_law 846 .iaload 1 847 := ⟨(o46 ycL_law_846), rfl⟩
theorem ycL_law_847 : Byt cL_law 847 182 := byt_ck (lo := 816) (k := 31) kcL_law_816 rfl rfl
theorem ycL_law_848 : Byt cL_law 848 0 := byt_ck (lo := 816) (k := 32) kcL_law_816 rfl rfl
theorem ycL_law_849 : Byt cL_law 849 101 := byt_ck (lo := 816) (k := 33) kcL_law_816 rfl rfl
theorem dL_law_847 : At cL_law 847 (.invokevirtual 101) 3 850 := ⟨(o182 101 ycL_law_847 ycL_law_848 ycL_law_849 rfl), rfl⟩
theorem ycL_law_850 : Byt cL_law 850 87 := byt_ck (lo := 816) (k := 34) kcL_law_816 rfl rfl
theorem dL_law_850 : At cL_law 850 .pop 1 851 := ⟨(o87 ycL_law_850), rfl⟩
theorem ycL_law_851 : Byt cL_law 851 44 := byt_ck (lo := 816) (k := 35) kcL_law_816 rfl rfl
theorem dL_law_851 : At cL_law 851 (.aload_n 2) 1 852 := ⟨(o44 ycL_law_851), rfl⟩
theorem ycL_law_852 : Byt cL_law 852 42 := byt_ck (lo := 816) (k := 36) kcL_law_816 rfl rfl
theorem dL_law_852 : At cL_law 852 (.aload_n 0) 1 853 := ⟨(o42 ycL_law_852), rfl⟩
theorem ycL_law_853 : Byt cL_law 853 29 := byt_ck (lo := 816) (k := 37) kcL_law_816 rfl rfl
theorem dL_law_853 : At cL_law 853 (.iload_n 3) 1 854 := ⟨(o29 ycL_law_853), rfl⟩
theorem ycL_law_854 : Byt cL_law 854 4 := byt_ck (lo := 816) (k := 38) kcL_law_816 rfl rfl
theorem dL_law_854 : At cL_law 854 (.iconst 1) 1 855 := ⟨(o4 ycL_law_854), rfl⟩
theorem ycL_law_855 : Byt cL_law 855 96 := byt_ck (lo := 816) (k := 39) kcL_law_816 rfl rfl
theorem dL_law_855 : At cL_law 855 .iadd 1 856 := ⟨(o96 ycL_law_855), rfl⟩
theorem ycL_law_856 : Byt cL_law 856 46 := byt_ck (lo := 816) (k := 40) kcL_law_816 rfl rfl
theorem dL_law_856 : At cL_law 856 .iaload 1 857 := ⟨(o46 ycL_law_856), rfl⟩
theorem ycL_law_857 : Byt cL_law 857 42 := byt_ck (lo := 816) (k := 41) kcL_law_816 rfl rfl
theorem dL_law_857 : At cL_law 857 (.aload_n 0) 1 858 := ⟨(o42 ycL_law_857), rfl⟩
theorem ycL_law_858 : Byt cL_law 858 29 := byt_ck (lo := 816) (k := 42) kcL_law_816 rfl rfl
theorem dL_law_858 : At cL_law 858 (.iload_n 3) 1 859 := ⟨(o29 ycL_law_858), rfl⟩
theorem ycL_law_859 : Byt cL_law 859 5 := byt_ck (lo := 816) (k := 43) kcL_law_816 rfl rfl
theorem dL_law_859 : At cL_law 859 (.iconst 2) 1 860 := ⟨(o5 ycL_law_859), rfl⟩
theorem ycL_law_860 : Byt cL_law 860 96 := byt_ck (lo := 816) (k := 44) kcL_law_816 rfl rfl
theorem dL_law_860 : At cL_law 860 .iadd 1 861 := ⟨(o96 ycL_law_860), rfl⟩
theorem ycL_law_861 : Byt cL_law 861 46 := byt_ck (lo := 816) (k := 45) kcL_law_816 rfl rfl
theorem dL_law_861 : At cL_law 861 .iaload 1 862 := ⟨(o46 ycL_law_861), rfl⟩
theorem ycL_law_862 : Byt cL_law 862 182 := byt_ck (lo := 816) (k := 46) kcL_law_816 rfl rfl
theorem ycL_law_863 : Byt cL_law 863 0 := byt_ck (lo := 816) (k := 47) kcL_law_816 rfl rfl
theorem ycL_law_864 : Byt cL_law 864 104 := byt_ck (lo := 864) (k := 0) kcL_law_864 rfl rfl
theorem dL_law_862 : At cL_law 862 (.invokevirtual 104) 3 865 := ⟨(o182 104 ycL_law_862 ycL_law_863 ycL_law_864 rfl), rfl⟩
theorem ycL_law_865 : Byt cL_law 865 87 := byt_ck (lo := 864) (k := 1) kcL_law_864 rfl rfl
theorem dL_law_865 : At cL_law 865 .pop 1 866 := ⟨(o87 ycL_law_865), rfl⟩
theorem ycL_law_866 : Byt cL_law 866 167 := byt_ck (lo := 864) (k := 2) kcL_law_864 rfl rfl
theorem ycL_law_867 : Byt cL_law 867 3 := byt_ck (lo := 864) (k := 3) kcL_law_864 rfl rfl
theorem ycL_law_868 : Byt cL_law 868 57 := byt_ck (lo := 864) (k := 4) kcL_law_864 rfl rfl
theorem dL_law_866 : AtB cL_law 866 (.goto 825) 825 869 1691 := ⟨(o167 825 ycL_law_866 ycL_law_867 ycL_law_868 rfl), rfl, rfl⟩
theorem ycL_law_869 : Byt cL_law 869 43 := byt_ck (lo := 864) (k := 5) kcL_law_864 rfl rfl
theorem dL_law_869 : At cL_law 869 (.aload_n 1) 1 870 := ⟨(o43 ycL_law_869), rfl⟩
theorem ycL_law_870 : Byt cL_law 870 42 := byt_ck (lo := 864) (k := 6) kcL_law_864 rfl rfl
theorem dL_law_870 : At cL_law 870 (.aload_n 0) 1 871 := ⟨(o42 ycL_law_870), rfl⟩
theorem ycL_law_871 : Byt cL_law 871 29 := byt_ck (lo := 864) (k := 7) kcL_law_864 rfl rfl
theorem dL_law_871 : At cL_law 871 (.iload_n 3) 1 872 := ⟨(o29 ycL_law_871), rfl⟩
theorem ycL_law_872 : Byt cL_law 872 4 := byt_ck (lo := 864) (k := 8) kcL_law_864 rfl rfl
theorem dL_law_872 : At cL_law 872 (.iconst 1) 1 873 := ⟨(o4 ycL_law_872), rfl⟩
theorem ycL_law_873 : Byt cL_law 873 96 := byt_ck (lo := 864) (k := 9) kcL_law_864 rfl rfl
theorem dL_law_873 : At cL_law 873 .iadd 1 874 := ⟨(o96 ycL_law_873), rfl⟩
theorem ycL_law_874 : Byt cL_law 874 46 := byt_ck (lo := 864) (k := 10) kcL_law_864 rfl rfl
theorem dL_law_874 : At cL_law 874 .iaload 1 875 := ⟨(o46 ycL_law_874), rfl⟩
theorem ycL_law_875 : Byt cL_law 875 42 := byt_ck (lo := 864) (k := 11) kcL_law_864 rfl rfl
theorem dL_law_875 : At cL_law 875 (.aload_n 0) 1 876 := ⟨(o42 ycL_law_875), rfl⟩
theorem ycL_law_876 : Byt cL_law 876 29 := byt_ck (lo := 864) (k := 12) kcL_law_864 rfl rfl
theorem dL_law_876 : At cL_law 876 (.iload_n 3) 1 877 := ⟨(o29 ycL_law_876), rfl⟩
theorem ycL_law_877 : Byt cL_law 877 5 := byt_ck (lo := 864) (k := 13) kcL_law_864 rfl rfl
theorem dL_law_877 : At cL_law 877 (.iconst 2) 1 878 := ⟨(o5 ycL_law_877), rfl⟩
theorem ycL_law_878 : Byt cL_law 878 96 := byt_ck (lo := 864) (k := 14) kcL_law_864 rfl rfl
theorem dL_law_878 : At cL_law 878 .iadd 1 879 := ⟨(o96 ycL_law_878), rfl⟩
theorem ycL_law_879 : Byt cL_law 879 46 := byt_ck (lo := 864) (k := 15) kcL_law_864 rfl rfl
theorem dL_law_879 : At cL_law 879 .iaload 1 880 := ⟨(o46 ycL_law_879), rfl⟩
theorem ycL_law_880 : Byt cL_law 880 182 := byt_ck (lo := 864) (k := 16) kcL_law_864 rfl rfl
theorem ycL_law_881 : Byt cL_law 881 0 := byt_ck (lo := 864) (k := 17) kcL_law_864 rfl rfl
theorem ycL_law_882 : Byt cL_law 882 105 := byt_ck (lo := 864) (k := 18) kcL_law_864 rfl rfl
theorem dL_law_880 : At cL_law 880 (.invokevirtual 105) 3 883 := ⟨(o182 105 ycL_law_880 ycL_law_881 ycL_law_882 rfl), rfl⟩
theorem ycL_law_883 : Byt cL_law 883 87 := byt_ck (lo := 864) (k := 19) kcL_law_864 rfl rfl
theorem dL_law_883 : At cL_law 883 .pop 1 884 := ⟨(o87 ycL_law_883), rfl⟩
theorem ycL_law_884 : Byt cL_law 884 44 := byt_ck (lo := 864) (k := 20) kcL_law_864 rfl rfl
theorem dL_law_884 : At cL_law 884 (.aload_n 2) 1 885 := ⟨(o44 ycL_law_884), rfl⟩
theorem ycL_law_885 : Byt cL_law 885 42 := byt_ck (lo := 864) (k := 21) kcL_law_864 rfl rfl
theorem dL_law_885 : At cL_law 885 (.aload_n 0) 1 886 := ⟨(o42 ycL_law_885), rfl⟩
theorem ycL_law_886 : Byt cL_law 886 29 := byt_ck (lo := 864) (k := 22) kcL_law_864 rfl rfl
theorem dL_law_886 : At cL_law 886 (.iload_n 3) 1 887 := ⟨(o29 ycL_law_886), rfl⟩
theorem ycL_law_887 : Byt cL_law 887 4 := byt_ck (lo := 864) (k := 23) kcL_law_864 rfl rfl
theorem dL_law_887 : At cL_law 887 (.iconst 1) 1 888 := ⟨(o4 ycL_law_887), rfl⟩
theorem ycL_law_888 : Byt cL_law 888 96 := byt_ck (lo := 864) (k := 24) kcL_law_864 rfl rfl
theorem dL_law_888 : At cL_law 888 .iadd 1 889 := ⟨(o96 ycL_law_888), rfl⟩
theorem ycL_law_889 : Byt cL_law 889 46 := byt_ck (lo := 864) (k := 25) kcL_law_864 rfl rfl
theorem dL_law_889 : At cL_law 889 .iaload 1 890 := ⟨(o46 ycL_law_889), rfl⟩
theorem ycL_law_890 : Byt cL_law 890 42 := byt_ck (lo := 864) (k := 26) kcL_law_864 rfl rfl
theorem dL_law_890 : At cL_law 890 (.aload_n 0) 1 891 := ⟨(o42 ycL_law_890), rfl⟩
theorem ycL_law_891 : Byt cL_law 891 29 := byt_ck (lo := 864) (k := 27) kcL_law_864 rfl rfl
theorem dL_law_891 : At cL_law 891 (.iload_n 3) 1 892 := ⟨(o29 ycL_law_891), rfl⟩
theorem ycL_law_892 : Byt cL_law 892 5 := byt_ck (lo := 864) (k := 28) kcL_law_864 rfl rfl
theorem dL_law_892 : At cL_law 892 (.iconst 2) 1 893 := ⟨(o5 ycL_law_892), rfl⟩
theorem ycL_law_893 : Byt cL_law 893 96 := byt_ck (lo := 864) (k := 29) kcL_law_864 rfl rfl
theorem dL_law_893 : At cL_law 893 .iadd 1 894 := ⟨(o96 ycL_law_893), rfl⟩
theorem ycL_law_894 : Byt cL_law 894 46 := byt_ck (lo := 864) (k := 30) kcL_law_864 rfl rfl
theorem dL_law_894 : At cL_law 894 .iaload 1 895 := ⟨(o46 ycL_law_894), rfl⟩
theorem ycL_law_895 : Byt cL_law 895 182 := byt_ck (lo := 864) (k := 31) kcL_law_864 rfl rfl
theorem ycL_law_896 : Byt cL_law 896 0 := byt_ck (lo := 864) (k := 32) kcL_law_864 rfl rfl
theorem ycL_law_897 : Byt cL_law 897 108 := byt_ck (lo := 864) (k := 33) kcL_law_864 rfl rfl
theorem dL_law_895 : At cL_law 895 (.invokevirtual 108) 3 898 := ⟨(o182 108 ycL_law_895 ycL_law_896 ycL_law_897 rfl), rfl⟩
theorem ycL_law_898 : Byt cL_law 898 87 := byt_ck (lo := 864) (k := 34) kcL_law_864 rfl rfl
theorem dL_law_898 : At cL_law 898 .pop 1 899 := ⟨(o87 ycL_law_898), rfl⟩
theorem ycL_law_899 : Byt cL_law 899 167 := byt_ck (lo := 864) (k := 35) kcL_law_864 rfl rfl
theorem ycL_law_900 : Byt cL_law 900 3 := byt_ck (lo := 864) (k := 36) kcL_law_864 rfl rfl
theorem ycL_law_901 : Byt cL_law 901 24 := byt_ck (lo := 864) (k := 37) kcL_law_864 rfl rfl
theorem dL_law_899 : AtB cL_law 899 (.goto 792) 792 902 1691 := ⟨(o167 792 ycL_law_899 ycL_law_900 ycL_law_901 rfl), rfl, rfl⟩
theorem ycL_law_902 : Byt cL_law 902 43 := byt_ck (lo := 864) (k := 38) kcL_law_864 rfl rfl
theorem dL_law_902 : At cL_law 902 (.aload_n 1) 1 903 := ⟨(o43 ycL_law_902), rfl⟩
theorem ycL_law_903 : Byt cL_law 903 42 := byt_ck (lo := 864) (k := 39) kcL_law_864 rfl rfl
theorem dL_law_903 : At cL_law 903 (.aload_n 0) 1 904 := ⟨(o42 ycL_law_903), rfl⟩
theorem ycL_law_904 : Byt cL_law 904 29 := byt_ck (lo := 864) (k := 40) kcL_law_864 rfl rfl
theorem dL_law_904 : At cL_law 904 (.iload_n 3) 1 905 := ⟨(o29 ycL_law_904), rfl⟩
theorem ycL_law_905 : Byt cL_law 905 4 := byt_ck (lo := 864) (k := 41) kcL_law_864 rfl rfl
theorem dL_law_905 : At cL_law 905 (.iconst 1) 1 906 := ⟨(o4 ycL_law_905), rfl⟩
theorem ycL_law_906 : Byt cL_law 906 96 := byt_ck (lo := 864) (k := 42) kcL_law_864 rfl rfl
theorem dL_law_906 : At cL_law 906 .iadd 1 907 := ⟨(o96 ycL_law_906), rfl⟩
theorem ycL_law_907 : Byt cL_law 907 46 := byt_ck (lo := 864) (k := 43) kcL_law_864 rfl rfl
theorem dL_law_907 : At cL_law 907 .iaload 1 908 := ⟨(o46 ycL_law_907), rfl⟩
theorem ycL_law_908 : Byt cL_law 908 42 := byt_ck (lo := 864) (k := 44) kcL_law_864 rfl rfl
theorem dL_law_908 : At cL_law 908 (.aload_n 0) 1 909 := ⟨(o42 ycL_law_908), rfl⟩
theorem ycL_law_909 : Byt cL_law 909 29 := byt_ck (lo := 864) (k := 45) kcL_law_864 rfl rfl
theorem dL_law_909 : At cL_law 909 (.iload_n 3) 1 910 := ⟨(o29 ycL_law_909), rfl⟩
theorem ycL_law_910 : Byt cL_law 910 5 := byt_ck (lo := 864) (k := 46) kcL_law_864 rfl rfl
theorem dL_law_910 : At cL_law 910 (.iconst 2) 1 911 := ⟨(o5 ycL_law_910), rfl⟩
theorem ycL_law_911 : Byt cL_law 911 96 := byt_ck (lo := 864) (k := 47) kcL_law_864 rfl rfl
theorem dL_law_911 : At cL_law 911 .iadd 1 912 := ⟨(o96 ycL_law_911), rfl⟩
theorem ycL_law_912 : Byt cL_law 912 46 := byt_ck (lo := 912) (k := 0) kcL_law_912 rfl rfl
theorem dL_law_912 : At cL_law 912 .iaload 1 913 := ⟨(o46 ycL_law_912), rfl⟩
theorem ycL_law_913 : Byt cL_law 913 182 := byt_ck (lo := 912) (k := 1) kcL_law_912 rfl rfl
theorem ycL_law_914 : Byt cL_law 914 0 := byt_ck (lo := 912) (k := 2) kcL_law_912 rfl rfl
theorem ycL_law_915 : Byt cL_law 915 109 := byt_ck (lo := 912) (k := 3) kcL_law_912 rfl rfl
theorem dL_law_913 : At cL_law 913 (.invokevirtual 109) 3 916 := ⟨(o182 109 ycL_law_913 ycL_law_914 ycL_law_915 rfl), rfl⟩
theorem ycL_law_916 : Byt cL_law 916 87 := byt_ck (lo := 912) (k := 4) kcL_law_912 rfl rfl
theorem dL_law_916 : At cL_law 916 .pop 1 917 := ⟨(o87 ycL_law_916), rfl⟩
theorem ycL_law_917 : Byt cL_law 917 44 := byt_ck (lo := 912) (k := 5) kcL_law_912 rfl rfl
theorem dL_law_917 : At cL_law 917 (.aload_n 2) 1 918 := ⟨(o44 ycL_law_917), rfl⟩
theorem ycL_law_918 : Byt cL_law 918 42 := byt_ck (lo := 912) (k := 6) kcL_law_912 rfl rfl
theorem dL_law_918 : At cL_law 918 (.aload_n 0) 1 919 := ⟨(o42 ycL_law_918), rfl⟩
theorem ycL_law_919 : Byt cL_law 919 29 := byt_ck (lo := 912) (k := 7) kcL_law_912 rfl rfl
theorem dL_law_919 : At cL_law 919 (.iload_n 3) 1 920 := ⟨(o29 ycL_law_919), rfl⟩
theorem ycL_law_920 : Byt cL_law 920 4 := byt_ck (lo := 912) (k := 8) kcL_law_912 rfl rfl
theorem dL_law_920 : At cL_law 920 (.iconst 1) 1 921 := ⟨(o4 ycL_law_920), rfl⟩
theorem ycL_law_921 : Byt cL_law 921 96 := byt_ck (lo := 912) (k := 9) kcL_law_912 rfl rfl
theorem dL_law_921 : At cL_law 921 .iadd 1 922 := ⟨(o96 ycL_law_921), rfl⟩
theorem ycL_law_922 : Byt cL_law 922 46 := byt_ck (lo := 912) (k := 10) kcL_law_912 rfl rfl
theorem dL_law_922 : At cL_law 922 .iaload 1 923 := ⟨(o46 ycL_law_922), rfl⟩
theorem ycL_law_923 : Byt cL_law 923 42 := byt_ck (lo := 912) (k := 11) kcL_law_912 rfl rfl
theorem dL_law_923 : At cL_law 923 (.aload_n 0) 1 924 := ⟨(o42 ycL_law_923), rfl⟩
theorem ycL_law_924 : Byt cL_law 924 29 := byt_ck (lo := 912) (k := 12) kcL_law_912 rfl rfl
theorem dL_law_924 : At cL_law 924 (.iload_n 3) 1 925 := ⟨(o29 ycL_law_924), rfl⟩
theorem ycL_law_925 : Byt cL_law 925 5 := byt_ck (lo := 912) (k := 13) kcL_law_912 rfl rfl
theorem dL_law_925 : At cL_law 925 (.iconst 2) 1 926 := ⟨(o5 ycL_law_925), rfl⟩
theorem ycL_law_926 : Byt cL_law 926 96 := byt_ck (lo := 912) (k := 14) kcL_law_912 rfl rfl
theorem dL_law_926 : At cL_law 926 .iadd 1 927 := ⟨(o96 ycL_law_926), rfl⟩
theorem ycL_law_927 : Byt cL_law 927 46 := byt_ck (lo := 912) (k := 15) kcL_law_912 rfl rfl
theorem dL_law_927 : At cL_law 927 .iaload 1 928 := ⟨(o46 ycL_law_927), rfl⟩
theorem ycL_law_928 : Byt cL_law 928 182 := byt_ck (lo := 912) (k := 16) kcL_law_912 rfl rfl
theorem ycL_law_929 : Byt cL_law 929 0 := byt_ck (lo := 912) (k := 17) kcL_law_912 rfl rfl
theorem ycL_law_930 : Byt cL_law 930 112 := byt_ck (lo := 912) (k := 18) kcL_law_912 rfl rfl
theorem dL_law_928 : At cL_law 928 (.invokevirtual 112) 3 931 := ⟨(o182 112 ycL_law_928 ycL_law_929 ycL_law_930 rfl), rfl⟩
theorem ycL_law_931 : Byt cL_law 931 87 := byt_ck (lo := 912) (k := 19) kcL_law_912 rfl rfl
theorem dL_law_931 : At cL_law 931 .pop 1 932 := ⟨(o87 ycL_law_931), rfl⟩
theorem ycL_law_932 : Byt cL_law 932 167 := byt_ck (lo := 912) (k := 20) kcL_law_912 rfl rfl
theorem ycL_law_933 : Byt cL_law 933 2 := byt_ck (lo := 912) (k := 21) kcL_law_912 rfl rfl
theorem ycL_law_934 : Byt cL_law 934 247 := byt_ck (lo := 912) (k := 22) kcL_law_912 rfl rfl
theorem dL_law_932 : AtB cL_law 932 (.goto 759) 759 935 1691 := ⟨(o167 759 ycL_law_932 ycL_law_933 ycL_law_934 rfl), rfl, rfl⟩
theorem ycL_law_935 : Byt cL_law 935 43 := byt_ck (lo := 912) (k := 23) kcL_law_912 rfl rfl
theorem dL_law_935 : At cL_law 935 (.aload_n 1) 1 936 := ⟨(o43 ycL_law_935), rfl⟩
theorem ycL_law_936 : Byt cL_law 936 42 := byt_ck (lo := 912) (k := 24) kcL_law_912 rfl rfl
theorem dL_law_936 : At cL_law 936 (.aload_n 0) 1 937 := ⟨(o42 ycL_law_936), rfl⟩
theorem ycL_law_937 : Byt cL_law 937 29 := byt_ck (lo := 912) (k := 25) kcL_law_912 rfl rfl
theorem dL_law_937 : At cL_law 937 (.iload_n 3) 1 938 := ⟨(o29 ycL_law_937), rfl⟩
theorem ycL_law_938 : Byt cL_law 938 4 := byt_ck (lo := 912) (k := 26) kcL_law_912 rfl rfl
theorem dL_law_938 : At cL_law 938 (.iconst 1) 1 939 := ⟨(o4 ycL_law_938), rfl⟩
theorem ycL_law_939 : Byt cL_law 939 96 := byt_ck (lo := 912) (k := 27) kcL_law_912 rfl rfl
theorem dL_law_939 : At cL_law 939 .iadd 1 940 := ⟨(o96 ycL_law_939), rfl⟩
theorem ycL_law_940 : Byt cL_law 940 46 := byt_ck (lo := 912) (k := 28) kcL_law_912 rfl rfl
theorem dL_law_940 : At cL_law 940 .iaload 1 941 := ⟨(o46 ycL_law_940), rfl⟩
theorem ycL_law_941 : Byt cL_law 941 42 := byt_ck (lo := 912) (k := 29) kcL_law_912 rfl rfl
theorem dL_law_941 : At cL_law 941 (.aload_n 0) 1 942 := ⟨(o42 ycL_law_941), rfl⟩
theorem ycL_law_942 : Byt cL_law 942 29 := byt_ck (lo := 912) (k := 30) kcL_law_912 rfl rfl
theorem dL_law_942 : At cL_law 942 (.iload_n 3) 1 943 := ⟨(o29 ycL_law_942), rfl⟩
theorem ycL_law_943 : Byt cL_law 943 5 := byt_ck (lo := 912) (k := 31) kcL_law_912 rfl rfl
theorem dL_law_943 : At cL_law 943 (.iconst 2) 1 944 := ⟨(o5 ycL_law_943), rfl⟩
theorem ycL_law_944 : Byt cL_law 944 96 := byt_ck (lo := 912) (k := 32) kcL_law_912 rfl rfl
theorem dL_law_944 : At cL_law 944 .iadd 1 945 := ⟨(o96 ycL_law_944), rfl⟩
theorem ycL_law_945 : Byt cL_law 945 46 := byt_ck (lo := 912) (k := 33) kcL_law_912 rfl rfl
theorem dL_law_945 : At cL_law 945 .iaload 1 946 := ⟨(o46 ycL_law_945), rfl⟩
theorem ycL_law_946 : Byt cL_law 946 182 := byt_ck (lo := 912) (k := 34) kcL_law_912 rfl rfl
theorem ycL_law_947 : Byt cL_law 947 0 := byt_ck (lo := 912) (k := 35) kcL_law_912 rfl rfl
theorem ycL_law_948 : Byt cL_law 948 113 := byt_ck (lo := 912) (k := 36) kcL_law_912 rfl rfl
theorem dL_law_946 : At cL_law 946 (.invokevirtual 113) 3 949 := ⟨(o182 113 ycL_law_946 ycL_law_947 ycL_law_948 rfl), rfl⟩
theorem ycL_law_949 : Byt cL_law 949 87 := byt_ck (lo := 912) (k := 37) kcL_law_912 rfl rfl
theorem dL_law_949 : At cL_law 949 .pop 1 950 := ⟨(o87 ycL_law_949), rfl⟩
theorem ycL_law_950 : Byt cL_law 950 44 := byt_ck (lo := 912) (k := 38) kcL_law_912 rfl rfl
theorem dL_law_950 : At cL_law 950 (.aload_n 2) 1 951 := ⟨(o44 ycL_law_950), rfl⟩
theorem ycL_law_951 : Byt cL_law 951 42 := byt_ck (lo := 912) (k := 39) kcL_law_912 rfl rfl
theorem dL_law_951 : At cL_law 951 (.aload_n 0) 1 952 := ⟨(o42 ycL_law_951), rfl⟩
theorem ycL_law_952 : Byt cL_law 952 29 := byt_ck (lo := 912) (k := 40) kcL_law_912 rfl rfl
theorem dL_law_952 : At cL_law 952 (.iload_n 3) 1 953 := ⟨(o29 ycL_law_952), rfl⟩
theorem ycL_law_953 : Byt cL_law 953 4 := byt_ck (lo := 912) (k := 41) kcL_law_912 rfl rfl
theorem dL_law_953 : At cL_law 953 (.iconst 1) 1 954 := ⟨(o4 ycL_law_953), rfl⟩
theorem ycL_law_954 : Byt cL_law 954 96 := byt_ck (lo := 912) (k := 42) kcL_law_912 rfl rfl
theorem dL_law_954 : At cL_law 954 .iadd 1 955 := ⟨(o96 ycL_law_954), rfl⟩
theorem ycL_law_955 : Byt cL_law 955 46 := byt_ck (lo := 912) (k := 43) kcL_law_912 rfl rfl
theorem dL_law_955 : At cL_law 955 .iaload 1 956 := ⟨(o46 ycL_law_955), rfl⟩
theorem ycL_law_956 : Byt cL_law 956 42 := byt_ck (lo := 912) (k := 44) kcL_law_912 rfl rfl
theorem dL_law_956 : At cL_law 956 (.aload_n 0) 1 957 := ⟨(o42 ycL_law_956), rfl⟩
theorem ycL_law_957 : Byt cL_law 957 29 := byt_ck (lo := 912) (k := 45) kcL_law_912 rfl rfl
theorem dL_law_957 : At cL_law 957 (.iload_n 3) 1 958 := ⟨(o29 ycL_law_957), rfl⟩
theorem ycL_law_958 : Byt cL_law 958 5 := byt_ck (lo := 912) (k := 46) kcL_law_912 rfl rfl
theorem dL_law_958 : At cL_law 958 (.iconst 2) 1 959 := ⟨(o5 ycL_law_958), rfl⟩
theorem ycL_law_959 : Byt cL_law 959 96 := byt_ck (lo := 912) (k := 47) kcL_law_912 rfl rfl
theorem dL_law_959 : At cL_law 959 .iadd 1 960 := ⟨(o96 ycL_law_959), rfl⟩
theorem ycL_law_960 : Byt cL_law 960 46 := byt_ck (lo := 960) (k := 0) kcL_law_960 rfl rfl
theorem dL_law_960 : At cL_law 960 .iaload 1 961 := ⟨(o46 ycL_law_960), rfl⟩
theorem ycL_law_961 : Byt cL_law 961 182 := byt_ck (lo := 960) (k := 1) kcL_law_960 rfl rfl
theorem ycL_law_962 : Byt cL_law 962 0 := byt_ck (lo := 960) (k := 2) kcL_law_960 rfl rfl
theorem ycL_law_963 : Byt cL_law 963 116 := byt_ck (lo := 960) (k := 3) kcL_law_960 rfl rfl
theorem dL_law_961 : At cL_law 961 (.invokevirtual 116) 3 964 := ⟨(o182 116 ycL_law_961 ycL_law_962 ycL_law_963 rfl), rfl⟩
theorem ycL_law_964 : Byt cL_law 964 87 := byt_ck (lo := 960) (k := 4) kcL_law_960 rfl rfl
theorem dL_law_964 : At cL_law 964 .pop 1 965 := ⟨(o87 ycL_law_964), rfl⟩
theorem ycL_law_965 : Byt cL_law 965 167 := byt_ck (lo := 960) (k := 5) kcL_law_960 rfl rfl
theorem ycL_law_966 : Byt cL_law 966 2 := byt_ck (lo := 960) (k := 6) kcL_law_960 rfl rfl
theorem ycL_law_967 : Byt cL_law 967 214 := byt_ck (lo := 960) (k := 7) kcL_law_960 rfl rfl
theorem dL_law_965 : AtB cL_law 965 (.goto 726) 726 968 1691 := ⟨(o167 726 ycL_law_965 ycL_law_966 ycL_law_967 rfl), rfl, rfl⟩
theorem ycL_law_968 : Byt cL_law 968 43 := byt_ck (lo := 960) (k := 8) kcL_law_960 rfl rfl
theorem dL_law_968 : At cL_law 968 (.aload_n 1) 1 969 := ⟨(o43 ycL_law_968), rfl⟩
theorem ycL_law_969 : Byt cL_law 969 42 := byt_ck (lo := 960) (k := 9) kcL_law_960 rfl rfl
theorem dL_law_969 : At cL_law 969 (.aload_n 0) 1 970 := ⟨(o42 ycL_law_969), rfl⟩
theorem ycL_law_970 : Byt cL_law 970 29 := byt_ck (lo := 960) (k := 10) kcL_law_960 rfl rfl
theorem dL_law_970 : At cL_law 970 (.iload_n 3) 1 971 := ⟨(o29 ycL_law_970), rfl⟩
theorem ycL_law_971 : Byt cL_law 971 4 := byt_ck (lo := 960) (k := 11) kcL_law_960 rfl rfl
theorem dL_law_971 : At cL_law 971 (.iconst 1) 1 972 := ⟨(o4 ycL_law_971), rfl⟩
theorem ycL_law_972 : Byt cL_law 972 96 := byt_ck (lo := 960) (k := 12) kcL_law_960 rfl rfl
theorem dL_law_972 : At cL_law 972 .iadd 1 973 := ⟨(o96 ycL_law_972), rfl⟩
theorem ycL_law_973 : Byt cL_law 973 46 := byt_ck (lo := 960) (k := 13) kcL_law_960 rfl rfl
theorem dL_law_973 : At cL_law 973 .iaload 1 974 := ⟨(o46 ycL_law_973), rfl⟩
theorem ycL_law_974 : Byt cL_law 974 42 := byt_ck (lo := 960) (k := 14) kcL_law_960 rfl rfl
theorem dL_law_974 : At cL_law 974 (.aload_n 0) 1 975 := ⟨(o42 ycL_law_974), rfl⟩
theorem ycL_law_975 : Byt cL_law 975 29 := byt_ck (lo := 960) (k := 15) kcL_law_960 rfl rfl
theorem dL_law_975 : At cL_law 975 (.iload_n 3) 1 976 := ⟨(o29 ycL_law_975), rfl⟩
theorem ycL_law_976 : Byt cL_law 976 5 := byt_ck (lo := 960) (k := 16) kcL_law_960 rfl rfl
theorem dL_law_976 : At cL_law 976 (.iconst 2) 1 977 := ⟨(o5 ycL_law_976), rfl⟩
theorem ycL_law_977 : Byt cL_law 977 96 := byt_ck (lo := 960) (k := 17) kcL_law_960 rfl rfl
theorem dL_law_977 : At cL_law 977 .iadd 1 978 := ⟨(o96 ycL_law_977), rfl⟩
theorem ycL_law_978 : Byt cL_law 978 46 := byt_ck (lo := 960) (k := 18) kcL_law_960 rfl rfl
theorem dL_law_978 : At cL_law 978 .iaload 1 979 := ⟨(o46 ycL_law_978), rfl⟩
theorem ycL_law_979 : Byt cL_law 979 42 := byt_ck (lo := 960) (k := 19) kcL_law_960 rfl rfl
theorem dL_law_979 : At cL_law 979 (.aload_n 0) 1 980 := ⟨(o42 ycL_law_979), rfl⟩
theorem ycL_law_980 : Byt cL_law 980 29 := byt_ck (lo := 960) (k := 20) kcL_law_960 rfl rfl
theorem dL_law_980 : At cL_law 980 (.iload_n 3) 1 981 := ⟨(o29 ycL_law_980), rfl⟩
theorem ycL_law_981 : Byt cL_law 981 6 := byt_ck (lo := 960) (k := 21) kcL_law_960 rfl rfl
theorem dL_law_981 : At cL_law 981 (.iconst 3) 1 982 := ⟨(o6 ycL_law_981), rfl⟩
theorem ycL_law_982 : Byt cL_law 982 96 := byt_ck (lo := 960) (k := 22) kcL_law_960 rfl rfl
theorem dL_law_982 : At cL_law 982 .iadd 1 983 := ⟨(o96 ycL_law_982), rfl⟩
theorem ycL_law_983 : Byt cL_law 983 46 := byt_ck (lo := 960) (k := 23) kcL_law_960 rfl rfl
theorem dL_law_983 : At cL_law 983 .iaload 1 984 := ⟨(o46 ycL_law_983), rfl⟩
theorem ycL_law_984 : Byt cL_law 984 153 := byt_ck (lo := 960) (k := 24) kcL_law_960 rfl rfl
theorem ycL_law_985 : Byt cL_law 985 0 := byt_ck (lo := 960) (k := 25) kcL_law_960 rfl rfl
theorem ycL_law_986 : Byt cL_law 986 7 := byt_ck (lo := 960) (k := 26) kcL_law_960 rfl rfl
theorem dL_law_984 : AtB cL_law 984 (.ifCond .eq 7) 7 987 991 := ⟨(o153 7 ycL_law_984 ycL_law_985 ycL_law_986 rfl), rfl, rfl⟩
theorem ycL_law_987 : Byt cL_law 987 4 := byt_ck (lo := 960) (k := 27) kcL_law_960 rfl rfl
theorem dL_law_987 : At cL_law 987 (.iconst 1) 1 988 := ⟨(o4 ycL_law_987), rfl⟩
theorem ycL_law_988 : Byt cL_law 988 167 := byt_ck (lo := 960) (k := 28) kcL_law_960 rfl rfl
theorem ycL_law_989 : Byt cL_law 989 0 := byt_ck (lo := 960) (k := 29) kcL_law_960 rfl rfl
theorem ycL_law_990 : Byt cL_law 990 4 := byt_ck (lo := 960) (k := 30) kcL_law_960 rfl rfl
theorem dL_law_988 : AtB cL_law 988 (.goto 4) 4 991 992 := ⟨(o167 4 ycL_law_988 ycL_law_989 ycL_law_990 rfl), rfl, rfl⟩
theorem ycL_law_991 : Byt cL_law 991 3 := byt_ck (lo := 960) (k := 31) kcL_law_960 rfl rfl
theorem dL_law_991 : At cL_law 991 (.iconst 0) 1 992 := ⟨(o3 ycL_law_991), rfl⟩
theorem ycL_law_992 : Byt cL_law 992 182 := byt_ck (lo := 960) (k := 32) kcL_law_960 rfl rfl
theorem ycL_law_993 : Byt cL_law 993 0 := byt_ck (lo := 960) (k := 33) kcL_law_960 rfl rfl
theorem ycL_law_994 : Byt cL_law 994 117 := byt_ck (lo := 960) (k := 34) kcL_law_960 rfl rfl
theorem dL_law_992 : At cL_law 992 (.invokevirtual 117) 3 995 := ⟨(o182 117 ycL_law_992 ycL_law_993 ycL_law_994 rfl), rfl⟩
theorem ycL_law_995 : Byt cL_law 995 88 := byt_ck (lo := 960) (k := 35) kcL_law_960 rfl rfl
theorem dL_law_995 : At cL_law 995 .pop2 1 996 := ⟨(o88 ycL_law_995), rfl⟩
theorem ycL_law_996 : Byt cL_law 996 44 := byt_ck (lo := 960) (k := 36) kcL_law_960 rfl rfl
theorem dL_law_996 : At cL_law 996 (.aload_n 2) 1 997 := ⟨(o44 ycL_law_996), rfl⟩
theorem ycL_law_997 : Byt cL_law 997 42 := byt_ck (lo := 960) (k := 37) kcL_law_960 rfl rfl
theorem dL_law_997 : At cL_law 997 (.aload_n 0) 1 998 := ⟨(o42 ycL_law_997), rfl⟩
theorem ycL_law_998 : Byt cL_law 998 29 := byt_ck (lo := 960) (k := 38) kcL_law_960 rfl rfl
theorem dL_law_998 : At cL_law 998 (.iload_n 3) 1 999 := ⟨(o29 ycL_law_998), rfl⟩
theorem ycL_law_999 : Byt cL_law 999 4 := byt_ck (lo := 960) (k := 39) kcL_law_960 rfl rfl
theorem dL_law_999 : At cL_law 999 (.iconst 1) 1 1000 := ⟨(o4 ycL_law_999), rfl⟩
theorem ycL_law_1000 : Byt cL_law 1000 96 := byt_ck (lo := 960) (k := 40) kcL_law_960 rfl rfl
theorem dL_law_1000 : At cL_law 1000 .iadd 1 1001 := ⟨(o96 ycL_law_1000), rfl⟩
theorem ycL_law_1001 : Byt cL_law 1001 46 := byt_ck (lo := 960) (k := 41) kcL_law_960 rfl rfl
theorem dL_law_1001 : At cL_law 1001 .iaload 1 1002 := ⟨(o46 ycL_law_1001), rfl⟩
theorem ycL_law_1002 : Byt cL_law 1002 42 := byt_ck (lo := 960) (k := 42) kcL_law_960 rfl rfl
theorem dL_law_1002 : At cL_law 1002 (.aload_n 0) 1 1003 := ⟨(o42 ycL_law_1002), rfl⟩
theorem ycL_law_1003 : Byt cL_law 1003 29 := byt_ck (lo := 960) (k := 43) kcL_law_960 rfl rfl
theorem dL_law_1003 : At cL_law 1003 (.iload_n 3) 1 1004 := ⟨(o29 ycL_law_1003), rfl⟩
theorem ycL_law_1004 : Byt cL_law 1004 5 := byt_ck (lo := 960) (k := 44) kcL_law_960 rfl rfl
theorem dL_law_1004 : At cL_law 1004 (.iconst 2) 1 1005 := ⟨(o5 ycL_law_1004), rfl⟩
theorem ycL_law_1005 : Byt cL_law 1005 96 := byt_ck (lo := 960) (k := 45) kcL_law_960 rfl rfl
theorem dL_law_1005 : At cL_law 1005 .iadd 1 1006 := ⟨(o96 ycL_law_1005), rfl⟩
theorem ycL_law_1006 : Byt cL_law 1006 46 := byt_ck (lo := 960) (k := 46) kcL_law_960 rfl rfl
theorem dL_law_1006 : At cL_law 1006 .iaload 1 1007 := ⟨(o46 ycL_law_1006), rfl⟩
theorem ycL_law_1007 : Byt cL_law 1007 42 := byt_ck (lo := 960) (k := 47) kcL_law_960 rfl rfl
theorem dL_law_1007 : At cL_law 1007 (.aload_n 0) 1 1008 := ⟨(o42 ycL_law_1007), rfl⟩
theorem ycL_law_1008 : Byt cL_law 1008 29 := byt_ck (lo := 1008) (k := 0) kcL_law_1008 rfl rfl
theorem dL_law_1008 : At cL_law 1008 (.iload_n 3) 1 1009 := ⟨(o29 ycL_law_1008), rfl⟩
theorem ycL_law_1009 : Byt cL_law 1009 6 := byt_ck (lo := 1008) (k := 1) kcL_law_1008 rfl rfl
theorem dL_law_1009 : At cL_law 1009 (.iconst 3) 1 1010 := ⟨(o6 ycL_law_1009), rfl⟩
theorem ycL_law_1010 : Byt cL_law 1010 96 := byt_ck (lo := 1008) (k := 2) kcL_law_1008 rfl rfl
theorem dL_law_1010 : At cL_law 1010 .iadd 1 1011 := ⟨(o96 ycL_law_1010), rfl⟩
theorem ycL_law_1011 : Byt cL_law 1011 46 := byt_ck (lo := 1008) (k := 3) kcL_law_1008 rfl rfl
theorem dL_law_1011 : At cL_law 1011 .iaload 1 1012 := ⟨(o46 ycL_law_1011), rfl⟩
theorem ycL_law_1012 : Byt cL_law 1012 153 := byt_ck (lo := 1008) (k := 4) kcL_law_1008 rfl rfl
theorem ycL_law_1013 : Byt cL_law 1013 0 := byt_ck (lo := 1008) (k := 5) kcL_law_1008 rfl rfl
theorem ycL_law_1014 : Byt cL_law 1014 7 := byt_ck (lo := 1008) (k := 6) kcL_law_1008 rfl rfl
theorem dL_law_1012 : AtB cL_law 1012 (.ifCond .eq 7) 7 1015 1019 := ⟨(o153 7 ycL_law_1012 ycL_law_1013 ycL_law_1014 rfl), rfl, rfl⟩
theorem ycL_law_1015 : Byt cL_law 1015 4 := byt_ck (lo := 1008) (k := 7) kcL_law_1008 rfl rfl
theorem dL_law_1015 : At cL_law 1015 (.iconst 1) 1 1016 := ⟨(o4 ycL_law_1015), rfl⟩
theorem ycL_law_1016 : Byt cL_law 1016 167 := byt_ck (lo := 1008) (k := 8) kcL_law_1008 rfl rfl
theorem ycL_law_1017 : Byt cL_law 1017 0 := byt_ck (lo := 1008) (k := 9) kcL_law_1008 rfl rfl
theorem ycL_law_1018 : Byt cL_law 1018 4 := byt_ck (lo := 1008) (k := 10) kcL_law_1008 rfl rfl
theorem dL_law_1016 : AtB cL_law 1016 (.goto 4) 4 1019 1020 := ⟨(o167 4 ycL_law_1016 ycL_law_1017 ycL_law_1018 rfl), rfl, rfl⟩
theorem ycL_law_1019 : Byt cL_law 1019 3 := byt_ck (lo := 1008) (k := 11) kcL_law_1008 rfl rfl
theorem dL_law_1019 : At cL_law 1019 (.iconst 0) 1 1020 := ⟨(o3 ycL_law_1019), rfl⟩
theorem ycL_law_1020 : Byt cL_law 1020 182 := byt_ck (lo := 1008) (k := 12) kcL_law_1008 rfl rfl
theorem ycL_law_1021 : Byt cL_law 1021 0 := byt_ck (lo := 1008) (k := 13) kcL_law_1008 rfl rfl
theorem ycL_law_1022 : Byt cL_law 1022 121 := byt_ck (lo := 1008) (k := 14) kcL_law_1008 rfl rfl
theorem dL_law_1020 : At cL_law 1020 (.invokevirtual 121) 3 1023 := ⟨(o182 121 ycL_law_1020 ycL_law_1021 ycL_law_1022 rfl), rfl⟩
theorem ycL_law_1023 : Byt cL_law 1023 88 := byt_ck (lo := 1008) (k := 15) kcL_law_1008 rfl rfl
theorem dL_law_1023 : At cL_law 1023 .pop2 1 1024 := ⟨(o88 ycL_law_1023), rfl⟩
theorem ycL_law_1024 : Byt cL_law 1024 167 := byt_ck (lo := 1008) (k := 16) kcL_law_1008 rfl rfl
theorem ycL_law_1025 : Byt cL_law 1025 2 := byt_ck (lo := 1008) (k := 17) kcL_law_1008 rfl rfl
theorem ycL_law_1026 : Byt cL_law 1026 155 := byt_ck (lo := 1008) (k := 18) kcL_law_1008 rfl rfl
theorem dL_law_1024 : AtB cL_law 1024 (.goto 667) 667 1027 1691 := ⟨(o167 667 ycL_law_1024 ycL_law_1025 ycL_law_1026 rfl), rfl, rfl⟩
theorem ycL_law_1027 : Byt cL_law 1027 43 := byt_ck (lo := 1008) (k := 19) kcL_law_1008 rfl rfl
theorem dL_law_1027 : At cL_law 1027 (.aload_n 1) 1 1028 := ⟨(o43 ycL_law_1027), rfl⟩
theorem ycL_law_1028 : Byt cL_law 1028 42 := byt_ck (lo := 1008) (k := 20) kcL_law_1008 rfl rfl
theorem dL_law_1028 : At cL_law 1028 (.aload_n 0) 1 1029 := ⟨(o42 ycL_law_1028), rfl⟩
theorem ycL_law_1029 : Byt cL_law 1029 29 := byt_ck (lo := 1008) (k := 21) kcL_law_1008 rfl rfl
theorem dL_law_1029 : At cL_law 1029 (.iload_n 3) 1 1030 := ⟨(o29 ycL_law_1029), rfl⟩
theorem ycL_law_1030 : Byt cL_law 1030 4 := byt_ck (lo := 1008) (k := 22) kcL_law_1008 rfl rfl
theorem dL_law_1030 : At cL_law 1030 (.iconst 1) 1 1031 := ⟨(o4 ycL_law_1030), rfl⟩
theorem ycL_law_1031 : Byt cL_law 1031 96 := byt_ck (lo := 1008) (k := 23) kcL_law_1008 rfl rfl
theorem dL_law_1031 : At cL_law 1031 .iadd 1 1032 := ⟨(o96 ycL_law_1031), rfl⟩
theorem ycL_law_1032 : Byt cL_law 1032 46 := byt_ck (lo := 1008) (k := 24) kcL_law_1008 rfl rfl
theorem dL_law_1032 : At cL_law 1032 .iaload 1 1033 := ⟨(o46 ycL_law_1032), rfl⟩
theorem ycL_law_1033 : Byt cL_law 1033 182 := byt_ck (lo := 1008) (k := 25) kcL_law_1008 rfl rfl
theorem ycL_law_1034 : Byt cL_law 1034 0 := byt_ck (lo := 1008) (k := 26) kcL_law_1008 rfl rfl
theorem ycL_law_1035 : Byt cL_law 1035 122 := byt_ck (lo := 1008) (k := 27) kcL_law_1008 rfl rfl
theorem dL_law_1033 : At cL_law 1033 (.invokevirtual 122) 3 1036 := ⟨(o182 122 ycL_law_1033 ycL_law_1034 ycL_law_1035 rfl), rfl⟩
theorem ycL_law_1036 : Byt cL_law 1036 87 := byt_ck (lo := 1008) (k := 28) kcL_law_1008 rfl rfl
theorem dL_law_1036 : At cL_law 1036 .pop 1 1037 := ⟨(o87 ycL_law_1036), rfl⟩
theorem ycL_law_1037 : Byt cL_law 1037 44 := byt_ck (lo := 1008) (k := 29) kcL_law_1008 rfl rfl
theorem dL_law_1037 : At cL_law 1037 (.aload_n 2) 1 1038 := ⟨(o44 ycL_law_1037), rfl⟩
theorem ycL_law_1038 : Byt cL_law 1038 42 := byt_ck (lo := 1008) (k := 30) kcL_law_1008 rfl rfl
theorem dL_law_1038 : At cL_law 1038 (.aload_n 0) 1 1039 := ⟨(o42 ycL_law_1038), rfl⟩
theorem ycL_law_1039 : Byt cL_law 1039 29 := byt_ck (lo := 1008) (k := 31) kcL_law_1008 rfl rfl
theorem dL_law_1039 : At cL_law 1039 (.iload_n 3) 1 1040 := ⟨(o29 ycL_law_1039), rfl⟩
theorem ycL_law_1040 : Byt cL_law 1040 4 := byt_ck (lo := 1008) (k := 32) kcL_law_1008 rfl rfl
theorem dL_law_1040 : At cL_law 1040 (.iconst 1) 1 1041 := ⟨(o4 ycL_law_1040), rfl⟩
theorem ycL_law_1041 : Byt cL_law 1041 96 := byt_ck (lo := 1008) (k := 33) kcL_law_1008 rfl rfl
theorem dL_law_1041 : At cL_law 1041 .iadd 1 1042 := ⟨(o96 ycL_law_1041), rfl⟩
theorem ycL_law_1042 : Byt cL_law 1042 46 := byt_ck (lo := 1008) (k := 34) kcL_law_1008 rfl rfl
theorem dL_law_1042 : At cL_law 1042 .iaload 1 1043 := ⟨(o46 ycL_law_1042), rfl⟩
theorem ycL_law_1043 : Byt cL_law 1043 182 := byt_ck (lo := 1008) (k := 35) kcL_law_1008 rfl rfl
theorem ycL_law_1044 : Byt cL_law 1044 0 := byt_ck (lo := 1008) (k := 36) kcL_law_1008 rfl rfl
theorem ycL_law_1045 : Byt cL_law 1045 125 := byt_ck (lo := 1008) (k := 37) kcL_law_1008 rfl rfl
theorem dL_law_1043 : At cL_law 1043 (.invokevirtual 125) 3 1046 := ⟨(o182 125 ycL_law_1043 ycL_law_1044 ycL_law_1045 rfl), rfl⟩
theorem ycL_law_1046 : Byt cL_law 1046 87 := byt_ck (lo := 1008) (k := 38) kcL_law_1008 rfl rfl
theorem dL_law_1046 : At cL_law 1046 .pop 1 1047 := ⟨(o87 ycL_law_1046), rfl⟩
theorem ycL_law_1047 : Byt cL_law 1047 167 := byt_ck (lo := 1008) (k := 39) kcL_law_1008 rfl rfl
theorem ycL_law_1048 : Byt cL_law 1048 2 := byt_ck (lo := 1008) (k := 40) kcL_law_1008 rfl rfl
theorem ycL_law_1049 : Byt cL_law 1049 132 := byt_ck (lo := 1008) (k := 41) kcL_law_1008 rfl rfl
theorem dL_law_1047 : AtB cL_law 1047 (.goto 644) 644 1050 1691 := ⟨(o167 644 ycL_law_1047 ycL_law_1048 ycL_law_1049 rfl), rfl, rfl⟩
theorem ycL_law_1050 : Byt cL_law 1050 43 := byt_ck (lo := 1008) (k := 42) kcL_law_1008 rfl rfl
theorem dL_law_1050 : At cL_law 1050 (.aload_n 1) 1 1051 := ⟨(o43 ycL_law_1050), rfl⟩
theorem ycL_law_1051 : Byt cL_law 1051 42 := byt_ck (lo := 1008) (k := 43) kcL_law_1008 rfl rfl
theorem dL_law_1051 : At cL_law 1051 (.aload_n 0) 1 1052 := ⟨(o42 ycL_law_1051), rfl⟩
theorem ycL_law_1052 : Byt cL_law 1052 29 := byt_ck (lo := 1008) (k := 44) kcL_law_1008 rfl rfl
theorem dL_law_1052 : At cL_law 1052 (.iload_n 3) 1 1053 := ⟨(o29 ycL_law_1052), rfl⟩
theorem ycL_law_1053 : Byt cL_law 1053 4 := byt_ck (lo := 1008) (k := 45) kcL_law_1008 rfl rfl
theorem dL_law_1053 : At cL_law 1053 (.iconst 1) 1 1054 := ⟨(o4 ycL_law_1053), rfl⟩
theorem ycL_law_1054 : Byt cL_law 1054 96 := byt_ck (lo := 1008) (k := 46) kcL_law_1008 rfl rfl
theorem dL_law_1054 : At cL_law 1054 .iadd 1 1055 := ⟨(o96 ycL_law_1054), rfl⟩
theorem ycL_law_1055 : Byt cL_law 1055 46 := byt_ck (lo := 1008) (k := 47) kcL_law_1008 rfl rfl
theorem dL_law_1055 : At cL_law 1055 .iaload 1 1056 := ⟨(o46 ycL_law_1055), rfl⟩
theorem ycL_law_1056 : Byt cL_law 1056 42 := byt_ck (lo := 1056) (k := 0) kcL_law_1056 rfl rfl
theorem dL_law_1056 : At cL_law 1056 (.aload_n 0) 1 1057 := ⟨(o42 ycL_law_1056), rfl⟩
theorem ycL_law_1057 : Byt cL_law 1057 29 := byt_ck (lo := 1056) (k := 1) kcL_law_1056 rfl rfl
theorem dL_law_1057 : At cL_law 1057 (.iload_n 3) 1 1058 := ⟨(o29 ycL_law_1057), rfl⟩
theorem ycL_law_1058 : Byt cL_law 1058 5 := byt_ck (lo := 1056) (k := 2) kcL_law_1056 rfl rfl
theorem dL_law_1058 : At cL_law 1058 (.iconst 2) 1 1059 := ⟨(o5 ycL_law_1058), rfl⟩
theorem ycL_law_1059 : Byt cL_law 1059 96 := byt_ck (lo := 1056) (k := 3) kcL_law_1056 rfl rfl
theorem dL_law_1059 : At cL_law 1059 .iadd 1 1060 := ⟨(o96 ycL_law_1059), rfl⟩
theorem ycL_law_1060 : Byt cL_law 1060 46 := byt_ck (lo := 1056) (k := 4) kcL_law_1056 rfl rfl
theorem dL_law_1060 : At cL_law 1060 .iaload 1 1061 := ⟨(o46 ycL_law_1060), rfl⟩
theorem ycL_law_1061 : Byt cL_law 1061 153 := byt_ck (lo := 1056) (k := 5) kcL_law_1056 rfl rfl
theorem ycL_law_1062 : Byt cL_law 1062 0 := byt_ck (lo := 1056) (k := 6) kcL_law_1056 rfl rfl
theorem ycL_law_1063 : Byt cL_law 1063 7 := byt_ck (lo := 1056) (k := 7) kcL_law_1056 rfl rfl
theorem dL_law_1061 : AtB cL_law 1061 (.ifCond .eq 7) 7 1064 1068 := ⟨(o153 7 ycL_law_1061 ycL_law_1062 ycL_law_1063 rfl), rfl, rfl⟩
theorem ycL_law_1064 : Byt cL_law 1064 4 := byt_ck (lo := 1056) (k := 8) kcL_law_1056 rfl rfl
theorem dL_law_1064 : At cL_law 1064 (.iconst 1) 1 1065 := ⟨(o4 ycL_law_1064), rfl⟩
theorem ycL_law_1065 : Byt cL_law 1065 167 := byt_ck (lo := 1056) (k := 9) kcL_law_1056 rfl rfl
theorem ycL_law_1066 : Byt cL_law 1066 0 := byt_ck (lo := 1056) (k := 10) kcL_law_1056 rfl rfl
theorem ycL_law_1067 : Byt cL_law 1067 4 := byt_ck (lo := 1056) (k := 11) kcL_law_1056 rfl rfl
theorem dL_law_1065 : AtB cL_law 1065 (.goto 4) 4 1068 1069 := ⟨(o167 4 ycL_law_1065 ycL_law_1066 ycL_law_1067 rfl), rfl, rfl⟩
theorem ycL_law_1068 : Byt cL_law 1068 3 := byt_ck (lo := 1056) (k := 12) kcL_law_1056 rfl rfl
theorem dL_law_1068 : At cL_law 1068 (.iconst 0) 1 1069 := ⟨(o3 ycL_law_1068), rfl⟩
theorem ycL_law_1069 : Byt cL_law 1069 182 := byt_ck (lo := 1056) (k := 13) kcL_law_1056 rfl rfl
theorem ycL_law_1070 : Byt cL_law 1070 0 := byt_ck (lo := 1056) (k := 14) kcL_law_1056 rfl rfl
theorem ycL_law_1071 : Byt cL_law 1071 126 := byt_ck (lo := 1056) (k := 15) kcL_law_1056 rfl rfl
theorem dL_law_1069 : At cL_law 1069 (.invokevirtual 126) 3 1072 := ⟨(o182 126 ycL_law_1069 ycL_law_1070 ycL_law_1071 rfl), rfl⟩
theorem ycL_law_1072 : Byt cL_law 1072 87 := byt_ck (lo := 1056) (k := 16) kcL_law_1056 rfl rfl
theorem dL_law_1072 : At cL_law 1072 .pop 1 1073 := ⟨(o87 ycL_law_1072), rfl⟩
theorem ycL_law_1073 : Byt cL_law 1073 44 := byt_ck (lo := 1056) (k := 17) kcL_law_1056 rfl rfl
theorem dL_law_1073 : At cL_law 1073 (.aload_n 2) 1 1074 := ⟨(o44 ycL_law_1073), rfl⟩
theorem ycL_law_1074 : Byt cL_law 1074 42 := byt_ck (lo := 1056) (k := 18) kcL_law_1056 rfl rfl
theorem dL_law_1074 : At cL_law 1074 (.aload_n 0) 1 1075 := ⟨(o42 ycL_law_1074), rfl⟩
theorem ycL_law_1075 : Byt cL_law 1075 29 := byt_ck (lo := 1056) (k := 19) kcL_law_1056 rfl rfl
theorem dL_law_1075 : At cL_law 1075 (.iload_n 3) 1 1076 := ⟨(o29 ycL_law_1075), rfl⟩
theorem ycL_law_1076 : Byt cL_law 1076 4 := byt_ck (lo := 1056) (k := 20) kcL_law_1056 rfl rfl
theorem dL_law_1076 : At cL_law 1076 (.iconst 1) 1 1077 := ⟨(o4 ycL_law_1076), rfl⟩
theorem ycL_law_1077 : Byt cL_law 1077 96 := byt_ck (lo := 1056) (k := 21) kcL_law_1056 rfl rfl
theorem dL_law_1077 : At cL_law 1077 .iadd 1 1078 := ⟨(o96 ycL_law_1077), rfl⟩
theorem ycL_law_1078 : Byt cL_law 1078 46 := byt_ck (lo := 1056) (k := 22) kcL_law_1056 rfl rfl
theorem dL_law_1078 : At cL_law 1078 .iaload 1 1079 := ⟨(o46 ycL_law_1078), rfl⟩
theorem ycL_law_1079 : Byt cL_law 1079 42 := byt_ck (lo := 1056) (k := 23) kcL_law_1056 rfl rfl
theorem dL_law_1079 : At cL_law 1079 (.aload_n 0) 1 1080 := ⟨(o42 ycL_law_1079), rfl⟩
theorem ycL_law_1080 : Byt cL_law 1080 29 := byt_ck (lo := 1056) (k := 24) kcL_law_1056 rfl rfl
theorem dL_law_1080 : At cL_law 1080 (.iload_n 3) 1 1081 := ⟨(o29 ycL_law_1080), rfl⟩
theorem ycL_law_1081 : Byt cL_law 1081 5 := byt_ck (lo := 1056) (k := 25) kcL_law_1056 rfl rfl
theorem dL_law_1081 : At cL_law 1081 (.iconst 2) 1 1082 := ⟨(o5 ycL_law_1081), rfl⟩
theorem ycL_law_1082 : Byt cL_law 1082 96 := byt_ck (lo := 1056) (k := 26) kcL_law_1056 rfl rfl
theorem dL_law_1082 : At cL_law 1082 .iadd 1 1083 := ⟨(o96 ycL_law_1082), rfl⟩
theorem ycL_law_1083 : Byt cL_law 1083 46 := byt_ck (lo := 1056) (k := 27) kcL_law_1056 rfl rfl
theorem dL_law_1083 : At cL_law 1083 .iaload 1 1084 := ⟨(o46 ycL_law_1083), rfl⟩
theorem ycL_law_1084 : Byt cL_law 1084 153 := byt_ck (lo := 1056) (k := 28) kcL_law_1056 rfl rfl
theorem ycL_law_1085 : Byt cL_law 1085 0 := byt_ck (lo := 1056) (k := 29) kcL_law_1056 rfl rfl
theorem ycL_law_1086 : Byt cL_law 1086 7 := byt_ck (lo := 1056) (k := 30) kcL_law_1056 rfl rfl
theorem dL_law_1084 : AtB cL_law 1084 (.ifCond .eq 7) 7 1087 1091 := ⟨(o153 7 ycL_law_1084 ycL_law_1085 ycL_law_1086 rfl), rfl, rfl⟩
theorem ycL_law_1087 : Byt cL_law 1087 4 := byt_ck (lo := 1056) (k := 31) kcL_law_1056 rfl rfl
theorem dL_law_1087 : At cL_law 1087 (.iconst 1) 1 1088 := ⟨(o4 ycL_law_1087), rfl⟩
theorem ycL_law_1088 : Byt cL_law 1088 167 := byt_ck (lo := 1056) (k := 32) kcL_law_1056 rfl rfl
theorem ycL_law_1089 : Byt cL_law 1089 0 := byt_ck (lo := 1056) (k := 33) kcL_law_1056 rfl rfl
theorem ycL_law_1090 : Byt cL_law 1090 4 := byt_ck (lo := 1056) (k := 34) kcL_law_1056 rfl rfl
theorem dL_law_1088 : AtB cL_law 1088 (.goto 4) 4 1091 1092 := ⟨(o167 4 ycL_law_1088 ycL_law_1089 ycL_law_1090 rfl), rfl, rfl⟩
theorem ycL_law_1091 : Byt cL_law 1091 3 := byt_ck (lo := 1056) (k := 35) kcL_law_1056 rfl rfl
theorem dL_law_1091 : At cL_law 1091 (.iconst 0) 1 1092 := ⟨(o3 ycL_law_1091), rfl⟩
theorem ycL_law_1092 : Byt cL_law 1092 182 := byt_ck (lo := 1056) (k := 36) kcL_law_1056 rfl rfl
theorem ycL_law_1093 : Byt cL_law 1093 0 := byt_ck (lo := 1056) (k := 37) kcL_law_1056 rfl rfl
theorem ycL_law_1094 : Byt cL_law 1094 130 := byt_ck (lo := 1056) (k := 38) kcL_law_1056 rfl rfl
theorem dL_law_1092 : At cL_law 1092 (.invokevirtual 130) 3 1095 := ⟨(o182 130 ycL_law_1092 ycL_law_1093 ycL_law_1094 rfl), rfl⟩
theorem ycL_law_1095 : Byt cL_law 1095 87 := byt_ck (lo := 1056) (k := 39) kcL_law_1056 rfl rfl
theorem dL_law_1095 : At cL_law 1095 .pop 1 1096 := ⟨(o87 ycL_law_1095), rfl⟩
theorem ycL_law_1096 : Byt cL_law 1096 167 := byt_ck (lo := 1056) (k := 40) kcL_law_1056 rfl rfl
theorem ycL_law_1097 : Byt cL_law 1097 2 := byt_ck (lo := 1056) (k := 41) kcL_law_1056 rfl rfl
theorem ycL_law_1098 : Byt cL_law 1098 83 := byt_ck (lo := 1056) (k := 42) kcL_law_1056 rfl rfl
theorem dL_law_1096 : AtB cL_law 1096 (.goto 595) 595 1099 1691 := ⟨(o167 595 ycL_law_1096 ycL_law_1097 ycL_law_1098 rfl), rfl, rfl⟩
theorem ycL_law_1099 : Byt cL_law 1099 43 := byt_ck (lo := 1056) (k := 43) kcL_law_1056 rfl rfl
theorem dL_law_1099 : At cL_law 1099 (.aload_n 1) 1 1100 := ⟨(o43 ycL_law_1099), rfl⟩
theorem ycL_law_1100 : Byt cL_law 1100 42 := byt_ck (lo := 1056) (k := 44) kcL_law_1056 rfl rfl
theorem dL_law_1100 : At cL_law 1100 (.aload_n 0) 1 1101 := ⟨(o42 ycL_law_1100), rfl⟩
theorem ycL_law_1101 : Byt cL_law 1101 29 := byt_ck (lo := 1056) (k := 45) kcL_law_1056 rfl rfl
theorem dL_law_1101 : At cL_law 1101 (.iload_n 3) 1 1102 := ⟨(o29 ycL_law_1101), rfl⟩
theorem ycL_law_1102 : Byt cL_law 1102 4 := byt_ck (lo := 1056) (k := 46) kcL_law_1056 rfl rfl
theorem dL_law_1102 : At cL_law 1102 (.iconst 1) 1 1103 := ⟨(o4 ycL_law_1102), rfl⟩
theorem ycL_law_1103 : Byt cL_law 1103 96 := byt_ck (lo := 1056) (k := 47) kcL_law_1056 rfl rfl
theorem dL_law_1103 : At cL_law 1103 .iadd 1 1104 := ⟨(o96 ycL_law_1103), rfl⟩
theorem ycL_law_1104 : Byt cL_law 1104 46 := byt_ck (lo := 1104) (k := 0) kcL_law_1104 rfl rfl
theorem dL_law_1104 : At cL_law 1104 .iaload 1 1105 := ⟨(o46 ycL_law_1104), rfl⟩
theorem ycL_law_1105 : Byt cL_law 1105 42 := byt_ck (lo := 1104) (k := 1) kcL_law_1104 rfl rfl
theorem dL_law_1105 : At cL_law 1105 (.aload_n 0) 1 1106 := ⟨(o42 ycL_law_1105), rfl⟩
theorem ycL_law_1106 : Byt cL_law 1106 29 := byt_ck (lo := 1104) (k := 2) kcL_law_1104 rfl rfl
theorem dL_law_1106 : At cL_law 1106 (.iload_n 3) 1 1107 := ⟨(o29 ycL_law_1106), rfl⟩
theorem ycL_law_1107 : Byt cL_law 1107 5 := byt_ck (lo := 1104) (k := 3) kcL_law_1104 rfl rfl
theorem dL_law_1107 : At cL_law 1107 (.iconst 2) 1 1108 := ⟨(o5 ycL_law_1107), rfl⟩
theorem ycL_law_1108 : Byt cL_law 1108 96 := byt_ck (lo := 1104) (k := 4) kcL_law_1104 rfl rfl
theorem dL_law_1108 : At cL_law 1108 .iadd 1 1109 := ⟨(o96 ycL_law_1108), rfl⟩
theorem ycL_law_1109 : Byt cL_law 1109 46 := byt_ck (lo := 1104) (k := 5) kcL_law_1104 rfl rfl
theorem dL_law_1109 : At cL_law 1109 .iaload 1 1110 := ⟨(o46 ycL_law_1109), rfl⟩
theorem ycL_law_1110 : Byt cL_law 1110 182 := byt_ck (lo := 1104) (k := 6) kcL_law_1104 rfl rfl
theorem ycL_law_1111 : Byt cL_law 1111 0 := byt_ck (lo := 1104) (k := 7) kcL_law_1104 rfl rfl
theorem ycL_law_1112 : Byt cL_law 1112 131 := byt_ck (lo := 1104) (k := 8) kcL_law_1104 rfl rfl
theorem dL_law_1110 : At cL_law 1110 (.invokevirtual 131) 3 1113 := ⟨(o182 131 ycL_law_1110 ycL_law_1111 ycL_law_1112 rfl), rfl⟩
theorem ycL_law_1113 : Byt cL_law 1113 87 := byt_ck (lo := 1104) (k := 9) kcL_law_1104 rfl rfl
theorem dL_law_1113 : At cL_law 1113 .pop 1 1114 := ⟨(o87 ycL_law_1113), rfl⟩
theorem ycL_law_1114 : Byt cL_law 1114 44 := byt_ck (lo := 1104) (k := 10) kcL_law_1104 rfl rfl
theorem dL_law_1114 : At cL_law 1114 (.aload_n 2) 1 1115 := ⟨(o44 ycL_law_1114), rfl⟩
theorem ycL_law_1115 : Byt cL_law 1115 42 := byt_ck (lo := 1104) (k := 11) kcL_law_1104 rfl rfl
theorem dL_law_1115 : At cL_law 1115 (.aload_n 0) 1 1116 := ⟨(o42 ycL_law_1115), rfl⟩
theorem ycL_law_1116 : Byt cL_law 1116 29 := byt_ck (lo := 1104) (k := 12) kcL_law_1104 rfl rfl
theorem dL_law_1116 : At cL_law 1116 (.iload_n 3) 1 1117 := ⟨(o29 ycL_law_1116), rfl⟩
theorem ycL_law_1117 : Byt cL_law 1117 4 := byt_ck (lo := 1104) (k := 13) kcL_law_1104 rfl rfl
theorem dL_law_1117 : At cL_law 1117 (.iconst 1) 1 1118 := ⟨(o4 ycL_law_1117), rfl⟩
theorem ycL_law_1118 : Byt cL_law 1118 96 := byt_ck (lo := 1104) (k := 14) kcL_law_1104 rfl rfl
theorem dL_law_1118 : At cL_law 1118 .iadd 1 1119 := ⟨(o96 ycL_law_1118), rfl⟩
theorem ycL_law_1119 : Byt cL_law 1119 46 := byt_ck (lo := 1104) (k := 15) kcL_law_1104 rfl rfl
theorem dL_law_1119 : At cL_law 1119 .iaload 1 1120 := ⟨(o46 ycL_law_1119), rfl⟩
theorem ycL_law_1120 : Byt cL_law 1120 42 := byt_ck (lo := 1104) (k := 16) kcL_law_1104 rfl rfl
theorem dL_law_1120 : At cL_law 1120 (.aload_n 0) 1 1121 := ⟨(o42 ycL_law_1120), rfl⟩
theorem ycL_law_1121 : Byt cL_law 1121 29 := byt_ck (lo := 1104) (k := 17) kcL_law_1104 rfl rfl
theorem dL_law_1121 : At cL_law 1121 (.iload_n 3) 1 1122 := ⟨(o29 ycL_law_1121), rfl⟩
theorem ycL_law_1122 : Byt cL_law 1122 5 := byt_ck (lo := 1104) (k := 18) kcL_law_1104 rfl rfl
theorem dL_law_1122 : At cL_law 1122 (.iconst 2) 1 1123 := ⟨(o5 ycL_law_1122), rfl⟩
theorem ycL_law_1123 : Byt cL_law 1123 96 := byt_ck (lo := 1104) (k := 19) kcL_law_1104 rfl rfl
theorem dL_law_1123 : At cL_law 1123 .iadd 1 1124 := ⟨(o96 ycL_law_1123), rfl⟩
theorem ycL_law_1124 : Byt cL_law 1124 46 := byt_ck (lo := 1104) (k := 20) kcL_law_1104 rfl rfl
theorem dL_law_1124 : At cL_law 1124 .iaload 1 1125 := ⟨(o46 ycL_law_1124), rfl⟩
theorem ycL_law_1125 : Byt cL_law 1125 182 := byt_ck (lo := 1104) (k := 21) kcL_law_1104 rfl rfl
theorem ycL_law_1126 : Byt cL_law 1126 0 := byt_ck (lo := 1104) (k := 22) kcL_law_1104 rfl rfl
theorem ycL_law_1127 : Byt cL_law 1127 134 := byt_ck (lo := 1104) (k := 23) kcL_law_1104 rfl rfl
theorem dL_law_1125 : At cL_law 1125 (.invokevirtual 134) 3 1128 := ⟨(o182 134 ycL_law_1125 ycL_law_1126 ycL_law_1127 rfl), rfl⟩
theorem ycL_law_1128 : Byt cL_law 1128 87 := byt_ck (lo := 1104) (k := 24) kcL_law_1104 rfl rfl
theorem dL_law_1128 : At cL_law 1128 .pop 1 1129 := ⟨(o87 ycL_law_1128), rfl⟩
theorem ycL_law_1129 : Byt cL_law 1129 167 := byt_ck (lo := 1104) (k := 25) kcL_law_1104 rfl rfl
theorem ycL_law_1130 : Byt cL_law 1130 2 := byt_ck (lo := 1104) (k := 26) kcL_law_1104 rfl rfl
theorem ycL_law_1131 : Byt cL_law 1131 50 := byt_ck (lo := 1104) (k := 27) kcL_law_1104 rfl rfl
theorem dL_law_1129 : AtB cL_law 1129 (.goto 562) 562 1132 1691 := ⟨(o167 562 ycL_law_1129 ycL_law_1130 ycL_law_1131 rfl), rfl, rfl⟩
theorem ycL_law_1132 : Byt cL_law 1132 43 := byt_ck (lo := 1104) (k := 28) kcL_law_1104 rfl rfl
theorem dL_law_1132 : At cL_law 1132 (.aload_n 1) 1 1133 := ⟨(o43 ycL_law_1132), rfl⟩
theorem ycL_law_1133 : Byt cL_law 1133 42 := byt_ck (lo := 1104) (k := 29) kcL_law_1104 rfl rfl
theorem dL_law_1133 : At cL_law 1133 (.aload_n 0) 1 1134 := ⟨(o42 ycL_law_1133), rfl⟩
theorem ycL_law_1134 : Byt cL_law 1134 29 := byt_ck (lo := 1104) (k := 30) kcL_law_1104 rfl rfl
theorem dL_law_1134 : At cL_law 1134 (.iload_n 3) 1 1135 := ⟨(o29 ycL_law_1134), rfl⟩
theorem ycL_law_1135 : Byt cL_law 1135 4 := byt_ck (lo := 1104) (k := 31) kcL_law_1104 rfl rfl
theorem dL_law_1135 : At cL_law 1135 (.iconst 1) 1 1136 := ⟨(o4 ycL_law_1135), rfl⟩
theorem ycL_law_1136 : Byt cL_law 1136 96 := byt_ck (lo := 1104) (k := 32) kcL_law_1104 rfl rfl
theorem dL_law_1136 : At cL_law 1136 .iadd 1 1137 := ⟨(o96 ycL_law_1136), rfl⟩
theorem ycL_law_1137 : Byt cL_law 1137 46 := byt_ck (lo := 1104) (k := 33) kcL_law_1104 rfl rfl
theorem dL_law_1137 : At cL_law 1137 .iaload 1 1138 := ⟨(o46 ycL_law_1137), rfl⟩
theorem ycL_law_1138 : Byt cL_law 1138 42 := byt_ck (lo := 1104) (k := 34) kcL_law_1104 rfl rfl
theorem dL_law_1138 : At cL_law 1138 (.aload_n 0) 1 1139 := ⟨(o42 ycL_law_1138), rfl⟩
theorem ycL_law_1139 : Byt cL_law 1139 29 := byt_ck (lo := 1104) (k := 35) kcL_law_1104 rfl rfl
theorem dL_law_1139 : At cL_law 1139 (.iload_n 3) 1 1140 := ⟨(o29 ycL_law_1139), rfl⟩
theorem ycL_law_1140 : Byt cL_law 1140 5 := byt_ck (lo := 1104) (k := 36) kcL_law_1104 rfl rfl
theorem dL_law_1140 : At cL_law 1140 (.iconst 2) 1 1141 := ⟨(o5 ycL_law_1140), rfl⟩
theorem ycL_law_1141 : Byt cL_law 1141 96 := byt_ck (lo := 1104) (k := 37) kcL_law_1104 rfl rfl
theorem dL_law_1141 : At cL_law 1141 .iadd 1 1142 := ⟨(o96 ycL_law_1141), rfl⟩
theorem ycL_law_1142 : Byt cL_law 1142 46 := byt_ck (lo := 1104) (k := 38) kcL_law_1104 rfl rfl
theorem dL_law_1142 : At cL_law 1142 .iaload 1 1143 := ⟨(o46 ycL_law_1142), rfl⟩
theorem ycL_law_1143 : Byt cL_law 1143 182 := byt_ck (lo := 1104) (k := 39) kcL_law_1104 rfl rfl
theorem ycL_law_1144 : Byt cL_law 1144 0 := byt_ck (lo := 1104) (k := 40) kcL_law_1104 rfl rfl
theorem ycL_law_1145 : Byt cL_law 1145 135 := byt_ck (lo := 1104) (k := 41) kcL_law_1104 rfl rfl
theorem dL_law_1143 : At cL_law 1143 (.invokevirtual 135) 3 1146 := ⟨(o182 135 ycL_law_1143 ycL_law_1144 ycL_law_1145 rfl), rfl⟩
theorem ycL_law_1146 : Byt cL_law 1146 88 := byt_ck (lo := 1104) (k := 42) kcL_law_1104 rfl rfl
theorem dL_law_1146 : At cL_law 1146 .pop2 1 1147 := ⟨(o88 ycL_law_1146), rfl⟩
theorem ycL_law_1147 : Byt cL_law 1147 44 := byt_ck (lo := 1104) (k := 43) kcL_law_1104 rfl rfl
theorem dL_law_1147 : At cL_law 1147 (.aload_n 2) 1 1148 := ⟨(o44 ycL_law_1147), rfl⟩
theorem ycL_law_1148 : Byt cL_law 1148 42 := byt_ck (lo := 1104) (k := 44) kcL_law_1104 rfl rfl
theorem dL_law_1148 : At cL_law 1148 (.aload_n 0) 1 1149 := ⟨(o42 ycL_law_1148), rfl⟩
theorem ycL_law_1149 : Byt cL_law 1149 29 := byt_ck (lo := 1104) (k := 45) kcL_law_1104 rfl rfl
theorem dL_law_1149 : At cL_law 1149 (.iload_n 3) 1 1150 := ⟨(o29 ycL_law_1149), rfl⟩
theorem ycL_law_1150 : Byt cL_law 1150 4 := byt_ck (lo := 1104) (k := 46) kcL_law_1104 rfl rfl
theorem dL_law_1150 : At cL_law 1150 (.iconst 1) 1 1151 := ⟨(o4 ycL_law_1150), rfl⟩
theorem ycL_law_1151 : Byt cL_law 1151 96 := byt_ck (lo := 1104) (k := 47) kcL_law_1104 rfl rfl
theorem dL_law_1151 : At cL_law 1151 .iadd 1 1152 := ⟨(o96 ycL_law_1151), rfl⟩
theorem ycL_law_1152 : Byt cL_law 1152 46 := byt_ck (lo := 1152) (k := 0) kcL_law_1152 rfl rfl
theorem dL_law_1152 : At cL_law 1152 .iaload 1 1153 := ⟨(o46 ycL_law_1152), rfl⟩
theorem ycL_law_1153 : Byt cL_law 1153 42 := byt_ck (lo := 1152) (k := 1) kcL_law_1152 rfl rfl
theorem dL_law_1153 : At cL_law 1153 (.aload_n 0) 1 1154 := ⟨(o42 ycL_law_1153), rfl⟩
theorem ycL_law_1154 : Byt cL_law 1154 29 := byt_ck (lo := 1152) (k := 2) kcL_law_1152 rfl rfl
theorem dL_law_1154 : At cL_law 1154 (.iload_n 3) 1 1155 := ⟨(o29 ycL_law_1154), rfl⟩
theorem ycL_law_1155 : Byt cL_law 1155 5 := byt_ck (lo := 1152) (k := 3) kcL_law_1152 rfl rfl
theorem dL_law_1155 : At cL_law 1155 (.iconst 2) 1 1156 := ⟨(o5 ycL_law_1155), rfl⟩
theorem ycL_law_1156 : Byt cL_law 1156 96 := byt_ck (lo := 1152) (k := 4) kcL_law_1152 rfl rfl
theorem dL_law_1156 : At cL_law 1156 .iadd 1 1157 := ⟨(o96 ycL_law_1156), rfl⟩
theorem ycL_law_1157 : Byt cL_law 1157 46 := byt_ck (lo := 1152) (k := 5) kcL_law_1152 rfl rfl
theorem dL_law_1157 : At cL_law 1157 .iaload 1 1158 := ⟨(o46 ycL_law_1157), rfl⟩
theorem ycL_law_1158 : Byt cL_law 1158 182 := byt_ck (lo := 1152) (k := 6) kcL_law_1152 rfl rfl
theorem ycL_law_1159 : Byt cL_law 1159 0 := byt_ck (lo := 1152) (k := 7) kcL_law_1152 rfl rfl
theorem ycL_law_1160 : Byt cL_law 1160 139 := byt_ck (lo := 1152) (k := 8) kcL_law_1152 rfl rfl
theorem dL_law_1158 : At cL_law 1158 (.invokevirtual 139) 3 1161 := ⟨(o182 139 ycL_law_1158 ycL_law_1159 ycL_law_1160 rfl), rfl⟩
theorem ycL_law_1161 : Byt cL_law 1161 88 := byt_ck (lo := 1152) (k := 9) kcL_law_1152 rfl rfl
theorem dL_law_1161 : At cL_law 1161 .pop2 1 1162 := ⟨(o88 ycL_law_1161), rfl⟩
theorem ycL_law_1162 : Byt cL_law 1162 167 := byt_ck (lo := 1152) (k := 10) kcL_law_1152 rfl rfl
theorem ycL_law_1163 : Byt cL_law 1163 2 := byt_ck (lo := 1152) (k := 11) kcL_law_1152 rfl rfl
theorem ycL_law_1164 : Byt cL_law 1164 17 := byt_ck (lo := 1152) (k := 12) kcL_law_1152 rfl rfl
theorem dL_law_1162 : AtB cL_law 1162 (.goto 529) 529 1165 1691 := ⟨(o167 529 ycL_law_1162 ycL_law_1163 ycL_law_1164 rfl), rfl, rfl⟩
theorem ycL_law_1165 : Byt cL_law 1165 43 := byt_ck (lo := 1152) (k := 13) kcL_law_1152 rfl rfl
theorem dL_law_1165 : At cL_law 1165 (.aload_n 1) 1 1166 := ⟨(o43 ycL_law_1165), rfl⟩
theorem ycL_law_1166 : Byt cL_law 1166 42 := byt_ck (lo := 1152) (k := 14) kcL_law_1152 rfl rfl
theorem dL_law_1166 : At cL_law 1166 (.aload_n 0) 1 1167 := ⟨(o42 ycL_law_1166), rfl⟩
theorem ycL_law_1167 : Byt cL_law 1167 29 := byt_ck (lo := 1152) (k := 15) kcL_law_1152 rfl rfl
theorem dL_law_1167 : At cL_law 1167 (.iload_n 3) 1 1168 := ⟨(o29 ycL_law_1167), rfl⟩
theorem ycL_law_1168 : Byt cL_law 1168 4 := byt_ck (lo := 1152) (k := 16) kcL_law_1152 rfl rfl
theorem dL_law_1168 : At cL_law 1168 (.iconst 1) 1 1169 := ⟨(o4 ycL_law_1168), rfl⟩
theorem ycL_law_1169 : Byt cL_law 1169 96 := byt_ck (lo := 1152) (k := 17) kcL_law_1152 rfl rfl
theorem dL_law_1169 : At cL_law 1169 .iadd 1 1170 := ⟨(o96 ycL_law_1169), rfl⟩
theorem ycL_law_1170 : Byt cL_law 1170 46 := byt_ck (lo := 1152) (k := 18) kcL_law_1152 rfl rfl
theorem dL_law_1170 : At cL_law 1170 .iaload 1 1171 := ⟨(o46 ycL_law_1170), rfl⟩
theorem ycL_law_1171 : Byt cL_law 1171 182 := byt_ck (lo := 1152) (k := 19) kcL_law_1152 rfl rfl
theorem ycL_law_1172 : Byt cL_law 1172 0 := byt_ck (lo := 1152) (k := 20) kcL_law_1152 rfl rfl
theorem ycL_law_1173 : Byt cL_law 1173 140 := byt_ck (lo := 1152) (k := 21) kcL_law_1152 rfl rfl
theorem dL_law_1171 : At cL_law 1171 (.invokevirtual 140) 3 1174 := ⟨(o182 140 ycL_law_1171 ycL_law_1172 ycL_law_1173 rfl), rfl⟩
theorem ycL_law_1174 : Byt cL_law 1174 87 := byt_ck (lo := 1152) (k := 22) kcL_law_1152 rfl rfl
theorem dL_law_1174 : At cL_law 1174 .pop 1 1175 := ⟨(o87 ycL_law_1174), rfl⟩
theorem ycL_law_1175 : Byt cL_law 1175 44 := byt_ck (lo := 1152) (k := 23) kcL_law_1152 rfl rfl
theorem dL_law_1175 : At cL_law 1175 (.aload_n 2) 1 1176 := ⟨(o44 ycL_law_1175), rfl⟩
theorem ycL_law_1176 : Byt cL_law 1176 42 := byt_ck (lo := 1152) (k := 24) kcL_law_1152 rfl rfl
theorem dL_law_1176 : At cL_law 1176 (.aload_n 0) 1 1177 := ⟨(o42 ycL_law_1176), rfl⟩
theorem ycL_law_1177 : Byt cL_law 1177 29 := byt_ck (lo := 1152) (k := 25) kcL_law_1152 rfl rfl
theorem dL_law_1177 : At cL_law 1177 (.iload_n 3) 1 1178 := ⟨(o29 ycL_law_1177), rfl⟩
theorem ycL_law_1178 : Byt cL_law 1178 4 := byt_ck (lo := 1152) (k := 26) kcL_law_1152 rfl rfl
theorem dL_law_1178 : At cL_law 1178 (.iconst 1) 1 1179 := ⟨(o4 ycL_law_1178), rfl⟩
theorem ycL_law_1179 : Byt cL_law 1179 96 := byt_ck (lo := 1152) (k := 27) kcL_law_1152 rfl rfl
theorem dL_law_1179 : At cL_law 1179 .iadd 1 1180 := ⟨(o96 ycL_law_1179), rfl⟩
theorem ycL_law_1180 : Byt cL_law 1180 46 := byt_ck (lo := 1152) (k := 28) kcL_law_1152 rfl rfl
theorem dL_law_1180 : At cL_law 1180 .iaload 1 1181 := ⟨(o46 ycL_law_1180), rfl⟩
theorem ycL_law_1181 : Byt cL_law 1181 182 := byt_ck (lo := 1152) (k := 29) kcL_law_1152 rfl rfl
theorem ycL_law_1182 : Byt cL_law 1182 0 := byt_ck (lo := 1152) (k := 30) kcL_law_1152 rfl rfl
theorem ycL_law_1183 : Byt cL_law 1183 143 := byt_ck (lo := 1152) (k := 31) kcL_law_1152 rfl rfl
theorem dL_law_1181 : At cL_law 1181 (.invokevirtual 143) 3 1184 := ⟨(o182 143 ycL_law_1181 ycL_law_1182 ycL_law_1183 rfl), rfl⟩
theorem ycL_law_1184 : Byt cL_law 1184 87 := byt_ck (lo := 1152) (k := 32) kcL_law_1152 rfl rfl
theorem dL_law_1184 : At cL_law 1184 .pop 1 1185 := ⟨(o87 ycL_law_1184), rfl⟩
theorem ycL_law_1185 : Byt cL_law 1185 167 := byt_ck (lo := 1152) (k := 33) kcL_law_1152 rfl rfl
theorem ycL_law_1186 : Byt cL_law 1186 1 := byt_ck (lo := 1152) (k := 34) kcL_law_1152 rfl rfl
theorem ycL_law_1187 : Byt cL_law 1187 250 := byt_ck (lo := 1152) (k := 35) kcL_law_1152 rfl rfl
theorem dL_law_1185 : AtB cL_law 1185 (.goto 506) 506 1188 1691 := ⟨(o167 506 ycL_law_1185 ycL_law_1186 ycL_law_1187 rfl), rfl, rfl⟩
theorem ycL_law_1188 : Byt cL_law 1188 43 := byt_ck (lo := 1152) (k := 36) kcL_law_1152 rfl rfl
theorem dL_law_1188 : At cL_law 1188 (.aload_n 1) 1 1189 := ⟨(o43 ycL_law_1188), rfl⟩
theorem ycL_law_1189 : Byt cL_law 1189 42 := byt_ck (lo := 1152) (k := 37) kcL_law_1152 rfl rfl
theorem dL_law_1189 : At cL_law 1189 (.aload_n 0) 1 1190 := ⟨(o42 ycL_law_1189), rfl⟩
theorem ycL_law_1190 : Byt cL_law 1190 29 := byt_ck (lo := 1152) (k := 38) kcL_law_1152 rfl rfl
theorem dL_law_1190 : At cL_law 1190 (.iload_n 3) 1 1191 := ⟨(o29 ycL_law_1190), rfl⟩
theorem ycL_law_1191 : Byt cL_law 1191 4 := byt_ck (lo := 1152) (k := 39) kcL_law_1152 rfl rfl
theorem dL_law_1191 : At cL_law 1191 (.iconst 1) 1 1192 := ⟨(o4 ycL_law_1191), rfl⟩
theorem ycL_law_1192 : Byt cL_law 1192 96 := byt_ck (lo := 1152) (k := 40) kcL_law_1152 rfl rfl
theorem dL_law_1192 : At cL_law 1192 .iadd 1 1193 := ⟨(o96 ycL_law_1192), rfl⟩
theorem ycL_law_1193 : Byt cL_law 1193 46 := byt_ck (lo := 1152) (k := 41) kcL_law_1152 rfl rfl
theorem dL_law_1193 : At cL_law 1193 .iaload 1 1194 := ⟨(o46 ycL_law_1193), rfl⟩
theorem ycL_law_1194 : Byt cL_law 1194 42 := byt_ck (lo := 1152) (k := 42) kcL_law_1152 rfl rfl
theorem dL_law_1194 : At cL_law 1194 (.aload_n 0) 1 1195 := ⟨(o42 ycL_law_1194), rfl⟩
theorem ycL_law_1195 : Byt cL_law 1195 29 := byt_ck (lo := 1152) (k := 43) kcL_law_1152 rfl rfl
theorem dL_law_1195 : At cL_law 1195 (.iload_n 3) 1 1196 := ⟨(o29 ycL_law_1195), rfl⟩
theorem ycL_law_1196 : Byt cL_law 1196 5 := byt_ck (lo := 1152) (k := 44) kcL_law_1152 rfl rfl
theorem dL_law_1196 : At cL_law 1196 (.iconst 2) 1 1197 := ⟨(o5 ycL_law_1196), rfl⟩
theorem ycL_law_1197 : Byt cL_law 1197 96 := byt_ck (lo := 1152) (k := 45) kcL_law_1152 rfl rfl
theorem dL_law_1197 : At cL_law 1197 .iadd 1 1198 := ⟨(o96 ycL_law_1197), rfl⟩
theorem ycL_law_1198 : Byt cL_law 1198 46 := byt_ck (lo := 1152) (k := 46) kcL_law_1152 rfl rfl
theorem dL_law_1198 : At cL_law 1198 .iaload 1 1199 := ⟨(o46 ycL_law_1198), rfl⟩
theorem ycL_law_1199 : Byt cL_law 1199 42 := byt_ck (lo := 1152) (k := 47) kcL_law_1152 rfl rfl
theorem dL_law_1199 : At cL_law 1199 (.aload_n 0) 1 1200 := ⟨(o42 ycL_law_1199), rfl⟩
theorem ycL_law_1200 : Byt cL_law 1200 29 := byt_ck (lo := 1200) (k := 0) kcL_law_1200 rfl rfl
theorem dL_law_1200 : At cL_law 1200 (.iload_n 3) 1 1201 := ⟨(o29 ycL_law_1200), rfl⟩
theorem ycL_law_1201 : Byt cL_law 1201 6 := byt_ck (lo := 1200) (k := 1) kcL_law_1200 rfl rfl
theorem dL_law_1201 : At cL_law 1201 (.iconst 3) 1 1202 := ⟨(o6 ycL_law_1201), rfl⟩
theorem ycL_law_1202 : Byt cL_law 1202 96 := byt_ck (lo := 1200) (k := 2) kcL_law_1200 rfl rfl
theorem dL_law_1202 : At cL_law 1202 .iadd 1 1203 := ⟨(o96 ycL_law_1202), rfl⟩
theorem ycL_law_1203 : Byt cL_law 1203 46 := byt_ck (lo := 1200) (k := 3) kcL_law_1200 rfl rfl
theorem dL_law_1203 : At cL_law 1203 .iaload 1 1204 := ⟨(o46 ycL_law_1203), rfl⟩
theorem ycL_law_1204 : Byt cL_law 1204 153 := byt_ck (lo := 1200) (k := 4) kcL_law_1200 rfl rfl
theorem ycL_law_1205 : Byt cL_law 1205 0 := byt_ck (lo := 1200) (k := 5) kcL_law_1200 rfl rfl
theorem ycL_law_1206 : Byt cL_law 1206 7 := byt_ck (lo := 1200) (k := 6) kcL_law_1200 rfl rfl
theorem dL_law_1204 : AtB cL_law 1204 (.ifCond .eq 7) 7 1207 1211 := ⟨(o153 7 ycL_law_1204 ycL_law_1205 ycL_law_1206 rfl), rfl, rfl⟩
theorem ycL_law_1207 : Byt cL_law 1207 4 := byt_ck (lo := 1200) (k := 7) kcL_law_1200 rfl rfl
theorem dL_law_1207 : At cL_law 1207 (.iconst 1) 1 1208 := ⟨(o4 ycL_law_1207), rfl⟩
theorem ycL_law_1208 : Byt cL_law 1208 167 := byt_ck (lo := 1200) (k := 8) kcL_law_1200 rfl rfl
theorem ycL_law_1209 : Byt cL_law 1209 0 := byt_ck (lo := 1200) (k := 9) kcL_law_1200 rfl rfl
theorem ycL_law_1210 : Byt cL_law 1210 4 := byt_ck (lo := 1200) (k := 10) kcL_law_1200 rfl rfl
theorem dL_law_1208 : AtB cL_law 1208 (.goto 4) 4 1211 1212 := ⟨(o167 4 ycL_law_1208 ycL_law_1209 ycL_law_1210 rfl), rfl, rfl⟩
theorem ycL_law_1211 : Byt cL_law 1211 3 := byt_ck (lo := 1200) (k := 11) kcL_law_1200 rfl rfl
theorem dL_law_1211 : At cL_law 1211 (.iconst 0) 1 1212 := ⟨(o3 ycL_law_1211), rfl⟩
theorem ycL_law_1212 : Byt cL_law 1212 182 := byt_ck (lo := 1200) (k := 12) kcL_law_1200 rfl rfl
theorem ycL_law_1213 : Byt cL_law 1213 0 := byt_ck (lo := 1200) (k := 13) kcL_law_1200 rfl rfl
theorem ycL_law_1214 : Byt cL_law 1214 144 := byt_ck (lo := 1200) (k := 14) kcL_law_1200 rfl rfl
theorem dL_law_1212 : At cL_law 1212 (.invokevirtual 144) 3 1215 := ⟨(o182 144 ycL_law_1212 ycL_law_1213 ycL_law_1214 rfl), rfl⟩
theorem ycL_law_1215 : Byt cL_law 1215 87 := byt_ck (lo := 1200) (k := 15) kcL_law_1200 rfl rfl
theorem dL_law_1215 : At cL_law 1215 .pop 1 1216 := ⟨(o87 ycL_law_1215), rfl⟩
theorem ycL_law_1216 : Byt cL_law 1216 44 := byt_ck (lo := 1200) (k := 16) kcL_law_1200 rfl rfl
theorem dL_law_1216 : At cL_law 1216 (.aload_n 2) 1 1217 := ⟨(o44 ycL_law_1216), rfl⟩
theorem ycL_law_1217 : Byt cL_law 1217 42 := byt_ck (lo := 1200) (k := 17) kcL_law_1200 rfl rfl
theorem dL_law_1217 : At cL_law 1217 (.aload_n 0) 1 1218 := ⟨(o42 ycL_law_1217), rfl⟩
theorem ycL_law_1218 : Byt cL_law 1218 29 := byt_ck (lo := 1200) (k := 18) kcL_law_1200 rfl rfl
theorem dL_law_1218 : At cL_law 1218 (.iload_n 3) 1 1219 := ⟨(o29 ycL_law_1218), rfl⟩
theorem ycL_law_1219 : Byt cL_law 1219 4 := byt_ck (lo := 1200) (k := 19) kcL_law_1200 rfl rfl
theorem dL_law_1219 : At cL_law 1219 (.iconst 1) 1 1220 := ⟨(o4 ycL_law_1219), rfl⟩
theorem ycL_law_1220 : Byt cL_law 1220 96 := byt_ck (lo := 1200) (k := 20) kcL_law_1200 rfl rfl
theorem dL_law_1220 : At cL_law 1220 .iadd 1 1221 := ⟨(o96 ycL_law_1220), rfl⟩
theorem ycL_law_1221 : Byt cL_law 1221 46 := byt_ck (lo := 1200) (k := 21) kcL_law_1200 rfl rfl
theorem dL_law_1221 : At cL_law 1221 .iaload 1 1222 := ⟨(o46 ycL_law_1221), rfl⟩
theorem ycL_law_1222 : Byt cL_law 1222 42 := byt_ck (lo := 1200) (k := 22) kcL_law_1200 rfl rfl
theorem dL_law_1222 : At cL_law 1222 (.aload_n 0) 1 1223 := ⟨(o42 ycL_law_1222), rfl⟩
theorem ycL_law_1223 : Byt cL_law 1223 29 := byt_ck (lo := 1200) (k := 23) kcL_law_1200 rfl rfl
theorem dL_law_1223 : At cL_law 1223 (.iload_n 3) 1 1224 := ⟨(o29 ycL_law_1223), rfl⟩
theorem ycL_law_1224 : Byt cL_law 1224 5 := byt_ck (lo := 1200) (k := 24) kcL_law_1200 rfl rfl
theorem dL_law_1224 : At cL_law 1224 (.iconst 2) 1 1225 := ⟨(o5 ycL_law_1224), rfl⟩
theorem ycL_law_1225 : Byt cL_law 1225 96 := byt_ck (lo := 1200) (k := 25) kcL_law_1200 rfl rfl
theorem dL_law_1225 : At cL_law 1225 .iadd 1 1226 := ⟨(o96 ycL_law_1225), rfl⟩
theorem ycL_law_1226 : Byt cL_law 1226 46 := byt_ck (lo := 1200) (k := 26) kcL_law_1200 rfl rfl
theorem dL_law_1226 : At cL_law 1226 .iaload 1 1227 := ⟨(o46 ycL_law_1226), rfl⟩
theorem ycL_law_1227 : Byt cL_law 1227 42 := byt_ck (lo := 1200) (k := 27) kcL_law_1200 rfl rfl
theorem dL_law_1227 : At cL_law 1227 (.aload_n 0) 1 1228 := ⟨(o42 ycL_law_1227), rfl⟩
theorem ycL_law_1228 : Byt cL_law 1228 29 := byt_ck (lo := 1200) (k := 28) kcL_law_1200 rfl rfl
theorem dL_law_1228 : At cL_law 1228 (.iload_n 3) 1 1229 := ⟨(o29 ycL_law_1228), rfl⟩
theorem ycL_law_1229 : Byt cL_law 1229 6 := byt_ck (lo := 1200) (k := 29) kcL_law_1200 rfl rfl
theorem dL_law_1229 : At cL_law 1229 (.iconst 3) 1 1230 := ⟨(o6 ycL_law_1229), rfl⟩
theorem ycL_law_1230 : Byt cL_law 1230 96 := byt_ck (lo := 1200) (k := 30) kcL_law_1200 rfl rfl
theorem dL_law_1230 : At cL_law 1230 .iadd 1 1231 := ⟨(o96 ycL_law_1230), rfl⟩
theorem ycL_law_1231 : Byt cL_law 1231 46 := byt_ck (lo := 1200) (k := 31) kcL_law_1200 rfl rfl
theorem dL_law_1231 : At cL_law 1231 .iaload 1 1232 := ⟨(o46 ycL_law_1231), rfl⟩
theorem ycL_law_1232 : Byt cL_law 1232 153 := byt_ck (lo := 1200) (k := 32) kcL_law_1200 rfl rfl
theorem ycL_law_1233 : Byt cL_law 1233 0 := byt_ck (lo := 1200) (k := 33) kcL_law_1200 rfl rfl
theorem ycL_law_1234 : Byt cL_law 1234 7 := byt_ck (lo := 1200) (k := 34) kcL_law_1200 rfl rfl
theorem dL_law_1232 : AtB cL_law 1232 (.ifCond .eq 7) 7 1235 1239 := ⟨(o153 7 ycL_law_1232 ycL_law_1233 ycL_law_1234 rfl), rfl, rfl⟩
theorem ycL_law_1235 : Byt cL_law 1235 4 := byt_ck (lo := 1200) (k := 35) kcL_law_1200 rfl rfl
theorem dL_law_1235 : At cL_law 1235 (.iconst 1) 1 1236 := ⟨(o4 ycL_law_1235), rfl⟩
theorem ycL_law_1236 : Byt cL_law 1236 167 := byt_ck (lo := 1200) (k := 36) kcL_law_1200 rfl rfl
theorem ycL_law_1237 : Byt cL_law 1237 0 := byt_ck (lo := 1200) (k := 37) kcL_law_1200 rfl rfl
theorem ycL_law_1238 : Byt cL_law 1238 4 := byt_ck (lo := 1200) (k := 38) kcL_law_1200 rfl rfl
theorem dL_law_1236 : AtB cL_law 1236 (.goto 4) 4 1239 1240 := ⟨(o167 4 ycL_law_1236 ycL_law_1237 ycL_law_1238 rfl), rfl, rfl⟩
theorem ycL_law_1239 : Byt cL_law 1239 3 := byt_ck (lo := 1200) (k := 39) kcL_law_1200 rfl rfl
theorem dL_law_1239 : At cL_law 1239 (.iconst 0) 1 1240 := ⟨(o3 ycL_law_1239), rfl⟩
theorem ycL_law_1240 : Byt cL_law 1240 182 := byt_ck (lo := 1200) (k := 40) kcL_law_1200 rfl rfl
theorem ycL_law_1241 : Byt cL_law 1241 0 := byt_ck (lo := 1200) (k := 41) kcL_law_1200 rfl rfl
theorem ycL_law_1242 : Byt cL_law 1242 148 := byt_ck (lo := 1200) (k := 42) kcL_law_1200 rfl rfl
theorem dL_law_1240 : At cL_law 1240 (.invokevirtual 148) 3 1243 := ⟨(o182 148 ycL_law_1240 ycL_law_1241 ycL_law_1242 rfl), rfl⟩
theorem ycL_law_1243 : Byt cL_law 1243 87 := byt_ck (lo := 1200) (k := 43) kcL_law_1200 rfl rfl
theorem dL_law_1243 : At cL_law 1243 .pop 1 1244 := ⟨(o87 ycL_law_1243), rfl⟩
theorem ycL_law_1244 : Byt cL_law 1244 167 := byt_ck (lo := 1200) (k := 44) kcL_law_1200 rfl rfl
theorem ycL_law_1245 : Byt cL_law 1245 1 := byt_ck (lo := 1200) (k := 45) kcL_law_1200 rfl rfl
theorem ycL_law_1246 : Byt cL_law 1246 191 := byt_ck (lo := 1200) (k := 46) kcL_law_1200 rfl rfl
theorem dL_law_1244 : AtB cL_law 1244 (.goto 447) 447 1247 1691 := ⟨(o167 447 ycL_law_1244 ycL_law_1245 ycL_law_1246 rfl), rfl, rfl⟩
theorem ycL_law_1247 : Byt cL_law 1247 43 := byt_ck (lo := 1200) (k := 47) kcL_law_1200 rfl rfl
theorem dL_law_1247 : At cL_law 1247 (.aload_n 1) 1 1248 := ⟨(o43 ycL_law_1247), rfl⟩
theorem ycL_law_1248 : Byt cL_law 1248 42 := byt_ck (lo := 1248) (k := 0) kcL_law_1248 rfl rfl
theorem dL_law_1248 : At cL_law 1248 (.aload_n 0) 1 1249 := ⟨(o42 ycL_law_1248), rfl⟩
theorem ycL_law_1249 : Byt cL_law 1249 29 := byt_ck (lo := 1248) (k := 1) kcL_law_1248 rfl rfl
theorem dL_law_1249 : At cL_law 1249 (.iload_n 3) 1 1250 := ⟨(o29 ycL_law_1249), rfl⟩
theorem ycL_law_1250 : Byt cL_law 1250 4 := byt_ck (lo := 1248) (k := 2) kcL_law_1248 rfl rfl
theorem dL_law_1250 : At cL_law 1250 (.iconst 1) 1 1251 := ⟨(o4 ycL_law_1250), rfl⟩
theorem ycL_law_1251 : Byt cL_law 1251 96 := byt_ck (lo := 1248) (k := 3) kcL_law_1248 rfl rfl
theorem dL_law_1251 : At cL_law 1251 .iadd 1 1252 := ⟨(o96 ycL_law_1251), rfl⟩
theorem ycL_law_1252 : Byt cL_law 1252 46 := byt_ck (lo := 1248) (k := 4) kcL_law_1248 rfl rfl
theorem dL_law_1252 : At cL_law 1252 .iaload 1 1253 := ⟨(o46 ycL_law_1252), rfl⟩
theorem ycL_law_1253 : Byt cL_law 1253 42 := byt_ck (lo := 1248) (k := 5) kcL_law_1248 rfl rfl
theorem dL_law_1253 : At cL_law 1253 (.aload_n 0) 1 1254 := ⟨(o42 ycL_law_1253), rfl⟩
theorem ycL_law_1254 : Byt cL_law 1254 29 := byt_ck (lo := 1248) (k := 6) kcL_law_1248 rfl rfl
theorem dL_law_1254 : At cL_law 1254 (.iload_n 3) 1 1255 := ⟨(o29 ycL_law_1254), rfl⟩
theorem ycL_law_1255 : Byt cL_law 1255 5 := byt_ck (lo := 1248) (k := 7) kcL_law_1248 rfl rfl
theorem dL_law_1255 : At cL_law 1255 (.iconst 2) 1 1256 := ⟨(o5 ycL_law_1255), rfl⟩
theorem ycL_law_1256 : Byt cL_law 1256 96 := byt_ck (lo := 1248) (k := 8) kcL_law_1248 rfl rfl
theorem dL_law_1256 : At cL_law 1256 .iadd 1 1257 := ⟨(o96 ycL_law_1256), rfl⟩
theorem ycL_law_1257 : Byt cL_law 1257 46 := byt_ck (lo := 1248) (k := 9) kcL_law_1248 rfl rfl
theorem dL_law_1257 : At cL_law 1257 .iaload 1 1258 := ⟨(o46 ycL_law_1257), rfl⟩
theorem ycL_law_1258 : Byt cL_law 1258 182 := byt_ck (lo := 1248) (k := 10) kcL_law_1248 rfl rfl
theorem ycL_law_1259 : Byt cL_law 1259 0 := byt_ck (lo := 1248) (k := 11) kcL_law_1248 rfl rfl
theorem ycL_law_1260 : Byt cL_law 1260 149 := byt_ck (lo := 1248) (k := 12) kcL_law_1248 rfl rfl
theorem dL_law_1258 : At cL_law 1258 (.invokevirtual 149) 3 1261 := ⟨(o182 149 ycL_law_1258 ycL_law_1259 ycL_law_1260 rfl), rfl⟩
theorem ycL_law_1261 : Byt cL_law 1261 87 := byt_ck (lo := 1248) (k := 13) kcL_law_1248 rfl rfl
theorem dL_law_1261 : At cL_law 1261 .pop 1 1262 := ⟨(o87 ycL_law_1261), rfl⟩
theorem ycL_law_1262 : Byt cL_law 1262 44 := byt_ck (lo := 1248) (k := 14) kcL_law_1248 rfl rfl
theorem dL_law_1262 : At cL_law 1262 (.aload_n 2) 1 1263 := ⟨(o44 ycL_law_1262), rfl⟩
theorem ycL_law_1263 : Byt cL_law 1263 42 := byt_ck (lo := 1248) (k := 15) kcL_law_1248 rfl rfl
theorem dL_law_1263 : At cL_law 1263 (.aload_n 0) 1 1264 := ⟨(o42 ycL_law_1263), rfl⟩
theorem ycL_law_1264 : Byt cL_law 1264 29 := byt_ck (lo := 1248) (k := 16) kcL_law_1248 rfl rfl
theorem dL_law_1264 : At cL_law 1264 (.iload_n 3) 1 1265 := ⟨(o29 ycL_law_1264), rfl⟩
theorem ycL_law_1265 : Byt cL_law 1265 4 := byt_ck (lo := 1248) (k := 17) kcL_law_1248 rfl rfl
theorem dL_law_1265 : At cL_law 1265 (.iconst 1) 1 1266 := ⟨(o4 ycL_law_1265), rfl⟩
theorem ycL_law_1266 : Byt cL_law 1266 96 := byt_ck (lo := 1248) (k := 18) kcL_law_1248 rfl rfl
theorem dL_law_1266 : At cL_law 1266 .iadd 1 1267 := ⟨(o96 ycL_law_1266), rfl⟩
theorem ycL_law_1267 : Byt cL_law 1267 46 := byt_ck (lo := 1248) (k := 19) kcL_law_1248 rfl rfl
theorem dL_law_1267 : At cL_law 1267 .iaload 1 1268 := ⟨(o46 ycL_law_1267), rfl⟩
theorem ycL_law_1268 : Byt cL_law 1268 42 := byt_ck (lo := 1248) (k := 20) kcL_law_1248 rfl rfl
theorem dL_law_1268 : At cL_law 1268 (.aload_n 0) 1 1269 := ⟨(o42 ycL_law_1268), rfl⟩
theorem ycL_law_1269 : Byt cL_law 1269 29 := byt_ck (lo := 1248) (k := 21) kcL_law_1248 rfl rfl
theorem dL_law_1269 : At cL_law 1269 (.iload_n 3) 1 1270 := ⟨(o29 ycL_law_1269), rfl⟩
theorem ycL_law_1270 : Byt cL_law 1270 5 := byt_ck (lo := 1248) (k := 22) kcL_law_1248 rfl rfl
theorem dL_law_1270 : At cL_law 1270 (.iconst 2) 1 1271 := ⟨(o5 ycL_law_1270), rfl⟩
theorem ycL_law_1271 : Byt cL_law 1271 96 := byt_ck (lo := 1248) (k := 23) kcL_law_1248 rfl rfl
theorem dL_law_1271 : At cL_law 1271 .iadd 1 1272 := ⟨(o96 ycL_law_1271), rfl⟩
theorem ycL_law_1272 : Byt cL_law 1272 46 := byt_ck (lo := 1248) (k := 24) kcL_law_1248 rfl rfl
theorem dL_law_1272 : At cL_law 1272 .iaload 1 1273 := ⟨(o46 ycL_law_1272), rfl⟩
theorem ycL_law_1273 : Byt cL_law 1273 182 := byt_ck (lo := 1248) (k := 25) kcL_law_1248 rfl rfl
theorem ycL_law_1274 : Byt cL_law 1274 0 := byt_ck (lo := 1248) (k := 26) kcL_law_1248 rfl rfl
theorem ycL_law_1275 : Byt cL_law 1275 152 := byt_ck (lo := 1248) (k := 27) kcL_law_1248 rfl rfl
theorem dL_law_1273 : At cL_law 1273 (.invokevirtual 152) 3 1276 := ⟨(o182 152 ycL_law_1273 ycL_law_1274 ycL_law_1275 rfl), rfl⟩
theorem ycL_law_1276 : Byt cL_law 1276 87 := byt_ck (lo := 1248) (k := 28) kcL_law_1248 rfl rfl
theorem dL_law_1276 : At cL_law 1276 .pop 1 1277 := ⟨(o87 ycL_law_1276), rfl⟩
theorem ycL_law_1277 : Byt cL_law 1277 167 := byt_ck (lo := 1248) (k := 29) kcL_law_1248 rfl rfl
theorem ycL_law_1278 : Byt cL_law 1278 1 := byt_ck (lo := 1248) (k := 30) kcL_law_1248 rfl rfl
theorem ycL_law_1279 : Byt cL_law 1279 158 := byt_ck (lo := 1248) (k := 31) kcL_law_1248 rfl rfl
theorem dL_law_1277 : AtB cL_law 1277 (.goto 414) 414 1280 1691 := ⟨(o167 414 ycL_law_1277 ycL_law_1278 ycL_law_1279 rfl), rfl, rfl⟩
theorem ycL_law_1280 : Byt cL_law 1280 43 := byt_ck (lo := 1248) (k := 32) kcL_law_1248 rfl rfl
theorem dL_law_1280 : At cL_law 1280 (.aload_n 1) 1 1281 := ⟨(o43 ycL_law_1280), rfl⟩
theorem ycL_law_1281 : Byt cL_law 1281 42 := byt_ck (lo := 1248) (k := 33) kcL_law_1248 rfl rfl
theorem dL_law_1281 : At cL_law 1281 (.aload_n 0) 1 1282 := ⟨(o42 ycL_law_1281), rfl⟩
theorem ycL_law_1282 : Byt cL_law 1282 29 := byt_ck (lo := 1248) (k := 34) kcL_law_1248 rfl rfl
theorem dL_law_1282 : At cL_law 1282 (.iload_n 3) 1 1283 := ⟨(o29 ycL_law_1282), rfl⟩
theorem ycL_law_1283 : Byt cL_law 1283 4 := byt_ck (lo := 1248) (k := 35) kcL_law_1248 rfl rfl
theorem dL_law_1283 : At cL_law 1283 (.iconst 1) 1 1284 := ⟨(o4 ycL_law_1283), rfl⟩
theorem ycL_law_1284 : Byt cL_law 1284 96 := byt_ck (lo := 1248) (k := 36) kcL_law_1248 rfl rfl
theorem dL_law_1284 : At cL_law 1284 .iadd 1 1285 := ⟨(o96 ycL_law_1284), rfl⟩
theorem ycL_law_1285 : Byt cL_law 1285 46 := byt_ck (lo := 1248) (k := 37) kcL_law_1248 rfl rfl
theorem dL_law_1285 : At cL_law 1285 .iaload 1 1286 := ⟨(o46 ycL_law_1285), rfl⟩
theorem ycL_law_1286 : Byt cL_law 1286 42 := byt_ck (lo := 1248) (k := 38) kcL_law_1248 rfl rfl
theorem dL_law_1286 : At cL_law 1286 (.aload_n 0) 1 1287 := ⟨(o42 ycL_law_1286), rfl⟩
theorem ycL_law_1287 : Byt cL_law 1287 29 := byt_ck (lo := 1248) (k := 39) kcL_law_1248 rfl rfl
theorem dL_law_1287 : At cL_law 1287 (.iload_n 3) 1 1288 := ⟨(o29 ycL_law_1287), rfl⟩
theorem ycL_law_1288 : Byt cL_law 1288 5 := byt_ck (lo := 1248) (k := 40) kcL_law_1248 rfl rfl
theorem dL_law_1288 : At cL_law 1288 (.iconst 2) 1 1289 := ⟨(o5 ycL_law_1288), rfl⟩
theorem ycL_law_1289 : Byt cL_law 1289 96 := byt_ck (lo := 1248) (k := 41) kcL_law_1248 rfl rfl
theorem dL_law_1289 : At cL_law 1289 .iadd 1 1290 := ⟨(o96 ycL_law_1289), rfl⟩
theorem ycL_law_1290 : Byt cL_law 1290 46 := byt_ck (lo := 1248) (k := 42) kcL_law_1248 rfl rfl
theorem dL_law_1290 : At cL_law 1290 .iaload 1 1291 := ⟨(o46 ycL_law_1290), rfl⟩
theorem ycL_law_1291 : Byt cL_law 1291 182 := byt_ck (lo := 1248) (k := 43) kcL_law_1248 rfl rfl
theorem ycL_law_1292 : Byt cL_law 1292 0 := byt_ck (lo := 1248) (k := 44) kcL_law_1248 rfl rfl
theorem ycL_law_1293 : Byt cL_law 1293 153 := byt_ck (lo := 1248) (k := 45) kcL_law_1248 rfl rfl
theorem dL_law_1291 : At cL_law 1291 (.invokevirtual 153) 3 1294 := ⟨(o182 153 ycL_law_1291 ycL_law_1292 ycL_law_1293 rfl), rfl⟩
theorem ycL_law_1294 : Byt cL_law 1294 87 := byt_ck (lo := 1248) (k := 46) kcL_law_1248 rfl rfl
theorem dL_law_1294 : At cL_law 1294 .pop 1 1295 := ⟨(o87 ycL_law_1294), rfl⟩
theorem ycL_law_1295 : Byt cL_law 1295 44 := byt_ck (lo := 1248) (k := 47) kcL_law_1248 rfl rfl
theorem dL_law_1295 : At cL_law 1295 (.aload_n 2) 1 1296 := ⟨(o44 ycL_law_1295), rfl⟩
theorem ycL_law_1296 : Byt cL_law 1296 42 := byt_ck (lo := 1296) (k := 0) kcL_law_1296 rfl rfl
theorem dL_law_1296 : At cL_law 1296 (.aload_n 0) 1 1297 := ⟨(o42 ycL_law_1296), rfl⟩
theorem ycL_law_1297 : Byt cL_law 1297 29 := byt_ck (lo := 1296) (k := 1) kcL_law_1296 rfl rfl
theorem dL_law_1297 : At cL_law 1297 (.iload_n 3) 1 1298 := ⟨(o29 ycL_law_1297), rfl⟩
theorem ycL_law_1298 : Byt cL_law 1298 4 := byt_ck (lo := 1296) (k := 2) kcL_law_1296 rfl rfl
theorem dL_law_1298 : At cL_law 1298 (.iconst 1) 1 1299 := ⟨(o4 ycL_law_1298), rfl⟩
theorem ycL_law_1299 : Byt cL_law 1299 96 := byt_ck (lo := 1296) (k := 3) kcL_law_1296 rfl rfl
theorem dL_law_1299 : At cL_law 1299 .iadd 1 1300 := ⟨(o96 ycL_law_1299), rfl⟩
theorem ycL_law_1300 : Byt cL_law 1300 46 := byt_ck (lo := 1296) (k := 4) kcL_law_1296 rfl rfl
theorem dL_law_1300 : At cL_law 1300 .iaload 1 1301 := ⟨(o46 ycL_law_1300), rfl⟩
theorem ycL_law_1301 : Byt cL_law 1301 42 := byt_ck (lo := 1296) (k := 5) kcL_law_1296 rfl rfl
theorem dL_law_1301 : At cL_law 1301 (.aload_n 0) 1 1302 := ⟨(o42 ycL_law_1301), rfl⟩
theorem ycL_law_1302 : Byt cL_law 1302 29 := byt_ck (lo := 1296) (k := 6) kcL_law_1296 rfl rfl
theorem dL_law_1302 : At cL_law 1302 (.iload_n 3) 1 1303 := ⟨(o29 ycL_law_1302), rfl⟩
theorem ycL_law_1303 : Byt cL_law 1303 5 := byt_ck (lo := 1296) (k := 7) kcL_law_1296 rfl rfl
theorem dL_law_1303 : At cL_law 1303 (.iconst 2) 1 1304 := ⟨(o5 ycL_law_1303), rfl⟩
theorem ycL_law_1304 : Byt cL_law 1304 96 := byt_ck (lo := 1296) (k := 8) kcL_law_1296 rfl rfl
theorem dL_law_1304 : At cL_law 1304 .iadd 1 1305 := ⟨(o96 ycL_law_1304), rfl⟩
theorem ycL_law_1305 : Byt cL_law 1305 46 := byt_ck (lo := 1296) (k := 9) kcL_law_1296 rfl rfl
theorem dL_law_1305 : At cL_law 1305 .iaload 1 1306 := ⟨(o46 ycL_law_1305), rfl⟩
theorem ycL_law_1306 : Byt cL_law 1306 182 := byt_ck (lo := 1296) (k := 10) kcL_law_1296 rfl rfl
theorem ycL_law_1307 : Byt cL_law 1307 0 := byt_ck (lo := 1296) (k := 11) kcL_law_1296 rfl rfl
theorem ycL_law_1308 : Byt cL_law 1308 156 := byt_ck (lo := 1296) (k := 12) kcL_law_1296 rfl rfl
theorem dL_law_1306 : At cL_law 1306 (.invokevirtual 156) 3 1309 := ⟨(o182 156 ycL_law_1306 ycL_law_1307 ycL_law_1308 rfl), rfl⟩
theorem ycL_law_1309 : Byt cL_law 1309 87 := byt_ck (lo := 1296) (k := 13) kcL_law_1296 rfl rfl
theorem dL_law_1309 : At cL_law 1309 .pop 1 1310 := ⟨(o87 ycL_law_1309), rfl⟩
theorem ycL_law_1310 : Byt cL_law 1310 167 := byt_ck (lo := 1296) (k := 14) kcL_law_1296 rfl rfl
theorem ycL_law_1311 : Byt cL_law 1311 1 := byt_ck (lo := 1296) (k := 15) kcL_law_1296 rfl rfl
theorem ycL_law_1312 : Byt cL_law 1312 125 := byt_ck (lo := 1296) (k := 16) kcL_law_1296 rfl rfl
theorem dL_law_1310 : AtB cL_law 1310 (.goto 381) 381 1313 1691 := ⟨(o167 381 ycL_law_1310 ycL_law_1311 ycL_law_1312 rfl), rfl, rfl⟩
theorem ycL_law_1313 : Byt cL_law 1313 43 := byt_ck (lo := 1296) (k := 17) kcL_law_1296 rfl rfl
theorem dL_law_1313 : At cL_law 1313 (.aload_n 1) 1 1314 := ⟨(o43 ycL_law_1313), rfl⟩
theorem ycL_law_1314 : Byt cL_law 1314 42 := byt_ck (lo := 1296) (k := 18) kcL_law_1296 rfl rfl
theorem dL_law_1314 : At cL_law 1314 (.aload_n 0) 1 1315 := ⟨(o42 ycL_law_1314), rfl⟩
theorem ycL_law_1315 : Byt cL_law 1315 29 := byt_ck (lo := 1296) (k := 19) kcL_law_1296 rfl rfl
theorem dL_law_1315 : At cL_law 1315 (.iload_n 3) 1 1316 := ⟨(o29 ycL_law_1315), rfl⟩
theorem ycL_law_1316 : Byt cL_law 1316 4 := byt_ck (lo := 1296) (k := 20) kcL_law_1296 rfl rfl
theorem dL_law_1316 : At cL_law 1316 (.iconst 1) 1 1317 := ⟨(o4 ycL_law_1316), rfl⟩
theorem ycL_law_1317 : Byt cL_law 1317 96 := byt_ck (lo := 1296) (k := 21) kcL_law_1296 rfl rfl
theorem dL_law_1317 : At cL_law 1317 .iadd 1 1318 := ⟨(o96 ycL_law_1317), rfl⟩
theorem ycL_law_1318 : Byt cL_law 1318 46 := byt_ck (lo := 1296) (k := 22) kcL_law_1296 rfl rfl
theorem dL_law_1318 : At cL_law 1318 .iaload 1 1319 := ⟨(o46 ycL_law_1318), rfl⟩
theorem ycL_law_1319 : Byt cL_law 1319 42 := byt_ck (lo := 1296) (k := 23) kcL_law_1296 rfl rfl
theorem dL_law_1319 : At cL_law 1319 (.aload_n 0) 1 1320 := ⟨(o42 ycL_law_1319), rfl⟩
theorem ycL_law_1320 : Byt cL_law 1320 29 := byt_ck (lo := 1296) (k := 24) kcL_law_1296 rfl rfl
theorem dL_law_1320 : At cL_law 1320 (.iload_n 3) 1 1321 := ⟨(o29 ycL_law_1320), rfl⟩
theorem ycL_law_1321 : Byt cL_law 1321 5 := byt_ck (lo := 1296) (k := 25) kcL_law_1296 rfl rfl
theorem dL_law_1321 : At cL_law 1321 (.iconst 2) 1 1322 := ⟨(o5 ycL_law_1321), rfl⟩
theorem ycL_law_1322 : Byt cL_law 1322 96 := byt_ck (lo := 1296) (k := 26) kcL_law_1296 rfl rfl
theorem dL_law_1322 : At cL_law 1322 .iadd 1 1323 := ⟨(o96 ycL_law_1322), rfl⟩
theorem ycL_law_1323 : Byt cL_law 1323 46 := byt_ck (lo := 1296) (k := 27) kcL_law_1296 rfl rfl
theorem dL_law_1323 : At cL_law 1323 .iaload 1 1324 := ⟨(o46 ycL_law_1323), rfl⟩
theorem ycL_law_1324 : Byt cL_law 1324 42 := byt_ck (lo := 1296) (k := 28) kcL_law_1296 rfl rfl
theorem dL_law_1324 : At cL_law 1324 (.aload_n 0) 1 1325 := ⟨(o42 ycL_law_1324), rfl⟩
theorem ycL_law_1325 : Byt cL_law 1325 29 := byt_ck (lo := 1296) (k := 29) kcL_law_1296 rfl rfl
theorem dL_law_1325 : At cL_law 1325 (.iload_n 3) 1 1326 := ⟨(o29 ycL_law_1325), rfl⟩
theorem ycL_law_1326 : Byt cL_law 1326 6 := byt_ck (lo := 1296) (k := 30) kcL_law_1296 rfl rfl
theorem dL_law_1326 : At cL_law 1326 (.iconst 3) 1 1327 := ⟨(o6 ycL_law_1326), rfl⟩
theorem ycL_law_1327 : Byt cL_law 1327 96 := byt_ck (lo := 1296) (k := 31) kcL_law_1296 rfl rfl
theorem dL_law_1327 : At cL_law 1327 .iadd 1 1328 := ⟨(o96 ycL_law_1327), rfl⟩
theorem ycL_law_1328 : Byt cL_law 1328 46 := byt_ck (lo := 1296) (k := 32) kcL_law_1296 rfl rfl
theorem dL_law_1328 : At cL_law 1328 .iaload 1 1329 := ⟨(o46 ycL_law_1328), rfl⟩
theorem ycL_law_1329 : Byt cL_law 1329 42 := byt_ck (lo := 1296) (k := 33) kcL_law_1296 rfl rfl
theorem dL_law_1329 : At cL_law 1329 (.aload_n 0) 1 1330 := ⟨(o42 ycL_law_1329), rfl⟩
theorem ycL_law_1330 : Byt cL_law 1330 29 := byt_ck (lo := 1296) (k := 34) kcL_law_1296 rfl rfl
theorem dL_law_1330 : At cL_law 1330 (.iload_n 3) 1 1331 := ⟨(o29 ycL_law_1330), rfl⟩
theorem ycL_law_1331 : Byt cL_law 1331 7 := byt_ck (lo := 1296) (k := 35) kcL_law_1296 rfl rfl
theorem dL_law_1331 : At cL_law 1331 (.iconst 4) 1 1332 := ⟨(o7 ycL_law_1331), rfl⟩
theorem ycL_law_1332 : Byt cL_law 1332 96 := byt_ck (lo := 1296) (k := 36) kcL_law_1296 rfl rfl
theorem dL_law_1332 : At cL_law 1332 .iadd 1 1333 := ⟨(o96 ycL_law_1332), rfl⟩
theorem ycL_law_1333 : Byt cL_law 1333 46 := byt_ck (lo := 1296) (k := 37) kcL_law_1296 rfl rfl
theorem dL_law_1333 : At cL_law 1333 .iaload 1 1334 := ⟨(o46 ycL_law_1333), rfl⟩
theorem ycL_law_1334 : Byt cL_law 1334 42 := byt_ck (lo := 1296) (k := 38) kcL_law_1296 rfl rfl
theorem dL_law_1334 : At cL_law 1334 (.aload_n 0) 1 1335 := ⟨(o42 ycL_law_1334), rfl⟩
theorem ycL_law_1335 : Byt cL_law 1335 29 := byt_ck (lo := 1296) (k := 39) kcL_law_1296 rfl rfl
theorem dL_law_1335 : At cL_law 1335 (.iload_n 3) 1 1336 := ⟨(o29 ycL_law_1335), rfl⟩
theorem ycL_law_1336 : Byt cL_law 1336 8 := byt_ck (lo := 1296) (k := 40) kcL_law_1296 rfl rfl
theorem dL_law_1336 : At cL_law 1336 (.iconst 5) 1 1337 := ⟨(o8 ycL_law_1336), rfl⟩
theorem ycL_law_1337 : Byt cL_law 1337 96 := byt_ck (lo := 1296) (k := 41) kcL_law_1296 rfl rfl
theorem dL_law_1337 : At cL_law 1337 .iadd 1 1338 := ⟨(o96 ycL_law_1337), rfl⟩
theorem ycL_law_1338 : Byt cL_law 1338 46 := byt_ck (lo := 1296) (k := 42) kcL_law_1296 rfl rfl
theorem dL_law_1338 : At cL_law 1338 .iaload 1 1339 := ⟨(o46 ycL_law_1338), rfl⟩
theorem ycL_law_1339 : Byt cL_law 1339 153 := byt_ck (lo := 1296) (k := 43) kcL_law_1296 rfl rfl
theorem ycL_law_1340 : Byt cL_law 1340 0 := byt_ck (lo := 1296) (k := 44) kcL_law_1296 rfl rfl
theorem ycL_law_1341 : Byt cL_law 1341 7 := byt_ck (lo := 1296) (k := 45) kcL_law_1296 rfl rfl
theorem dL_law_1339 : AtB cL_law 1339 (.ifCond .eq 7) 7 1342 1346 := ⟨(o153 7 ycL_law_1339 ycL_law_1340 ycL_law_1341 rfl), rfl, rfl⟩
theorem ycL_law_1342 : Byt cL_law 1342 4 := byt_ck (lo := 1296) (k := 46) kcL_law_1296 rfl rfl
theorem dL_law_1342 : At cL_law 1342 (.iconst 1) 1 1343 := ⟨(o4 ycL_law_1342), rfl⟩
theorem ycL_law_1343 : Byt cL_law 1343 167 := byt_ck (lo := 1296) (k := 47) kcL_law_1296 rfl rfl
theorem ycL_law_1344 : Byt cL_law 1344 0 := byt_ck (lo := 1344) (k := 0) kcL_law_1344 rfl rfl
theorem ycL_law_1345 : Byt cL_law 1345 4 := byt_ck (lo := 1344) (k := 1) kcL_law_1344 rfl rfl
theorem dL_law_1343 : AtB cL_law 1343 (.goto 4) 4 1346 1347 := ⟨(o167 4 ycL_law_1343 ycL_law_1344 ycL_law_1345 rfl), rfl, rfl⟩
theorem ycL_law_1346 : Byt cL_law 1346 3 := byt_ck (lo := 1344) (k := 2) kcL_law_1344 rfl rfl
theorem dL_law_1346 : At cL_law 1346 (.iconst 0) 1 1347 := ⟨(o3 ycL_law_1346), rfl⟩
theorem ycL_law_1347 : Byt cL_law 1347 182 := byt_ck (lo := 1344) (k := 3) kcL_law_1344 rfl rfl
theorem ycL_law_1348 : Byt cL_law 1348 0 := byt_ck (lo := 1344) (k := 4) kcL_law_1344 rfl rfl
theorem ycL_law_1349 : Byt cL_law 1349 157 := byt_ck (lo := 1344) (k := 5) kcL_law_1344 rfl rfl
theorem dL_law_1347 : At cL_law 1347 (.invokevirtual 157) 3 1350 := ⟨(o182 157 ycL_law_1347 ycL_law_1348 ycL_law_1349 rfl), rfl⟩
theorem ycL_law_1350 : Byt cL_law 1350 88 := byt_ck (lo := 1344) (k := 6) kcL_law_1344 rfl rfl
theorem dL_law_1350 : At cL_law 1350 .pop2 1 1351 := ⟨(o88 ycL_law_1350), rfl⟩
theorem ycL_law_1351 : Byt cL_law 1351 44 := byt_ck (lo := 1344) (k := 7) kcL_law_1344 rfl rfl
theorem dL_law_1351 : At cL_law 1351 (.aload_n 2) 1 1352 := ⟨(o44 ycL_law_1351), rfl⟩
theorem ycL_law_1352 : Byt cL_law 1352 42 := byt_ck (lo := 1344) (k := 8) kcL_law_1344 rfl rfl
theorem dL_law_1352 : At cL_law 1352 (.aload_n 0) 1 1353 := ⟨(o42 ycL_law_1352), rfl⟩
theorem ycL_law_1353 : Byt cL_law 1353 29 := byt_ck (lo := 1344) (k := 9) kcL_law_1344 rfl rfl
theorem dL_law_1353 : At cL_law 1353 (.iload_n 3) 1 1354 := ⟨(o29 ycL_law_1353), rfl⟩
theorem ycL_law_1354 : Byt cL_law 1354 4 := byt_ck (lo := 1344) (k := 10) kcL_law_1344 rfl rfl
theorem dL_law_1354 : At cL_law 1354 (.iconst 1) 1 1355 := ⟨(o4 ycL_law_1354), rfl⟩
theorem ycL_law_1355 : Byt cL_law 1355 96 := byt_ck (lo := 1344) (k := 11) kcL_law_1344 rfl rfl
theorem dL_law_1355 : At cL_law 1355 .iadd 1 1356 := ⟨(o96 ycL_law_1355), rfl⟩
theorem ycL_law_1356 : Byt cL_law 1356 46 := byt_ck (lo := 1344) (k := 12) kcL_law_1344 rfl rfl
theorem dL_law_1356 : At cL_law 1356 .iaload 1 1357 := ⟨(o46 ycL_law_1356), rfl⟩
theorem ycL_law_1357 : Byt cL_law 1357 42 := byt_ck (lo := 1344) (k := 13) kcL_law_1344 rfl rfl
theorem dL_law_1357 : At cL_law 1357 (.aload_n 0) 1 1358 := ⟨(o42 ycL_law_1357), rfl⟩
theorem ycL_law_1358 : Byt cL_law 1358 29 := byt_ck (lo := 1344) (k := 14) kcL_law_1344 rfl rfl
theorem dL_law_1358 : At cL_law 1358 (.iload_n 3) 1 1359 := ⟨(o29 ycL_law_1358), rfl⟩
theorem ycL_law_1359 : Byt cL_law 1359 5 := byt_ck (lo := 1344) (k := 15) kcL_law_1344 rfl rfl
theorem dL_law_1359 : At cL_law 1359 (.iconst 2) 1 1360 := ⟨(o5 ycL_law_1359), rfl⟩
theorem ycL_law_1360 : Byt cL_law 1360 96 := byt_ck (lo := 1344) (k := 16) kcL_law_1344 rfl rfl
theorem dL_law_1360 : At cL_law 1360 .iadd 1 1361 := ⟨(o96 ycL_law_1360), rfl⟩
theorem ycL_law_1361 : Byt cL_law 1361 46 := byt_ck (lo := 1344) (k := 17) kcL_law_1344 rfl rfl
theorem dL_law_1361 : At cL_law 1361 .iaload 1 1362 := ⟨(o46 ycL_law_1361), rfl⟩
theorem ycL_law_1362 : Byt cL_law 1362 42 := byt_ck (lo := 1344) (k := 18) kcL_law_1344 rfl rfl
theorem dL_law_1362 : At cL_law 1362 (.aload_n 0) 1 1363 := ⟨(o42 ycL_law_1362), rfl⟩
theorem ycL_law_1363 : Byt cL_law 1363 29 := byt_ck (lo := 1344) (k := 19) kcL_law_1344 rfl rfl
theorem dL_law_1363 : At cL_law 1363 (.iload_n 3) 1 1364 := ⟨(o29 ycL_law_1363), rfl⟩
theorem ycL_law_1364 : Byt cL_law 1364 6 := byt_ck (lo := 1344) (k := 20) kcL_law_1344 rfl rfl
theorem dL_law_1364 : At cL_law 1364 (.iconst 3) 1 1365 := ⟨(o6 ycL_law_1364), rfl⟩
theorem ycL_law_1365 : Byt cL_law 1365 96 := byt_ck (lo := 1344) (k := 21) kcL_law_1344 rfl rfl
theorem dL_law_1365 : At cL_law 1365 .iadd 1 1366 := ⟨(o96 ycL_law_1365), rfl⟩
theorem ycL_law_1366 : Byt cL_law 1366 46 := byt_ck (lo := 1344) (k := 22) kcL_law_1344 rfl rfl
theorem dL_law_1366 : At cL_law 1366 .iaload 1 1367 := ⟨(o46 ycL_law_1366), rfl⟩
theorem ycL_law_1367 : Byt cL_law 1367 42 := byt_ck (lo := 1344) (k := 23) kcL_law_1344 rfl rfl
theorem dL_law_1367 : At cL_law 1367 (.aload_n 0) 1 1368 := ⟨(o42 ycL_law_1367), rfl⟩
theorem ycL_law_1368 : Byt cL_law 1368 29 := byt_ck (lo := 1344) (k := 24) kcL_law_1344 rfl rfl
theorem dL_law_1368 : At cL_law 1368 (.iload_n 3) 1 1369 := ⟨(o29 ycL_law_1368), rfl⟩
theorem ycL_law_1369 : Byt cL_law 1369 7 := byt_ck (lo := 1344) (k := 25) kcL_law_1344 rfl rfl
theorem dL_law_1369 : At cL_law 1369 (.iconst 4) 1 1370 := ⟨(o7 ycL_law_1369), rfl⟩
theorem ycL_law_1370 : Byt cL_law 1370 96 := byt_ck (lo := 1344) (k := 26) kcL_law_1344 rfl rfl
theorem dL_law_1370 : At cL_law 1370 .iadd 1 1371 := ⟨(o96 ycL_law_1370), rfl⟩
theorem ycL_law_1371 : Byt cL_law 1371 46 := byt_ck (lo := 1344) (k := 27) kcL_law_1344 rfl rfl
theorem dL_law_1371 : At cL_law 1371 .iaload 1 1372 := ⟨(o46 ycL_law_1371), rfl⟩
theorem ycL_law_1372 : Byt cL_law 1372 42 := byt_ck (lo := 1344) (k := 28) kcL_law_1344 rfl rfl
theorem dL_law_1372 : At cL_law 1372 (.aload_n 0) 1 1373 := ⟨(o42 ycL_law_1372), rfl⟩
theorem ycL_law_1373 : Byt cL_law 1373 29 := byt_ck (lo := 1344) (k := 29) kcL_law_1344 rfl rfl
theorem dL_law_1373 : At cL_law 1373 (.iload_n 3) 1 1374 := ⟨(o29 ycL_law_1373), rfl⟩
theorem ycL_law_1374 : Byt cL_law 1374 8 := byt_ck (lo := 1344) (k := 30) kcL_law_1344 rfl rfl
theorem dL_law_1374 : At cL_law 1374 (.iconst 5) 1 1375 := ⟨(o8 ycL_law_1374), rfl⟩
theorem ycL_law_1375 : Byt cL_law 1375 96 := byt_ck (lo := 1344) (k := 31) kcL_law_1344 rfl rfl
theorem dL_law_1375 : At cL_law 1375 .iadd 1 1376 := ⟨(o96 ycL_law_1375), rfl⟩
theorem ycL_law_1376 : Byt cL_law 1376 46 := byt_ck (lo := 1344) (k := 32) kcL_law_1344 rfl rfl
theorem dL_law_1376 : At cL_law 1376 .iaload 1 1377 := ⟨(o46 ycL_law_1376), rfl⟩
theorem ycL_law_1377 : Byt cL_law 1377 153 := byt_ck (lo := 1344) (k := 33) kcL_law_1344 rfl rfl
theorem ycL_law_1378 : Byt cL_law 1378 0 := byt_ck (lo := 1344) (k := 34) kcL_law_1344 rfl rfl
theorem ycL_law_1379 : Byt cL_law 1379 7 := byt_ck (lo := 1344) (k := 35) kcL_law_1344 rfl rfl
theorem dL_law_1377 : AtB cL_law 1377 (.ifCond .eq 7) 7 1380 1384 := ⟨(o153 7 ycL_law_1377 ycL_law_1378 ycL_law_1379 rfl), rfl, rfl⟩
theorem ycL_law_1380 : Byt cL_law 1380 4 := byt_ck (lo := 1344) (k := 36) kcL_law_1344 rfl rfl
theorem dL_law_1380 : At cL_law 1380 (.iconst 1) 1 1381 := ⟨(o4 ycL_law_1380), rfl⟩
theorem ycL_law_1381 : Byt cL_law 1381 167 := byt_ck (lo := 1344) (k := 37) kcL_law_1344 rfl rfl
theorem ycL_law_1382 : Byt cL_law 1382 0 := byt_ck (lo := 1344) (k := 38) kcL_law_1344 rfl rfl
theorem ycL_law_1383 : Byt cL_law 1383 4 := byt_ck (lo := 1344) (k := 39) kcL_law_1344 rfl rfl
theorem dL_law_1381 : AtB cL_law 1381 (.goto 4) 4 1384 1385 := ⟨(o167 4 ycL_law_1381 ycL_law_1382 ycL_law_1383 rfl), rfl, rfl⟩
theorem ycL_law_1384 : Byt cL_law 1384 3 := byt_ck (lo := 1344) (k := 40) kcL_law_1344 rfl rfl
theorem dL_law_1384 : At cL_law 1384 (.iconst 0) 1 1385 := ⟨(o3 ycL_law_1384), rfl⟩
theorem ycL_law_1385 : Byt cL_law 1385 182 := byt_ck (lo := 1344) (k := 41) kcL_law_1344 rfl rfl
theorem ycL_law_1386 : Byt cL_law 1386 0 := byt_ck (lo := 1344) (k := 42) kcL_law_1344 rfl rfl
theorem ycL_law_1387 : Byt cL_law 1387 161 := byt_ck (lo := 1344) (k := 43) kcL_law_1344 rfl rfl
theorem dL_law_1385 : At cL_law 1385 (.invokevirtual 161) 3 1388 := ⟨(o182 161 ycL_law_1385 ycL_law_1386 ycL_law_1387 rfl), rfl⟩
theorem ycL_law_1388 : Byt cL_law 1388 88 := byt_ck (lo := 1344) (k := 44) kcL_law_1344 rfl rfl
theorem dL_law_1388 : At cL_law 1388 .pop2 1 1389 := ⟨(o88 ycL_law_1388), rfl⟩
theorem ycL_law_1389 : Byt cL_law 1389 167 := byt_ck (lo := 1344) (k := 45) kcL_law_1344 rfl rfl
theorem ycL_law_1390 : Byt cL_law 1390 1 := byt_ck (lo := 1344) (k := 46) kcL_law_1344 rfl rfl
theorem ycL_law_1391 : Byt cL_law 1391 46 := byt_ck (lo := 1344) (k := 47) kcL_law_1344 rfl rfl
theorem dL_law_1389 : AtB cL_law 1389 (.goto 302) 302 1392 1691 := ⟨(o167 302 ycL_law_1389 ycL_law_1390 ycL_law_1391 rfl), rfl, rfl⟩
theorem ycL_law_1392 : Byt cL_law 1392 43 := byt_ck (lo := 1392) (k := 0) kcL_law_1392 rfl rfl
theorem dL_law_1392 : At cL_law 1392 (.aload_n 1) 1 1393 := ⟨(o43 ycL_law_1392), rfl⟩
theorem ycL_law_1393 : Byt cL_law 1393 42 := byt_ck (lo := 1392) (k := 1) kcL_law_1392 rfl rfl
theorem dL_law_1393 : At cL_law 1393 (.aload_n 0) 1 1394 := ⟨(o42 ycL_law_1393), rfl⟩
theorem ycL_law_1394 : Byt cL_law 1394 29 := byt_ck (lo := 1392) (k := 2) kcL_law_1392 rfl rfl
theorem dL_law_1394 : At cL_law 1394 (.iload_n 3) 1 1395 := ⟨(o29 ycL_law_1394), rfl⟩
theorem ycL_law_1395 : Byt cL_law 1395 4 := byt_ck (lo := 1392) (k := 3) kcL_law_1392 rfl rfl
theorem dL_law_1395 : At cL_law 1395 (.iconst 1) 1 1396 := ⟨(o4 ycL_law_1395), rfl⟩
theorem ycL_law_1396 : Byt cL_law 1396 96 := byt_ck (lo := 1392) (k := 4) kcL_law_1392 rfl rfl
theorem dL_law_1396 : At cL_law 1396 .iadd 1 1397 := ⟨(o96 ycL_law_1396), rfl⟩
theorem ycL_law_1397 : Byt cL_law 1397 46 := byt_ck (lo := 1392) (k := 5) kcL_law_1392 rfl rfl
theorem dL_law_1397 : At cL_law 1397 .iaload 1 1398 := ⟨(o46 ycL_law_1397), rfl⟩
theorem ycL_law_1398 : Byt cL_law 1398 42 := byt_ck (lo := 1392) (k := 6) kcL_law_1392 rfl rfl
theorem dL_law_1398 : At cL_law 1398 (.aload_n 0) 1 1399 := ⟨(o42 ycL_law_1398), rfl⟩
theorem ycL_law_1399 : Byt cL_law 1399 29 := byt_ck (lo := 1392) (k := 7) kcL_law_1392 rfl rfl
theorem dL_law_1399 : At cL_law 1399 (.iload_n 3) 1 1400 := ⟨(o29 ycL_law_1399), rfl⟩
theorem ycL_law_1400 : Byt cL_law 1400 5 := byt_ck (lo := 1392) (k := 8) kcL_law_1392 rfl rfl
theorem dL_law_1400 : At cL_law 1400 (.iconst 2) 1 1401 := ⟨(o5 ycL_law_1400), rfl⟩
theorem ycL_law_1401 : Byt cL_law 1401 96 := byt_ck (lo := 1392) (k := 9) kcL_law_1392 rfl rfl
theorem dL_law_1401 : At cL_law 1401 .iadd 1 1402 := ⟨(o96 ycL_law_1401), rfl⟩
theorem ycL_law_1402 : Byt cL_law 1402 46 := byt_ck (lo := 1392) (k := 10) kcL_law_1392 rfl rfl
theorem dL_law_1402 : At cL_law 1402 .iaload 1 1403 := ⟨(o46 ycL_law_1402), rfl⟩
theorem ycL_law_1403 : Byt cL_law 1403 42 := byt_ck (lo := 1392) (k := 11) kcL_law_1392 rfl rfl
theorem dL_law_1403 : At cL_law 1403 (.aload_n 0) 1 1404 := ⟨(o42 ycL_law_1403), rfl⟩
theorem ycL_law_1404 : Byt cL_law 1404 29 := byt_ck (lo := 1392) (k := 12) kcL_law_1392 rfl rfl
theorem dL_law_1404 : At cL_law 1404 (.iload_n 3) 1 1405 := ⟨(o29 ycL_law_1404), rfl⟩
theorem ycL_law_1405 : Byt cL_law 1405 6 := byt_ck (lo := 1392) (k := 13) kcL_law_1392 rfl rfl
theorem dL_law_1405 : At cL_law 1405 (.iconst 3) 1 1406 := ⟨(o6 ycL_law_1405), rfl⟩
theorem ycL_law_1406 : Byt cL_law 1406 96 := byt_ck (lo := 1392) (k := 14) kcL_law_1392 rfl rfl
theorem dL_law_1406 : At cL_law 1406 .iadd 1 1407 := ⟨(o96 ycL_law_1406), rfl⟩
theorem ycL_law_1407 : Byt cL_law 1407 46 := byt_ck (lo := 1392) (k := 15) kcL_law_1392 rfl rfl
theorem dL_law_1407 : At cL_law 1407 .iaload 1 1408 := ⟨(o46 ycL_law_1407), rfl⟩
theorem ycL_law_1408 : Byt cL_law 1408 42 := byt_ck (lo := 1392) (k := 16) kcL_law_1392 rfl rfl
theorem dL_law_1408 : At cL_law 1408 (.aload_n 0) 1 1409 := ⟨(o42 ycL_law_1408), rfl⟩
theorem ycL_law_1409 : Byt cL_law 1409 29 := byt_ck (lo := 1392) (k := 17) kcL_law_1392 rfl rfl
theorem dL_law_1409 : At cL_law 1409 (.iload_n 3) 1 1410 := ⟨(o29 ycL_law_1409), rfl⟩
theorem ycL_law_1410 : Byt cL_law 1410 7 := byt_ck (lo := 1392) (k := 18) kcL_law_1392 rfl rfl
theorem dL_law_1410 : At cL_law 1410 (.iconst 4) 1 1411 := ⟨(o7 ycL_law_1410), rfl⟩
theorem ycL_law_1411 : Byt cL_law 1411 96 := byt_ck (lo := 1392) (k := 19) kcL_law_1392 rfl rfl
theorem dL_law_1411 : At cL_law 1411 .iadd 1 1412 := ⟨(o96 ycL_law_1411), rfl⟩
theorem ycL_law_1412 : Byt cL_law 1412 46 := byt_ck (lo := 1392) (k := 20) kcL_law_1392 rfl rfl
theorem dL_law_1412 : At cL_law 1412 .iaload 1 1413 := ⟨(o46 ycL_law_1412), rfl⟩
theorem ycL_law_1413 : Byt cL_law 1413 182 := byt_ck (lo := 1392) (k := 21) kcL_law_1392 rfl rfl
theorem ycL_law_1414 : Byt cL_law 1414 0 := byt_ck (lo := 1392) (k := 22) kcL_law_1392 rfl rfl
theorem ycL_law_1415 : Byt cL_law 1415 162 := byt_ck (lo := 1392) (k := 23) kcL_law_1392 rfl rfl
theorem dL_law_1413 : At cL_law 1413 (.invokevirtual 162) 3 1416 := ⟨(o182 162 ycL_law_1413 ycL_law_1414 ycL_law_1415 rfl), rfl⟩
theorem ycL_law_1416 : Byt cL_law 1416 87 := byt_ck (lo := 1392) (k := 24) kcL_law_1392 rfl rfl
theorem dL_law_1416 : At cL_law 1416 .pop 1 1417 := ⟨(o87 ycL_law_1416), rfl⟩
theorem ycL_law_1417 : Byt cL_law 1417 44 := byt_ck (lo := 1392) (k := 25) kcL_law_1392 rfl rfl
theorem dL_law_1417 : At cL_law 1417 (.aload_n 2) 1 1418 := ⟨(o44 ycL_law_1417), rfl⟩
theorem ycL_law_1418 : Byt cL_law 1418 42 := byt_ck (lo := 1392) (k := 26) kcL_law_1392 rfl rfl
theorem dL_law_1418 : At cL_law 1418 (.aload_n 0) 1 1419 := ⟨(o42 ycL_law_1418), rfl⟩
theorem ycL_law_1419 : Byt cL_law 1419 29 := byt_ck (lo := 1392) (k := 27) kcL_law_1392 rfl rfl
theorem dL_law_1419 : At cL_law 1419 (.iload_n 3) 1 1420 := ⟨(o29 ycL_law_1419), rfl⟩
theorem ycL_law_1420 : Byt cL_law 1420 4 := byt_ck (lo := 1392) (k := 28) kcL_law_1392 rfl rfl
theorem dL_law_1420 : At cL_law 1420 (.iconst 1) 1 1421 := ⟨(o4 ycL_law_1420), rfl⟩
theorem ycL_law_1421 : Byt cL_law 1421 96 := byt_ck (lo := 1392) (k := 29) kcL_law_1392 rfl rfl
theorem dL_law_1421 : At cL_law 1421 .iadd 1 1422 := ⟨(o96 ycL_law_1421), rfl⟩
theorem ycL_law_1422 : Byt cL_law 1422 46 := byt_ck (lo := 1392) (k := 30) kcL_law_1392 rfl rfl
theorem dL_law_1422 : At cL_law 1422 .iaload 1 1423 := ⟨(o46 ycL_law_1422), rfl⟩
theorem ycL_law_1423 : Byt cL_law 1423 42 := byt_ck (lo := 1392) (k := 31) kcL_law_1392 rfl rfl
theorem dL_law_1423 : At cL_law 1423 (.aload_n 0) 1 1424 := ⟨(o42 ycL_law_1423), rfl⟩
theorem ycL_law_1424 : Byt cL_law 1424 29 := byt_ck (lo := 1392) (k := 32) kcL_law_1392 rfl rfl
theorem dL_law_1424 : At cL_law 1424 (.iload_n 3) 1 1425 := ⟨(o29 ycL_law_1424), rfl⟩
theorem ycL_law_1425 : Byt cL_law 1425 5 := byt_ck (lo := 1392) (k := 33) kcL_law_1392 rfl rfl
theorem dL_law_1425 : At cL_law 1425 (.iconst 2) 1 1426 := ⟨(o5 ycL_law_1425), rfl⟩
theorem ycL_law_1426 : Byt cL_law 1426 96 := byt_ck (lo := 1392) (k := 34) kcL_law_1392 rfl rfl
theorem dL_law_1426 : At cL_law 1426 .iadd 1 1427 := ⟨(o96 ycL_law_1426), rfl⟩
theorem ycL_law_1427 : Byt cL_law 1427 46 := byt_ck (lo := 1392) (k := 35) kcL_law_1392 rfl rfl
theorem dL_law_1427 : At cL_law 1427 .iaload 1 1428 := ⟨(o46 ycL_law_1427), rfl⟩
theorem ycL_law_1428 : Byt cL_law 1428 42 := byt_ck (lo := 1392) (k := 36) kcL_law_1392 rfl rfl
theorem dL_law_1428 : At cL_law 1428 (.aload_n 0) 1 1429 := ⟨(o42 ycL_law_1428), rfl⟩
theorem ycL_law_1429 : Byt cL_law 1429 29 := byt_ck (lo := 1392) (k := 37) kcL_law_1392 rfl rfl
theorem dL_law_1429 : At cL_law 1429 (.iload_n 3) 1 1430 := ⟨(o29 ycL_law_1429), rfl⟩
theorem ycL_law_1430 : Byt cL_law 1430 6 := byt_ck (lo := 1392) (k := 38) kcL_law_1392 rfl rfl
theorem dL_law_1430 : At cL_law 1430 (.iconst 3) 1 1431 := ⟨(o6 ycL_law_1430), rfl⟩
theorem ycL_law_1431 : Byt cL_law 1431 96 := byt_ck (lo := 1392) (k := 39) kcL_law_1392 rfl rfl
theorem dL_law_1431 : At cL_law 1431 .iadd 1 1432 := ⟨(o96 ycL_law_1431), rfl⟩
theorem ycL_law_1432 : Byt cL_law 1432 46 := byt_ck (lo := 1392) (k := 40) kcL_law_1392 rfl rfl
theorem dL_law_1432 : At cL_law 1432 .iaload 1 1433 := ⟨(o46 ycL_law_1432), rfl⟩
theorem ycL_law_1433 : Byt cL_law 1433 42 := byt_ck (lo := 1392) (k := 41) kcL_law_1392 rfl rfl
theorem dL_law_1433 : At cL_law 1433 (.aload_n 0) 1 1434 := ⟨(o42 ycL_law_1433), rfl⟩
theorem ycL_law_1434 : Byt cL_law 1434 29 := byt_ck (lo := 1392) (k := 42) kcL_law_1392 rfl rfl
theorem dL_law_1434 : At cL_law 1434 (.iload_n 3) 1 1435 := ⟨(o29 ycL_law_1434), rfl⟩
theorem ycL_law_1435 : Byt cL_law 1435 7 := byt_ck (lo := 1392) (k := 43) kcL_law_1392 rfl rfl
theorem dL_law_1435 : At cL_law 1435 (.iconst 4) 1 1436 := ⟨(o7 ycL_law_1435), rfl⟩
theorem ycL_law_1436 : Byt cL_law 1436 96 := byt_ck (lo := 1392) (k := 44) kcL_law_1392 rfl rfl
theorem dL_law_1436 : At cL_law 1436 .iadd 1 1437 := ⟨(o96 ycL_law_1436), rfl⟩
theorem ycL_law_1437 : Byt cL_law 1437 46 := byt_ck (lo := 1392) (k := 45) kcL_law_1392 rfl rfl
theorem dL_law_1437 : At cL_law 1437 .iaload 1 1438 := ⟨(o46 ycL_law_1437), rfl⟩
theorem ycL_law_1438 : Byt cL_law 1438 182 := byt_ck (lo := 1392) (k := 46) kcL_law_1392 rfl rfl
theorem ycL_law_1439 : Byt cL_law 1439 0 := byt_ck (lo := 1392) (k := 47) kcL_law_1392 rfl rfl
theorem ycL_law_1440 : Byt cL_law 1440 165 := byt_ck (lo := 1440) (k := 0) kcL_law_1440 rfl rfl
theorem dL_law_1438 : At cL_law 1438 (.invokevirtual 165) 3 1441 := ⟨(o182 165 ycL_law_1438 ycL_law_1439 ycL_law_1440 rfl), rfl⟩
theorem ycL_law_1441 : Byt cL_law 1441 87 := byt_ck (lo := 1440) (k := 1) kcL_law_1440 rfl rfl
theorem dL_law_1441 : At cL_law 1441 .pop 1 1442 := ⟨(o87 ycL_law_1441), rfl⟩
theorem ycL_law_1442 : Byt cL_law 1442 167 := byt_ck (lo := 1440) (k := 2) kcL_law_1440 rfl rfl
theorem ycL_law_1443 : Byt cL_law 1443 0 := byt_ck (lo := 1440) (k := 3) kcL_law_1440 rfl rfl
theorem ycL_law_1444 : Byt cL_law 1444 249 := byt_ck (lo := 1440) (k := 4) kcL_law_1440 rfl rfl
theorem dL_law_1442 : AtB cL_law 1442 (.goto 249) 249 1445 1691 := ⟨(o167 249 ycL_law_1442 ycL_law_1443 ycL_law_1444 rfl), rfl, rfl⟩
theorem ycL_law_1445 : Byt cL_law 1445 43 := byt_ck (lo := 1440) (k := 5) kcL_law_1440 rfl rfl
theorem dL_law_1445 : At cL_law 1445 (.aload_n 1) 1 1446 := ⟨(o43 ycL_law_1445), rfl⟩
theorem ycL_law_1446 : Byt cL_law 1446 42 := byt_ck (lo := 1440) (k := 6) kcL_law_1440 rfl rfl
theorem dL_law_1446 : At cL_law 1446 (.aload_n 0) 1 1447 := ⟨(o42 ycL_law_1446), rfl⟩
theorem ycL_law_1447 : Byt cL_law 1447 29 := byt_ck (lo := 1440) (k := 7) kcL_law_1440 rfl rfl
theorem dL_law_1447 : At cL_law 1447 (.iload_n 3) 1 1448 := ⟨(o29 ycL_law_1447), rfl⟩
theorem ycL_law_1448 : Byt cL_law 1448 4 := byt_ck (lo := 1440) (k := 8) kcL_law_1440 rfl rfl
theorem dL_law_1448 : At cL_law 1448 (.iconst 1) 1 1449 := ⟨(o4 ycL_law_1448), rfl⟩
theorem ycL_law_1449 : Byt cL_law 1449 96 := byt_ck (lo := 1440) (k := 9) kcL_law_1440 rfl rfl
theorem dL_law_1449 : At cL_law 1449 .iadd 1 1450 := ⟨(o96 ycL_law_1449), rfl⟩
theorem ycL_law_1450 : Byt cL_law 1450 46 := byt_ck (lo := 1440) (k := 10) kcL_law_1440 rfl rfl
theorem dL_law_1450 : At cL_law 1450 .iaload 1 1451 := ⟨(o46 ycL_law_1450), rfl⟩
theorem ycL_law_1451 : Byt cL_law 1451 42 := byt_ck (lo := 1440) (k := 11) kcL_law_1440 rfl rfl
theorem dL_law_1451 : At cL_law 1451 (.aload_n 0) 1 1452 := ⟨(o42 ycL_law_1451), rfl⟩
theorem ycL_law_1452 : Byt cL_law 1452 29 := byt_ck (lo := 1440) (k := 12) kcL_law_1440 rfl rfl
theorem dL_law_1452 : At cL_law 1452 (.iload_n 3) 1 1453 := ⟨(o29 ycL_law_1452), rfl⟩
theorem ycL_law_1453 : Byt cL_law 1453 5 := byt_ck (lo := 1440) (k := 13) kcL_law_1440 rfl rfl
theorem dL_law_1453 : At cL_law 1453 (.iconst 2) 1 1454 := ⟨(o5 ycL_law_1453), rfl⟩
theorem ycL_law_1454 : Byt cL_law 1454 96 := byt_ck (lo := 1440) (k := 14) kcL_law_1440 rfl rfl
theorem dL_law_1454 : At cL_law 1454 .iadd 1 1455 := ⟨(o96 ycL_law_1454), rfl⟩
theorem ycL_law_1455 : Byt cL_law 1455 46 := byt_ck (lo := 1440) (k := 15) kcL_law_1440 rfl rfl
theorem dL_law_1455 : At cL_law 1455 .iaload 1 1456 := ⟨(o46 ycL_law_1455), rfl⟩
theorem ycL_law_1456 : Byt cL_law 1456 153 := byt_ck (lo := 1440) (k := 16) kcL_law_1440 rfl rfl
theorem ycL_law_1457 : Byt cL_law 1457 0 := byt_ck (lo := 1440) (k := 17) kcL_law_1440 rfl rfl
theorem ycL_law_1458 : Byt cL_law 1458 7 := byt_ck (lo := 1440) (k := 18) kcL_law_1440 rfl rfl
theorem dL_law_1456 : AtB cL_law 1456 (.ifCond .eq 7) 7 1459 1463 := ⟨(o153 7 ycL_law_1456 ycL_law_1457 ycL_law_1458 rfl), rfl, rfl⟩
theorem ycL_law_1459 : Byt cL_law 1459 4 := byt_ck (lo := 1440) (k := 19) kcL_law_1440 rfl rfl
theorem dL_law_1459 : At cL_law 1459 (.iconst 1) 1 1460 := ⟨(o4 ycL_law_1459), rfl⟩
theorem ycL_law_1460 : Byt cL_law 1460 167 := byt_ck (lo := 1440) (k := 20) kcL_law_1440 rfl rfl
theorem ycL_law_1461 : Byt cL_law 1461 0 := byt_ck (lo := 1440) (k := 21) kcL_law_1440 rfl rfl
theorem ycL_law_1462 : Byt cL_law 1462 4 := byt_ck (lo := 1440) (k := 22) kcL_law_1440 rfl rfl
theorem dL_law_1460 : AtB cL_law 1460 (.goto 4) 4 1463 1464 := ⟨(o167 4 ycL_law_1460 ycL_law_1461 ycL_law_1462 rfl), rfl, rfl⟩
theorem ycL_law_1463 : Byt cL_law 1463 3 := byt_ck (lo := 1440) (k := 23) kcL_law_1440 rfl rfl
theorem dL_law_1463 : At cL_law 1463 (.iconst 0) 1 1464 := ⟨(o3 ycL_law_1463), rfl⟩
theorem ycL_law_1464 : Byt cL_law 1464 182 := byt_ck (lo := 1440) (k := 24) kcL_law_1440 rfl rfl
theorem ycL_law_1465 : Byt cL_law 1465 0 := byt_ck (lo := 1440) (k := 25) kcL_law_1440 rfl rfl
theorem ycL_law_1466 : Byt cL_law 1466 166 := byt_ck (lo := 1440) (k := 26) kcL_law_1440 rfl rfl
theorem dL_law_1464 : At cL_law 1464 (.invokevirtual 166) 3 1467 := ⟨(o182 166 ycL_law_1464 ycL_law_1465 ycL_law_1466 rfl), rfl⟩
theorem ycL_law_1467 : Byt cL_law 1467 87 := byt_ck (lo := 1440) (k := 27) kcL_law_1440 rfl rfl
theorem dL_law_1467 : At cL_law 1467 .pop 1 1468 := ⟨(o87 ycL_law_1467), rfl⟩
theorem ycL_law_1468 : Byt cL_law 1468 44 := byt_ck (lo := 1440) (k := 28) kcL_law_1440 rfl rfl
theorem dL_law_1468 : At cL_law 1468 (.aload_n 2) 1 1469 := ⟨(o44 ycL_law_1468), rfl⟩
theorem ycL_law_1469 : Byt cL_law 1469 42 := byt_ck (lo := 1440) (k := 29) kcL_law_1440 rfl rfl
theorem dL_law_1469 : At cL_law 1469 (.aload_n 0) 1 1470 := ⟨(o42 ycL_law_1469), rfl⟩
theorem ycL_law_1470 : Byt cL_law 1470 29 := byt_ck (lo := 1440) (k := 30) kcL_law_1440 rfl rfl
theorem dL_law_1470 : At cL_law 1470 (.iload_n 3) 1 1471 := ⟨(o29 ycL_law_1470), rfl⟩
theorem ycL_law_1471 : Byt cL_law 1471 4 := byt_ck (lo := 1440) (k := 31) kcL_law_1440 rfl rfl
theorem dL_law_1471 : At cL_law 1471 (.iconst 1) 1 1472 := ⟨(o4 ycL_law_1471), rfl⟩
theorem ycL_law_1472 : Byt cL_law 1472 96 := byt_ck (lo := 1440) (k := 32) kcL_law_1440 rfl rfl
theorem dL_law_1472 : At cL_law 1472 .iadd 1 1473 := ⟨(o96 ycL_law_1472), rfl⟩
theorem ycL_law_1473 : Byt cL_law 1473 46 := byt_ck (lo := 1440) (k := 33) kcL_law_1440 rfl rfl
theorem dL_law_1473 : At cL_law 1473 .iaload 1 1474 := ⟨(o46 ycL_law_1473), rfl⟩
theorem ycL_law_1474 : Byt cL_law 1474 42 := byt_ck (lo := 1440) (k := 34) kcL_law_1440 rfl rfl
theorem dL_law_1474 : At cL_law 1474 (.aload_n 0) 1 1475 := ⟨(o42 ycL_law_1474), rfl⟩
theorem ycL_law_1475 : Byt cL_law 1475 29 := byt_ck (lo := 1440) (k := 35) kcL_law_1440 rfl rfl
theorem dL_law_1475 : At cL_law 1475 (.iload_n 3) 1 1476 := ⟨(o29 ycL_law_1475), rfl⟩
theorem ycL_law_1476 : Byt cL_law 1476 5 := byt_ck (lo := 1440) (k := 36) kcL_law_1440 rfl rfl
theorem dL_law_1476 : At cL_law 1476 (.iconst 2) 1 1477 := ⟨(o5 ycL_law_1476), rfl⟩
theorem ycL_law_1477 : Byt cL_law 1477 96 := byt_ck (lo := 1440) (k := 37) kcL_law_1440 rfl rfl
theorem dL_law_1477 : At cL_law 1477 .iadd 1 1478 := ⟨(o96 ycL_law_1477), rfl⟩
theorem ycL_law_1478 : Byt cL_law 1478 46 := byt_ck (lo := 1440) (k := 38) kcL_law_1440 rfl rfl
theorem dL_law_1478 : At cL_law 1478 .iaload 1 1479 := ⟨(o46 ycL_law_1478), rfl⟩
theorem ycL_law_1479 : Byt cL_law 1479 153 := byt_ck (lo := 1440) (k := 39) kcL_law_1440 rfl rfl
theorem ycL_law_1480 : Byt cL_law 1480 0 := byt_ck (lo := 1440) (k := 40) kcL_law_1440 rfl rfl
theorem ycL_law_1481 : Byt cL_law 1481 7 := byt_ck (lo := 1440) (k := 41) kcL_law_1440 rfl rfl
theorem dL_law_1479 : AtB cL_law 1479 (.ifCond .eq 7) 7 1482 1486 := ⟨(o153 7 ycL_law_1479 ycL_law_1480 ycL_law_1481 rfl), rfl, rfl⟩
theorem ycL_law_1482 : Byt cL_law 1482 4 := byt_ck (lo := 1440) (k := 42) kcL_law_1440 rfl rfl
theorem dL_law_1482 : At cL_law 1482 (.iconst 1) 1 1483 := ⟨(o4 ycL_law_1482), rfl⟩
theorem ycL_law_1483 : Byt cL_law 1483 167 := byt_ck (lo := 1440) (k := 43) kcL_law_1440 rfl rfl
theorem ycL_law_1484 : Byt cL_law 1484 0 := byt_ck (lo := 1440) (k := 44) kcL_law_1440 rfl rfl
theorem ycL_law_1485 : Byt cL_law 1485 4 := byt_ck (lo := 1440) (k := 45) kcL_law_1440 rfl rfl
theorem dL_law_1483 : AtB cL_law 1483 (.goto 4) 4 1486 1487 := ⟨(o167 4 ycL_law_1483 ycL_law_1484 ycL_law_1485 rfl), rfl, rfl⟩
theorem ycL_law_1486 : Byt cL_law 1486 3 := byt_ck (lo := 1440) (k := 46) kcL_law_1440 rfl rfl
theorem dL_law_1486 : At cL_law 1486 (.iconst 0) 1 1487 := ⟨(o3 ycL_law_1486), rfl⟩
theorem ycL_law_1487 : Byt cL_law 1487 182 := byt_ck (lo := 1440) (k := 47) kcL_law_1440 rfl rfl
theorem ycL_law_1488 : Byt cL_law 1488 0 := byt_ck (lo := 1488) (k := 0) kcL_law_1488 rfl rfl
theorem ycL_law_1489 : Byt cL_law 1489 169 := byt_ck (lo := 1488) (k := 1) kcL_law_1488 rfl rfl
theorem dL_law_1487 : At cL_law 1487 (.invokevirtual 169) 3 1490 := ⟨(o182 169 ycL_law_1487 ycL_law_1488 ycL_law_1489 rfl), rfl⟩
theorem ycL_law_1490 : Byt cL_law 1490 87 := byt_ck (lo := 1488) (k := 2) kcL_law_1488 rfl rfl
theorem dL_law_1490 : At cL_law 1490 .pop 1 1491 := ⟨(o87 ycL_law_1490), rfl⟩
theorem ycL_law_1491 : Byt cL_law 1491 167 := byt_ck (lo := 1488) (k := 3) kcL_law_1488 rfl rfl
theorem ycL_law_1492 : Byt cL_law 1492 0 := byt_ck (lo := 1488) (k := 4) kcL_law_1488 rfl rfl
theorem ycL_law_1493 : Byt cL_law 1493 200 := byt_ck (lo := 1488) (k := 5) kcL_law_1488 rfl rfl
theorem dL_law_1491 : AtB cL_law 1491 (.goto 200) 200 1494 1691 := ⟨(o167 200 ycL_law_1491 ycL_law_1492 ycL_law_1493 rfl), rfl, rfl⟩
theorem ycL_law_1494 : Byt cL_law 1494 43 := byt_ck (lo := 1488) (k := 6) kcL_law_1488 rfl rfl
theorem dL_law_1494 : At cL_law 1494 (.aload_n 1) 1 1495 := ⟨(o43 ycL_law_1494), rfl⟩
theorem ycL_law_1495 : Byt cL_law 1495 42 := byt_ck (lo := 1488) (k := 7) kcL_law_1488 rfl rfl
theorem dL_law_1495 : At cL_law 1495 (.aload_n 0) 1 1496 := ⟨(o42 ycL_law_1495), rfl⟩
theorem ycL_law_1496 : Byt cL_law 1496 29 := byt_ck (lo := 1488) (k := 8) kcL_law_1488 rfl rfl
theorem dL_law_1496 : At cL_law 1496 (.iload_n 3) 1 1497 := ⟨(o29 ycL_law_1496), rfl⟩
theorem ycL_law_1497 : Byt cL_law 1497 4 := byt_ck (lo := 1488) (k := 9) kcL_law_1488 rfl rfl
theorem dL_law_1497 : At cL_law 1497 (.iconst 1) 1 1498 := ⟨(o4 ycL_law_1497), rfl⟩
theorem ycL_law_1498 : Byt cL_law 1498 96 := byt_ck (lo := 1488) (k := 10) kcL_law_1488 rfl rfl
theorem dL_law_1498 : At cL_law 1498 .iadd 1 1499 := ⟨(o96 ycL_law_1498), rfl⟩
theorem ycL_law_1499 : Byt cL_law 1499 46 := byt_ck (lo := 1488) (k := 11) kcL_law_1488 rfl rfl
theorem dL_law_1499 : At cL_law 1499 .iaload 1 1500 := ⟨(o46 ycL_law_1499), rfl⟩
theorem ycL_law_1500 : Byt cL_law 1500 42 := byt_ck (lo := 1488) (k := 12) kcL_law_1488 rfl rfl
theorem dL_law_1500 : At cL_law 1500 (.aload_n 0) 1 1501 := ⟨(o42 ycL_law_1500), rfl⟩
theorem ycL_law_1501 : Byt cL_law 1501 29 := byt_ck (lo := 1488) (k := 13) kcL_law_1488 rfl rfl
theorem dL_law_1501 : At cL_law 1501 (.iload_n 3) 1 1502 := ⟨(o29 ycL_law_1501), rfl⟩
theorem ycL_law_1502 : Byt cL_law 1502 5 := byt_ck (lo := 1488) (k := 14) kcL_law_1488 rfl rfl
theorem dL_law_1502 : At cL_law 1502 (.iconst 2) 1 1503 := ⟨(o5 ycL_law_1502), rfl⟩
theorem ycL_law_1503 : Byt cL_law 1503 96 := byt_ck (lo := 1488) (k := 15) kcL_law_1488 rfl rfl
theorem dL_law_1503 : At cL_law 1503 .iadd 1 1504 := ⟨(o96 ycL_law_1503), rfl⟩
theorem ycL_law_1504 : Byt cL_law 1504 46 := byt_ck (lo := 1488) (k := 16) kcL_law_1488 rfl rfl
theorem dL_law_1504 : At cL_law 1504 .iaload 1 1505 := ⟨(o46 ycL_law_1504), rfl⟩
theorem ycL_law_1505 : Byt cL_law 1505 42 := byt_ck (lo := 1488) (k := 17) kcL_law_1488 rfl rfl
theorem dL_law_1505 : At cL_law 1505 (.aload_n 0) 1 1506 := ⟨(o42 ycL_law_1505), rfl⟩
theorem ycL_law_1506 : Byt cL_law 1506 29 := byt_ck (lo := 1488) (k := 18) kcL_law_1488 rfl rfl
theorem dL_law_1506 : At cL_law 1506 (.iload_n 3) 1 1507 := ⟨(o29 ycL_law_1506), rfl⟩
theorem ycL_law_1507 : Byt cL_law 1507 6 := byt_ck (lo := 1488) (k := 19) kcL_law_1488 rfl rfl
theorem dL_law_1507 : At cL_law 1507 (.iconst 3) 1 1508 := ⟨(o6 ycL_law_1507), rfl⟩
theorem ycL_law_1508 : Byt cL_law 1508 96 := byt_ck (lo := 1488) (k := 20) kcL_law_1488 rfl rfl
theorem dL_law_1508 : At cL_law 1508 .iadd 1 1509 := ⟨(o96 ycL_law_1508), rfl⟩
theorem ycL_law_1509 : Byt cL_law 1509 46 := byt_ck (lo := 1488) (k := 21) kcL_law_1488 rfl rfl
theorem dL_law_1509 : At cL_law 1509 .iaload 1 1510 := ⟨(o46 ycL_law_1509), rfl⟩
theorem ycL_law_1510 : Byt cL_law 1510 182 := byt_ck (lo := 1488) (k := 22) kcL_law_1488 rfl rfl
theorem ycL_law_1511 : Byt cL_law 1511 0 := byt_ck (lo := 1488) (k := 23) kcL_law_1488 rfl rfl
theorem ycL_law_1512 : Byt cL_law 1512 170 := byt_ck (lo := 1488) (k := 24) kcL_law_1488 rfl rfl
theorem dL_law_1510 : At cL_law 1510 (.invokevirtual 170) 3 1513 := ⟨(o182 170 ycL_law_1510 ycL_law_1511 ycL_law_1512 rfl), rfl⟩
theorem ycL_law_1513 : Byt cL_law 1513 87 := byt_ck (lo := 1488) (k := 25) kcL_law_1488 rfl rfl
theorem dL_law_1513 : At cL_law 1513 .pop 1 1514 := ⟨(o87 ycL_law_1513), rfl⟩
theorem ycL_law_1514 : Byt cL_law 1514 44 := byt_ck (lo := 1488) (k := 26) kcL_law_1488 rfl rfl
theorem dL_law_1514 : At cL_law 1514 (.aload_n 2) 1 1515 := ⟨(o44 ycL_law_1514), rfl⟩
theorem ycL_law_1515 : Byt cL_law 1515 42 := byt_ck (lo := 1488) (k := 27) kcL_law_1488 rfl rfl
theorem dL_law_1515 : At cL_law 1515 (.aload_n 0) 1 1516 := ⟨(o42 ycL_law_1515), rfl⟩
theorem ycL_law_1516 : Byt cL_law 1516 29 := byt_ck (lo := 1488) (k := 28) kcL_law_1488 rfl rfl
theorem dL_law_1516 : At cL_law 1516 (.iload_n 3) 1 1517 := ⟨(o29 ycL_law_1516), rfl⟩
theorem ycL_law_1517 : Byt cL_law 1517 4 := byt_ck (lo := 1488) (k := 29) kcL_law_1488 rfl rfl
theorem dL_law_1517 : At cL_law 1517 (.iconst 1) 1 1518 := ⟨(o4 ycL_law_1517), rfl⟩
theorem ycL_law_1518 : Byt cL_law 1518 96 := byt_ck (lo := 1488) (k := 30) kcL_law_1488 rfl rfl
theorem dL_law_1518 : At cL_law 1518 .iadd 1 1519 := ⟨(o96 ycL_law_1518), rfl⟩
theorem ycL_law_1519 : Byt cL_law 1519 46 := byt_ck (lo := 1488) (k := 31) kcL_law_1488 rfl rfl
theorem dL_law_1519 : At cL_law 1519 .iaload 1 1520 := ⟨(o46 ycL_law_1519), rfl⟩
theorem ycL_law_1520 : Byt cL_law 1520 42 := byt_ck (lo := 1488) (k := 32) kcL_law_1488 rfl rfl
theorem dL_law_1520 : At cL_law 1520 (.aload_n 0) 1 1521 := ⟨(o42 ycL_law_1520), rfl⟩
theorem ycL_law_1521 : Byt cL_law 1521 29 := byt_ck (lo := 1488) (k := 33) kcL_law_1488 rfl rfl
theorem dL_law_1521 : At cL_law 1521 (.iload_n 3) 1 1522 := ⟨(o29 ycL_law_1521), rfl⟩
theorem ycL_law_1522 : Byt cL_law 1522 5 := byt_ck (lo := 1488) (k := 34) kcL_law_1488 rfl rfl
theorem dL_law_1522 : At cL_law 1522 (.iconst 2) 1 1523 := ⟨(o5 ycL_law_1522), rfl⟩
theorem ycL_law_1523 : Byt cL_law 1523 96 := byt_ck (lo := 1488) (k := 35) kcL_law_1488 rfl rfl
theorem dL_law_1523 : At cL_law 1523 .iadd 1 1524 := ⟨(o96 ycL_law_1523), rfl⟩
theorem ycL_law_1524 : Byt cL_law 1524 46 := byt_ck (lo := 1488) (k := 36) kcL_law_1488 rfl rfl
theorem dL_law_1524 : At cL_law 1524 .iaload 1 1525 := ⟨(o46 ycL_law_1524), rfl⟩
theorem ycL_law_1525 : Byt cL_law 1525 42 := byt_ck (lo := 1488) (k := 37) kcL_law_1488 rfl rfl
theorem dL_law_1525 : At cL_law 1525 (.aload_n 0) 1 1526 := ⟨(o42 ycL_law_1525), rfl⟩
theorem ycL_law_1526 : Byt cL_law 1526 29 := byt_ck (lo := 1488) (k := 38) kcL_law_1488 rfl rfl
theorem dL_law_1526 : At cL_law 1526 (.iload_n 3) 1 1527 := ⟨(o29 ycL_law_1526), rfl⟩
theorem ycL_law_1527 : Byt cL_law 1527 6 := byt_ck (lo := 1488) (k := 39) kcL_law_1488 rfl rfl
theorem dL_law_1527 : At cL_law 1527 (.iconst 3) 1 1528 := ⟨(o6 ycL_law_1527), rfl⟩
theorem ycL_law_1528 : Byt cL_law 1528 96 := byt_ck (lo := 1488) (k := 40) kcL_law_1488 rfl rfl
theorem dL_law_1528 : At cL_law 1528 .iadd 1 1529 := ⟨(o96 ycL_law_1528), rfl⟩
theorem ycL_law_1529 : Byt cL_law 1529 46 := byt_ck (lo := 1488) (k := 41) kcL_law_1488 rfl rfl
theorem dL_law_1529 : At cL_law 1529 .iaload 1 1530 := ⟨(o46 ycL_law_1529), rfl⟩
theorem ycL_law_1530 : Byt cL_law 1530 182 := byt_ck (lo := 1488) (k := 42) kcL_law_1488 rfl rfl
theorem ycL_law_1531 : Byt cL_law 1531 0 := byt_ck (lo := 1488) (k := 43) kcL_law_1488 rfl rfl
theorem ycL_law_1532 : Byt cL_law 1532 174 := byt_ck (lo := 1488) (k := 44) kcL_law_1488 rfl rfl
theorem dL_law_1530 : At cL_law 1530 (.invokevirtual 174) 3 1533 := ⟨(o182 174 ycL_law_1530 ycL_law_1531 ycL_law_1532 rfl), rfl⟩
theorem ycL_law_1533 : Byt cL_law 1533 87 := byt_ck (lo := 1488) (k := 45) kcL_law_1488 rfl rfl
theorem dL_law_1533 : At cL_law 1533 .pop 1 1534 := ⟨(o87 ycL_law_1533), rfl⟩
theorem ycL_law_1534 : Byt cL_law 1534 167 := byt_ck (lo := 1488) (k := 46) kcL_law_1488 rfl rfl
theorem ycL_law_1535 : Byt cL_law 1535 0 := byt_ck (lo := 1488) (k := 47) kcL_law_1488 rfl rfl
theorem ycL_law_1536 : Byt cL_law 1536 157 := byt_ck (lo := 1536) (k := 0) kcL_law_1536 rfl rfl
theorem dL_law_1534 : AtB cL_law 1534 (.goto 157) 157 1537 1691 := ⟨(o167 157 ycL_law_1534 ycL_law_1535 ycL_law_1536 rfl), rfl, rfl⟩
theorem ycL_law_1537 : Byt cL_law 1537 43 := byt_ck (lo := 1536) (k := 1) kcL_law_1536 rfl rfl
theorem dL_law_1537 : At cL_law 1537 (.aload_n 1) 1 1538 := ⟨(o43 ycL_law_1537), rfl⟩
theorem ycL_law_1538 : Byt cL_law 1538 182 := byt_ck (lo := 1536) (k := 2) kcL_law_1536 rfl rfl
theorem ycL_law_1539 : Byt cL_law 1539 0 := byt_ck (lo := 1536) (k := 3) kcL_law_1536 rfl rfl
theorem ycL_law_1540 : Byt cL_law 1540 175 := byt_ck (lo := 1536) (k := 4) kcL_law_1536 rfl rfl
theorem dL_law_1538 : At cL_law 1538 (.invokevirtual 175) 3 1541 := ⟨(o182 175 ycL_law_1538 ycL_law_1539 ycL_law_1540 rfl), rfl⟩
theorem ycL_law_1541 : Byt cL_law 1541 44 := byt_ck (lo := 1536) (k := 5) kcL_law_1536 rfl rfl
theorem dL_law_1541 : At cL_law 1541 (.aload_n 2) 1 1542 := ⟨(o44 ycL_law_1541), rfl⟩
theorem ycL_law_1542 : Byt cL_law 1542 182 := byt_ck (lo := 1536) (k := 6) kcL_law_1536 rfl rfl
theorem ycL_law_1543 : Byt cL_law 1543 0 := byt_ck (lo := 1536) (k := 7) kcL_law_1536 rfl rfl
theorem ycL_law_1544 : Byt cL_law 1544 178 := byt_ck (lo := 1536) (k := 8) kcL_law_1536 rfl rfl
theorem dL_law_1542 : At cL_law 1542 (.invokevirtual 178) 3 1545 := ⟨(o182 178 ycL_law_1542 ycL_law_1543 ycL_law_1544 rfl), rfl⟩
theorem ycL_law_1545 : Byt cL_law 1545 159 := byt_ck (lo := 1536) (k := 9) kcL_law_1536 rfl rfl
theorem ycL_law_1546 : Byt cL_law 1546 0 := byt_ck (lo := 1536) (k := 10) kcL_law_1536 rfl rfl
theorem ycL_law_1547 : Byt cL_law 1547 146 := byt_ck (lo := 1536) (k := 11) kcL_law_1536 rfl rfl
theorem dL_law_1545 : AtB cL_law 1545 (.if_icmp .eq 146) 146 1548 1691 := ⟨(o159 146 ycL_law_1545 ycL_law_1546 ycL_law_1547 rfl), rfl, rfl⟩
theorem ycL_law_1548 : Byt cL_law 1548 3 := byt_ck (lo := 1536) (k := 12) kcL_law_1536 rfl rfl
theorem dL_law_1548 : At cL_law 1548 (.iconst 0) 1 1549 := ⟨(o3 ycL_law_1548), rfl⟩
theorem ycL_law_1549 : Byt cL_law 1549 172 := byt_ck (lo := 1536) (k := 13) kcL_law_1536 rfl rfl
theorem dL_law_1549 : At cL_law 1549 .ireturn 1 1550 := ⟨(o172 ycL_law_1549), rfl⟩
theorem ycL_law_1550 : Byt cL_law 1550 43 := byt_ck (lo := 1536) (k := 14) kcL_law_1536 rfl rfl
theorem dL_law_1550 : At cL_law 1550 (.aload_n 1) 1 1551 := ⟨(o43 ycL_law_1550), rfl⟩
theorem ycL_law_1551 : Byt cL_law 1551 42 := byt_ck (lo := 1536) (k := 15) kcL_law_1536 rfl rfl
theorem dL_law_1551 : At cL_law 1551 (.aload_n 0) 1 1552 := ⟨(o42 ycL_law_1551), rfl⟩
theorem ycL_law_1552 : Byt cL_law 1552 29 := byt_ck (lo := 1536) (k := 16) kcL_law_1536 rfl rfl
theorem dL_law_1552 : At cL_law 1552 (.iload_n 3) 1 1553 := ⟨(o29 ycL_law_1552), rfl⟩
theorem ycL_law_1553 : Byt cL_law 1553 4 := byt_ck (lo := 1536) (k := 17) kcL_law_1536 rfl rfl
theorem dL_law_1553 : At cL_law 1553 (.iconst 1) 1 1554 := ⟨(o4 ycL_law_1553), rfl⟩
theorem ycL_law_1554 : Byt cL_law 1554 96 := byt_ck (lo := 1536) (k := 18) kcL_law_1536 rfl rfl
theorem dL_law_1554 : At cL_law 1554 .iadd 1 1555 := ⟨(o96 ycL_law_1554), rfl⟩
theorem ycL_law_1555 : Byt cL_law 1555 46 := byt_ck (lo := 1536) (k := 19) kcL_law_1536 rfl rfl
theorem dL_law_1555 : At cL_law 1555 .iaload 1 1556 := ⟨(o46 ycL_law_1555), rfl⟩
theorem ycL_law_1556 : Byt cL_law 1556 42 := byt_ck (lo := 1536) (k := 20) kcL_law_1536 rfl rfl
theorem dL_law_1556 : At cL_law 1556 (.aload_n 0) 1 1557 := ⟨(o42 ycL_law_1556), rfl⟩
theorem ycL_law_1557 : Byt cL_law 1557 29 := byt_ck (lo := 1536) (k := 21) kcL_law_1536 rfl rfl
theorem dL_law_1557 : At cL_law 1557 (.iload_n 3) 1 1558 := ⟨(o29 ycL_law_1557), rfl⟩
theorem ycL_law_1558 : Byt cL_law 1558 5 := byt_ck (lo := 1536) (k := 22) kcL_law_1536 rfl rfl
theorem dL_law_1558 : At cL_law 1558 (.iconst 2) 1 1559 := ⟨(o5 ycL_law_1558), rfl⟩
theorem ycL_law_1559 : Byt cL_law 1559 96 := byt_ck (lo := 1536) (k := 23) kcL_law_1536 rfl rfl
theorem dL_law_1559 : At cL_law 1559 .iadd 1 1560 := ⟨(o96 ycL_law_1559), rfl⟩
theorem ycL_law_1560 : Byt cL_law 1560 46 := byt_ck (lo := 1536) (k := 24) kcL_law_1536 rfl rfl
theorem dL_law_1560 : At cL_law 1560 .iaload 1 1561 := ⟨(o46 ycL_law_1560), rfl⟩
theorem ycL_law_1561 : Byt cL_law 1561 42 := byt_ck (lo := 1536) (k := 25) kcL_law_1536 rfl rfl
theorem dL_law_1561 : At cL_law 1561 (.aload_n 0) 1 1562 := ⟨(o42 ycL_law_1561), rfl⟩
theorem ycL_law_1562 : Byt cL_law 1562 29 := byt_ck (lo := 1536) (k := 26) kcL_law_1536 rfl rfl
theorem dL_law_1562 : At cL_law 1562 (.iload_n 3) 1 1563 := ⟨(o29 ycL_law_1562), rfl⟩
theorem ycL_law_1563 : Byt cL_law 1563 6 := byt_ck (lo := 1536) (k := 27) kcL_law_1536 rfl rfl
theorem dL_law_1563 : At cL_law 1563 (.iconst 3) 1 1564 := ⟨(o6 ycL_law_1563), rfl⟩
theorem ycL_law_1564 : Byt cL_law 1564 96 := byt_ck (lo := 1536) (k := 28) kcL_law_1536 rfl rfl
theorem dL_law_1564 : At cL_law 1564 .iadd 1 1565 := ⟨(o96 ycL_law_1564), rfl⟩
theorem ycL_law_1565 : Byt cL_law 1565 46 := byt_ck (lo := 1536) (k := 29) kcL_law_1536 rfl rfl
theorem dL_law_1565 : At cL_law 1565 .iaload 1 1566 := ⟨(o46 ycL_law_1565), rfl⟩
theorem ycL_law_1566 : Byt cL_law 1566 42 := byt_ck (lo := 1536) (k := 30) kcL_law_1536 rfl rfl
theorem dL_law_1566 : At cL_law 1566 (.aload_n 0) 1 1567 := ⟨(o42 ycL_law_1566), rfl⟩
theorem ycL_law_1567 : Byt cL_law 1567 29 := byt_ck (lo := 1536) (k := 31) kcL_law_1536 rfl rfl
theorem dL_law_1567 : At cL_law 1567 (.iload_n 3) 1 1568 := ⟨(o29 ycL_law_1567), rfl⟩
theorem ycL_law_1568 : Byt cL_law 1568 7 := byt_ck (lo := 1536) (k := 32) kcL_law_1536 rfl rfl
theorem dL_law_1568 : At cL_law 1568 (.iconst 4) 1 1569 := ⟨(o7 ycL_law_1568), rfl⟩
theorem ycL_law_1569 : Byt cL_law 1569 96 := byt_ck (lo := 1536) (k := 33) kcL_law_1536 rfl rfl
theorem dL_law_1569 : At cL_law 1569 .iadd 1 1570 := ⟨(o96 ycL_law_1569), rfl⟩
theorem ycL_law_1570 : Byt cL_law 1570 46 := byt_ck (lo := 1536) (k := 34) kcL_law_1536 rfl rfl
theorem dL_law_1570 : At cL_law 1570 .iaload 1 1571 := ⟨(o46 ycL_law_1570), rfl⟩
theorem ycL_law_1571 : Byt cL_law 1571 153 := byt_ck (lo := 1536) (k := 35) kcL_law_1536 rfl rfl
theorem ycL_law_1572 : Byt cL_law 1572 0 := byt_ck (lo := 1536) (k := 36) kcL_law_1536 rfl rfl
theorem ycL_law_1573 : Byt cL_law 1573 7 := byt_ck (lo := 1536) (k := 37) kcL_law_1536 rfl rfl
theorem dL_law_1571 : AtB cL_law 1571 (.ifCond .eq 7) 7 1574 1578 := ⟨(o153 7 ycL_law_1571 ycL_law_1572 ycL_law_1573 rfl), rfl, rfl⟩
theorem ycL_law_1574 : Byt cL_law 1574 4 := byt_ck (lo := 1536) (k := 38) kcL_law_1536 rfl rfl
theorem dL_law_1574 : At cL_law 1574 (.iconst 1) 1 1575 := ⟨(o4 ycL_law_1574), rfl⟩
theorem ycL_law_1575 : Byt cL_law 1575 167 := byt_ck (lo := 1536) (k := 39) kcL_law_1536 rfl rfl
theorem ycL_law_1576 : Byt cL_law 1576 0 := byt_ck (lo := 1536) (k := 40) kcL_law_1536 rfl rfl
theorem ycL_law_1577 : Byt cL_law 1577 4 := byt_ck (lo := 1536) (k := 41) kcL_law_1536 rfl rfl
theorem dL_law_1575 : AtB cL_law 1575 (.goto 4) 4 1578 1579 := ⟨(o167 4 ycL_law_1575 ycL_law_1576 ycL_law_1577 rfl), rfl, rfl⟩
theorem ycL_law_1578 : Byt cL_law 1578 3 := byt_ck (lo := 1536) (k := 42) kcL_law_1536 rfl rfl
theorem dL_law_1578 : At cL_law 1578 (.iconst 0) 1 1579 := ⟨(o3 ycL_law_1578), rfl⟩
theorem ycL_law_1579 : Byt cL_law 1579 182 := byt_ck (lo := 1536) (k := 43) kcL_law_1536 rfl rfl
theorem ycL_law_1580 : Byt cL_law 1580 0 := byt_ck (lo := 1536) (k := 44) kcL_law_1536 rfl rfl
theorem ycL_law_1581 : Byt cL_law 1581 179 := byt_ck (lo := 1536) (k := 45) kcL_law_1536 rfl rfl
theorem dL_law_1579 : At cL_law 1579 (.invokevirtual 179) 3 1582 := ⟨(o182 179 ycL_law_1579 ycL_law_1580 ycL_law_1581 rfl), rfl⟩
theorem ycL_law_1582 : Byt cL_law 1582 87 := byt_ck (lo := 1536) (k := 46) kcL_law_1536 rfl rfl
theorem dL_law_1582 : At cL_law 1582 .pop 1 1583 := ⟨(o87 ycL_law_1582), rfl⟩
theorem ycL_law_1583 : Byt cL_law 1583 44 := byt_ck (lo := 1536) (k := 47) kcL_law_1536 rfl rfl
theorem dL_law_1583 : At cL_law 1583 (.aload_n 2) 1 1584 := ⟨(o44 ycL_law_1583), rfl⟩
theorem ycL_law_1584 : Byt cL_law 1584 42 := byt_ck (lo := 1584) (k := 0) kcL_law_1584 rfl rfl
theorem dL_law_1584 : At cL_law 1584 (.aload_n 0) 1 1585 := ⟨(o42 ycL_law_1584), rfl⟩
theorem ycL_law_1585 : Byt cL_law 1585 29 := byt_ck (lo := 1584) (k := 1) kcL_law_1584 rfl rfl
theorem dL_law_1585 : At cL_law 1585 (.iload_n 3) 1 1586 := ⟨(o29 ycL_law_1585), rfl⟩
theorem ycL_law_1586 : Byt cL_law 1586 4 := byt_ck (lo := 1584) (k := 2) kcL_law_1584 rfl rfl
theorem dL_law_1586 : At cL_law 1586 (.iconst 1) 1 1587 := ⟨(o4 ycL_law_1586), rfl⟩
theorem ycL_law_1587 : Byt cL_law 1587 96 := byt_ck (lo := 1584) (k := 3) kcL_law_1584 rfl rfl
theorem dL_law_1587 : At cL_law 1587 .iadd 1 1588 := ⟨(o96 ycL_law_1587), rfl⟩
theorem ycL_law_1588 : Byt cL_law 1588 46 := byt_ck (lo := 1584) (k := 4) kcL_law_1584 rfl rfl
theorem dL_law_1588 : At cL_law 1588 .iaload 1 1589 := ⟨(o46 ycL_law_1588), rfl⟩
theorem ycL_law_1589 : Byt cL_law 1589 42 := byt_ck (lo := 1584) (k := 5) kcL_law_1584 rfl rfl
theorem dL_law_1589 : At cL_law 1589 (.aload_n 0) 1 1590 := ⟨(o42 ycL_law_1589), rfl⟩
theorem ycL_law_1590 : Byt cL_law 1590 29 := byt_ck (lo := 1584) (k := 6) kcL_law_1584 rfl rfl
theorem dL_law_1590 : At cL_law 1590 (.iload_n 3) 1 1591 := ⟨(o29 ycL_law_1590), rfl⟩
theorem ycL_law_1591 : Byt cL_law 1591 5 := byt_ck (lo := 1584) (k := 7) kcL_law_1584 rfl rfl
theorem dL_law_1591 : At cL_law 1591 (.iconst 2) 1 1592 := ⟨(o5 ycL_law_1591), rfl⟩
theorem ycL_law_1592 : Byt cL_law 1592 96 := byt_ck (lo := 1584) (k := 8) kcL_law_1584 rfl rfl
theorem dL_law_1592 : At cL_law 1592 .iadd 1 1593 := ⟨(o96 ycL_law_1592), rfl⟩
theorem ycL_law_1593 : Byt cL_law 1593 46 := byt_ck (lo := 1584) (k := 9) kcL_law_1584 rfl rfl
theorem dL_law_1593 : At cL_law 1593 .iaload 1 1594 := ⟨(o46 ycL_law_1593), rfl⟩
theorem ycL_law_1594 : Byt cL_law 1594 42 := byt_ck (lo := 1584) (k := 10) kcL_law_1584 rfl rfl
theorem dL_law_1594 : At cL_law 1594 (.aload_n 0) 1 1595 := ⟨(o42 ycL_law_1594), rfl⟩
theorem ycL_law_1595 : Byt cL_law 1595 29 := byt_ck (lo := 1584) (k := 11) kcL_law_1584 rfl rfl
theorem dL_law_1595 : At cL_law 1595 (.iload_n 3) 1 1596 := ⟨(o29 ycL_law_1595), rfl⟩
theorem ycL_law_1596 : Byt cL_law 1596 6 := byt_ck (lo := 1584) (k := 12) kcL_law_1584 rfl rfl
theorem dL_law_1596 : At cL_law 1596 (.iconst 3) 1 1597 := ⟨(o6 ycL_law_1596), rfl⟩
theorem ycL_law_1597 : Byt cL_law 1597 96 := byt_ck (lo := 1584) (k := 13) kcL_law_1584 rfl rfl
theorem dL_law_1597 : At cL_law 1597 .iadd 1 1598 := ⟨(o96 ycL_law_1597), rfl⟩
theorem ycL_law_1598 : Byt cL_law 1598 46 := byt_ck (lo := 1584) (k := 14) kcL_law_1584 rfl rfl
theorem dL_law_1598 : At cL_law 1598 .iaload 1 1599 := ⟨(o46 ycL_law_1598), rfl⟩
theorem ycL_law_1599 : Byt cL_law 1599 42 := byt_ck (lo := 1584) (k := 15) kcL_law_1584 rfl rfl
theorem dL_law_1599 : At cL_law 1599 (.aload_n 0) 1 1600 := ⟨(o42 ycL_law_1599), rfl⟩
theorem ycL_law_1600 : Byt cL_law 1600 29 := byt_ck (lo := 1584) (k := 16) kcL_law_1584 rfl rfl
theorem dL_law_1600 : At cL_law 1600 (.iload_n 3) 1 1601 := ⟨(o29 ycL_law_1600), rfl⟩
theorem ycL_law_1601 : Byt cL_law 1601 7 := byt_ck (lo := 1584) (k := 17) kcL_law_1584 rfl rfl
theorem dL_law_1601 : At cL_law 1601 (.iconst 4) 1 1602 := ⟨(o7 ycL_law_1601), rfl⟩
theorem ycL_law_1602 : Byt cL_law 1602 96 := byt_ck (lo := 1584) (k := 18) kcL_law_1584 rfl rfl
theorem dL_law_1602 : At cL_law 1602 .iadd 1 1603 := ⟨(o96 ycL_law_1602), rfl⟩
theorem ycL_law_1603 : Byt cL_law 1603 46 := byt_ck (lo := 1584) (k := 19) kcL_law_1584 rfl rfl
theorem dL_law_1603 : At cL_law 1603 .iaload 1 1604 := ⟨(o46 ycL_law_1603), rfl⟩
theorem ycL_law_1604 : Byt cL_law 1604 153 := byt_ck (lo := 1584) (k := 20) kcL_law_1584 rfl rfl
theorem ycL_law_1605 : Byt cL_law 1605 0 := byt_ck (lo := 1584) (k := 21) kcL_law_1584 rfl rfl
theorem ycL_law_1606 : Byt cL_law 1606 7 := byt_ck (lo := 1584) (k := 22) kcL_law_1584 rfl rfl
theorem dL_law_1604 : AtB cL_law 1604 (.ifCond .eq 7) 7 1607 1611 := ⟨(o153 7 ycL_law_1604 ycL_law_1605 ycL_law_1606 rfl), rfl, rfl⟩
theorem ycL_law_1607 : Byt cL_law 1607 4 := byt_ck (lo := 1584) (k := 23) kcL_law_1584 rfl rfl
theorem dL_law_1607 : At cL_law 1607 (.iconst 1) 1 1608 := ⟨(o4 ycL_law_1607), rfl⟩
theorem ycL_law_1608 : Byt cL_law 1608 167 := byt_ck (lo := 1584) (k := 24) kcL_law_1584 rfl rfl
theorem ycL_law_1609 : Byt cL_law 1609 0 := byt_ck (lo := 1584) (k := 25) kcL_law_1584 rfl rfl
theorem ycL_law_1610 : Byt cL_law 1610 4 := byt_ck (lo := 1584) (k := 26) kcL_law_1584 rfl rfl
theorem dL_law_1608 : AtB cL_law 1608 (.goto 4) 4 1611 1612 := ⟨(o167 4 ycL_law_1608 ycL_law_1609 ycL_law_1610 rfl), rfl, rfl⟩
theorem ycL_law_1611 : Byt cL_law 1611 3 := byt_ck (lo := 1584) (k := 27) kcL_law_1584 rfl rfl
theorem dL_law_1611 : At cL_law 1611 (.iconst 0) 1 1612 := ⟨(o3 ycL_law_1611), rfl⟩
theorem ycL_law_1612 : Byt cL_law 1612 182 := byt_ck (lo := 1584) (k := 28) kcL_law_1584 rfl rfl
theorem ycL_law_1613 : Byt cL_law 1613 0 := byt_ck (lo := 1584) (k := 29) kcL_law_1584 rfl rfl
theorem ycL_law_1614 : Byt cL_law 1614 183 := byt_ck (lo := 1584) (k := 30) kcL_law_1584 rfl rfl
theorem dL_law_1612 : At cL_law 1612 (.invokevirtual 183) 3 1615 := ⟨(o182 183 ycL_law_1612 ycL_law_1613 ycL_law_1614 rfl), rfl⟩
theorem ycL_law_1615 : Byt cL_law 1615 87 := byt_ck (lo := 1584) (k := 31) kcL_law_1584 rfl rfl
theorem dL_law_1615 : At cL_law 1615 .pop 1 1616 := ⟨(o87 ycL_law_1615), rfl⟩
theorem ycL_law_1616 : Byt cL_law 1616 167 := byt_ck (lo := 1584) (k := 32) kcL_law_1584 rfl rfl
theorem ycL_law_1617 : Byt cL_law 1617 0 := byt_ck (lo := 1584) (k := 33) kcL_law_1584 rfl rfl
theorem ycL_law_1618 : Byt cL_law 1618 75 := byt_ck (lo := 1584) (k := 34) kcL_law_1584 rfl rfl
theorem dL_law_1616 : AtB cL_law 1616 (.goto 75) 75 1619 1691 := ⟨(o167 75 ycL_law_1616 ycL_law_1617 ycL_law_1618 rfl), rfl, rfl⟩
theorem ycL_law_1619 : Byt cL_law 1619 43 := byt_ck (lo := 1584) (k := 35) kcL_law_1584 rfl rfl
theorem dL_law_1619 : At cL_law 1619 (.aload_n 1) 1 1620 := ⟨(o43 ycL_law_1619), rfl⟩
theorem ycL_law_1620 : Byt cL_law 1620 42 := byt_ck (lo := 1584) (k := 36) kcL_law_1584 rfl rfl
theorem dL_law_1620 : At cL_law 1620 (.aload_n 0) 1 1621 := ⟨(o42 ycL_law_1620), rfl⟩
theorem ycL_law_1621 : Byt cL_law 1621 29 := byt_ck (lo := 1584) (k := 37) kcL_law_1584 rfl rfl
theorem dL_law_1621 : At cL_law 1621 (.iload_n 3) 1 1622 := ⟨(o29 ycL_law_1621), rfl⟩
theorem ycL_law_1622 : Byt cL_law 1622 4 := byt_ck (lo := 1584) (k := 38) kcL_law_1584 rfl rfl
theorem dL_law_1622 : At cL_law 1622 (.iconst 1) 1 1623 := ⟨(o4 ycL_law_1622), rfl⟩
theorem ycL_law_1623 : Byt cL_law 1623 96 := byt_ck (lo := 1584) (k := 39) kcL_law_1584 rfl rfl
theorem dL_law_1623 : At cL_law 1623 .iadd 1 1624 := ⟨(o96 ycL_law_1623), rfl⟩
theorem ycL_law_1624 : Byt cL_law 1624 46 := byt_ck (lo := 1584) (k := 40) kcL_law_1584 rfl rfl
theorem dL_law_1624 : At cL_law 1624 .iaload 1 1625 := ⟨(o46 ycL_law_1624), rfl⟩
theorem ycL_law_1625 : Byt cL_law 1625 182 := byt_ck (lo := 1584) (k := 41) kcL_law_1584 rfl rfl
theorem ycL_law_1626 : Byt cL_law 1626 0 := byt_ck (lo := 1584) (k := 42) kcL_law_1584 rfl rfl
theorem ycL_law_1627 : Byt cL_law 1627 184 := byt_ck (lo := 1584) (k := 43) kcL_law_1584 rfl rfl
theorem dL_law_1625 : At cL_law 1625 (.invokevirtual 184) 3 1628 := ⟨(o182 184 ycL_law_1625 ycL_law_1626 ycL_law_1627 rfl), rfl⟩
theorem ycL_law_1628 : Byt cL_law 1628 87 := byt_ck (lo := 1584) (k := 44) kcL_law_1584 rfl rfl
theorem dL_law_1628 : At cL_law 1628 .pop 1 1629 := ⟨(o87 ycL_law_1628), rfl⟩
theorem ycL_law_1629 : Byt cL_law 1629 44 := byt_ck (lo := 1584) (k := 45) kcL_law_1584 rfl rfl
theorem dL_law_1629 : At cL_law 1629 (.aload_n 2) 1 1630 := ⟨(o44 ycL_law_1629), rfl⟩
theorem ycL_law_1630 : Byt cL_law 1630 42 := byt_ck (lo := 1584) (k := 46) kcL_law_1584 rfl rfl
theorem dL_law_1630 : At cL_law 1630 (.aload_n 0) 1 1631 := ⟨(o42 ycL_law_1630), rfl⟩
theorem ycL_law_1631 : Byt cL_law 1631 29 := byt_ck (lo := 1584) (k := 47) kcL_law_1584 rfl rfl
theorem dL_law_1631 : At cL_law 1631 (.iload_n 3) 1 1632 := ⟨(o29 ycL_law_1631), rfl⟩
theorem ycL_law_1632 : Byt cL_law 1632 4 := byt_ck (lo := 1632) (k := 0) kcL_law_1632 rfl rfl
theorem dL_law_1632 : At cL_law 1632 (.iconst 1) 1 1633 := ⟨(o4 ycL_law_1632), rfl⟩
theorem ycL_law_1633 : Byt cL_law 1633 96 := byt_ck (lo := 1632) (k := 1) kcL_law_1632 rfl rfl
theorem dL_law_1633 : At cL_law 1633 .iadd 1 1634 := ⟨(o96 ycL_law_1633), rfl⟩
theorem ycL_law_1634 : Byt cL_law 1634 46 := byt_ck (lo := 1632) (k := 2) kcL_law_1632 rfl rfl
theorem dL_law_1634 : At cL_law 1634 .iaload 1 1635 := ⟨(o46 ycL_law_1634), rfl⟩
theorem ycL_law_1635 : Byt cL_law 1635 182 := byt_ck (lo := 1632) (k := 3) kcL_law_1632 rfl rfl
theorem ycL_law_1636 : Byt cL_law 1636 0 := byt_ck (lo := 1632) (k := 4) kcL_law_1632 rfl rfl
theorem ycL_law_1637 : Byt cL_law 1637 187 := byt_ck (lo := 1632) (k := 5) kcL_law_1632 rfl rfl
theorem dL_law_1635 : At cL_law 1635 (.invokevirtual 187) 3 1638 := ⟨(o182 187 ycL_law_1635 ycL_law_1636 ycL_law_1637 rfl), rfl⟩
theorem ycL_law_1638 : Byt cL_law 1638 87 := byt_ck (lo := 1632) (k := 6) kcL_law_1632 rfl rfl
theorem dL_law_1638 : At cL_law 1638 .pop 1 1639 := ⟨(o87 ycL_law_1638), rfl⟩
theorem ycL_law_1639 : Byt cL_law 1639 167 := byt_ck (lo := 1632) (k := 7) kcL_law_1632 rfl rfl
theorem ycL_law_1640 : Byt cL_law 1640 0 := byt_ck (lo := 1632) (k := 8) kcL_law_1632 rfl rfl
theorem ycL_law_1641 : Byt cL_law 1641 52 := byt_ck (lo := 1632) (k := 9) kcL_law_1632 rfl rfl
theorem dL_law_1639 : AtB cL_law 1639 (.goto 52) 52 1642 1691 := ⟨(o167 52 ycL_law_1639 ycL_law_1640 ycL_law_1641 rfl), rfl, rfl⟩
theorem ycL_law_1642 : Byt cL_law 1642 43 := byt_ck (lo := 1632) (k := 10) kcL_law_1632 rfl rfl
theorem dL_law_1642 : At cL_law 1642 (.aload_n 1) 1 1643 := ⟨(o43 ycL_law_1642), rfl⟩
theorem ycL_law_1643 : Byt cL_law 1643 182 := byt_ck (lo := 1632) (k := 11) kcL_law_1632 rfl rfl
theorem ycL_law_1644 : Byt cL_law 1644 0 := byt_ck (lo := 1632) (k := 12) kcL_law_1632 rfl rfl
theorem ycL_law_1645 : Byt cL_law 1645 188 := byt_ck (lo := 1632) (k := 13) kcL_law_1632 rfl rfl
theorem dL_law_1643 : At cL_law 1643 (.invokevirtual 188) 3 1646 := ⟨(o182 188 ycL_law_1643 ycL_law_1644 ycL_law_1645 rfl), rfl⟩
theorem ycL_law_1646 : Byt cL_law 1646 87 := byt_ck (lo := 1632) (k := 14) kcL_law_1632 rfl rfl
theorem dL_law_1646 : At cL_law 1646 .pop 1 1647 := ⟨(o87 ycL_law_1646), rfl⟩
theorem ycL_law_1647 : Byt cL_law 1647 44 := byt_ck (lo := 1632) (k := 15) kcL_law_1632 rfl rfl
theorem dL_law_1647 : At cL_law 1647 (.aload_n 2) 1 1648 := ⟨(o44 ycL_law_1647), rfl⟩
theorem ycL_law_1648 : Byt cL_law 1648 182 := byt_ck (lo := 1632) (k := 16) kcL_law_1632 rfl rfl
theorem ycL_law_1649 : Byt cL_law 1649 0 := byt_ck (lo := 1632) (k := 17) kcL_law_1632 rfl rfl
theorem ycL_law_1650 : Byt cL_law 1650 191 := byt_ck (lo := 1632) (k := 18) kcL_law_1632 rfl rfl
theorem dL_law_1648 : At cL_law 1648 (.invokevirtual 191) 3 1651 := ⟨(o182 191 ycL_law_1648 ycL_law_1649 ycL_law_1650 rfl), rfl⟩
theorem ycL_law_1651 : Byt cL_law 1651 87 := byt_ck (lo := 1632) (k := 19) kcL_law_1632 rfl rfl
theorem dL_law_1651 : At cL_law 1651 .pop 1 1652 := ⟨(o87 ycL_law_1651), rfl⟩
theorem ycL_law_1652 : Byt cL_law 1652 167 := byt_ck (lo := 1632) (k := 20) kcL_law_1632 rfl rfl
theorem ycL_law_1653 : Byt cL_law 1653 0 := byt_ck (lo := 1632) (k := 21) kcL_law_1632 rfl rfl
theorem ycL_law_1654 : Byt cL_law 1654 39 := byt_ck (lo := 1632) (k := 22) kcL_law_1632 rfl rfl
theorem dL_law_1652 : AtB cL_law 1652 (.goto 39) 39 1655 1691 := ⟨(o167 39 ycL_law_1652 ycL_law_1653 ycL_law_1654 rfl), rfl, rfl⟩
theorem ycL_law_1655 : Byt cL_law 1655 43 := byt_ck (lo := 1632) (k := 23) kcL_law_1632 rfl rfl
theorem dL_law_1655 : At cL_law 1655 (.aload_n 1) 1 1656 := ⟨(o43 ycL_law_1655), rfl⟩
theorem ycL_law_1656 : Byt cL_law 1656 182 := byt_ck (lo := 1632) (k := 24) kcL_law_1632 rfl rfl
theorem ycL_law_1657 : Byt cL_law 1657 0 := byt_ck (lo := 1632) (k := 25) kcL_law_1632 rfl rfl
theorem ycL_law_1658 : Byt cL_law 1658 192 := byt_ck (lo := 1632) (k := 26) kcL_law_1632 rfl rfl
theorem dL_law_1656 : At cL_law 1656 (.invokevirtual 192) 3 1659 := ⟨(o182 192 ycL_law_1656 ycL_law_1657 ycL_law_1658 rfl), rfl⟩
theorem ycL_law_1659 : Byt cL_law 1659 87 := byt_ck (lo := 1632) (k := 27) kcL_law_1632 rfl rfl
theorem dL_law_1659 : At cL_law 1659 .pop 1 1660 := ⟨(o87 ycL_law_1659), rfl⟩
theorem ycL_law_1660 : Byt cL_law 1660 44 := byt_ck (lo := 1632) (k := 28) kcL_law_1632 rfl rfl
theorem dL_law_1660 : At cL_law 1660 (.aload_n 2) 1 1661 := ⟨(o44 ycL_law_1660), rfl⟩
theorem ycL_law_1661 : Byt cL_law 1661 182 := byt_ck (lo := 1632) (k := 29) kcL_law_1632 rfl rfl
theorem ycL_law_1662 : Byt cL_law 1662 0 := byt_ck (lo := 1632) (k := 30) kcL_law_1632 rfl rfl
theorem ycL_law_1663 : Byt cL_law 1663 195 := byt_ck (lo := 1632) (k := 31) kcL_law_1632 rfl rfl
theorem dL_law_1661 : At cL_law 1661 (.invokevirtual 195) 3 1664 := ⟨(o182 195 ycL_law_1661 ycL_law_1662 ycL_law_1663 rfl), rfl⟩
theorem ycL_law_1664 : Byt cL_law 1664 87 := byt_ck (lo := 1632) (k := 32) kcL_law_1632 rfl rfl
theorem dL_law_1664 : At cL_law 1664 .pop 1 1665 := ⟨(o87 ycL_law_1664), rfl⟩
theorem ycL_law_1665 : Byt cL_law 1665 167 := byt_ck (lo := 1632) (k := 33) kcL_law_1632 rfl rfl
theorem ycL_law_1666 : Byt cL_law 1666 0 := byt_ck (lo := 1632) (k := 34) kcL_law_1632 rfl rfl
theorem ycL_law_1667 : Byt cL_law 1667 26 := byt_ck (lo := 1632) (k := 35) kcL_law_1632 rfl rfl
theorem dL_law_1665 : AtB cL_law 1665 (.goto 26) 26 1668 1691 := ⟨(o167 26 ycL_law_1665 ycL_law_1666 ycL_law_1667 rfl), rfl, rfl⟩
theorem ycL_law_1668 : Byt cL_law 1668 43 := byt_ck (lo := 1632) (k := 36) kcL_law_1632 rfl rfl
theorem dL_law_1668 : At cL_law 1668 (.aload_n 1) 1 1669 := ⟨(o43 ycL_law_1668), rfl⟩
theorem ycL_law_1669 : Byt cL_law 1669 42 := byt_ck (lo := 1632) (k := 37) kcL_law_1632 rfl rfl
theorem dL_law_1669 : At cL_law 1669 (.aload_n 0) 1 1670 := ⟨(o42 ycL_law_1669), rfl⟩
theorem ycL_law_1670 : Byt cL_law 1670 29 := byt_ck (lo := 1632) (k := 38) kcL_law_1632 rfl rfl
theorem dL_law_1670 : At cL_law 1670 (.iload_n 3) 1 1671 := ⟨(o29 ycL_law_1670), rfl⟩
theorem ycL_law_1671 : Byt cL_law 1671 4 := byt_ck (lo := 1632) (k := 39) kcL_law_1632 rfl rfl
theorem dL_law_1671 : At cL_law 1671 (.iconst 1) 1 1672 := ⟨(o4 ycL_law_1671), rfl⟩
theorem ycL_law_1672 : Byt cL_law 1672 96 := byt_ck (lo := 1632) (k := 40) kcL_law_1632 rfl rfl
theorem dL_law_1672 : At cL_law 1672 .iadd 1 1673 := ⟨(o96 ycL_law_1672), rfl⟩
theorem ycL_law_1673 : Byt cL_law 1673 46 := byt_ck (lo := 1632) (k := 41) kcL_law_1632 rfl rfl
theorem dL_law_1673 : At cL_law 1673 .iaload 1 1674 := ⟨(o46 ycL_law_1673), rfl⟩
theorem ycL_law_1674 : Byt cL_law 1674 182 := byt_ck (lo := 1632) (k := 42) kcL_law_1632 rfl rfl
theorem ycL_law_1675 : Byt cL_law 1675 0 := byt_ck (lo := 1632) (k := 43) kcL_law_1632 rfl rfl
theorem ycL_law_1676 : Byt cL_law 1676 196 := byt_ck (lo := 1632) (k := 44) kcL_law_1632 rfl rfl
theorem dL_law_1674 : At cL_law 1674 (.invokevirtual 196) 3 1677 := ⟨(o182 196 ycL_law_1674 ycL_law_1675 ycL_law_1676 rfl), rfl⟩
theorem ycL_law_1677 : Byt cL_law 1677 87 := byt_ck (lo := 1632) (k := 45) kcL_law_1632 rfl rfl
theorem dL_law_1677 : At cL_law 1677 .pop 1 1678 := ⟨(o87 ycL_law_1677), rfl⟩
theorem ycL_law_1678 : Byt cL_law 1678 44 := byt_ck (lo := 1632) (k := 46) kcL_law_1632 rfl rfl
theorem dL_law_1678 : At cL_law 1678 (.aload_n 2) 1 1679 := ⟨(o44 ycL_law_1678), rfl⟩
theorem ycL_law_1679 : Byt cL_law 1679 42 := byt_ck (lo := 1632) (k := 47) kcL_law_1632 rfl rfl
theorem dL_law_1679 : At cL_law 1679 (.aload_n 0) 1 1680 := ⟨(o42 ycL_law_1679), rfl⟩
theorem ycL_law_1680 : Byt cL_law 1680 29 := byt_ck (lo := 1680) (k := 0) kcL_law_1680 rfl rfl
theorem dL_law_1680 : At cL_law 1680 (.iload_n 3) 1 1681 := ⟨(o29 ycL_law_1680), rfl⟩
theorem ycL_law_1681 : Byt cL_law 1681 4 := byt_ck (lo := 1680) (k := 1) kcL_law_1680 rfl rfl
theorem dL_law_1681 : At cL_law 1681 (.iconst 1) 1 1682 := ⟨(o4 ycL_law_1681), rfl⟩
theorem ycL_law_1682 : Byt cL_law 1682 96 := byt_ck (lo := 1680) (k := 2) kcL_law_1680 rfl rfl
theorem dL_law_1682 : At cL_law 1682 .iadd 1 1683 := ⟨(o96 ycL_law_1682), rfl⟩
theorem ycL_law_1683 : Byt cL_law 1683 46 := byt_ck (lo := 1680) (k := 3) kcL_law_1680 rfl rfl
theorem dL_law_1683 : At cL_law 1683 .iaload 1 1684 := ⟨(o46 ycL_law_1683), rfl⟩
theorem ycL_law_1684 : Byt cL_law 1684 182 := byt_ck (lo := 1680) (k := 4) kcL_law_1680 rfl rfl
theorem ycL_law_1685 : Byt cL_law 1685 0 := byt_ck (lo := 1680) (k := 5) kcL_law_1680 rfl rfl
theorem ycL_law_1686 : Byt cL_law 1686 199 := byt_ck (lo := 1680) (k := 6) kcL_law_1680 rfl rfl
theorem dL_law_1684 : At cL_law 1684 (.invokevirtual 199) 3 1687 := ⟨(o182 199 ycL_law_1684 ycL_law_1685 ycL_law_1686 rfl), rfl⟩
theorem ycL_law_1687 : Byt cL_law 1687 87 := byt_ck (lo := 1680) (k := 7) kcL_law_1680 rfl rfl
theorem dL_law_1687 : At cL_law 1687 .pop 1 1688 := ⟨(o87 ycL_law_1687), rfl⟩
theorem ycL_law_1688 : Byt cL_law 1688 167 := byt_ck (lo := 1680) (k := 8) kcL_law_1680 rfl rfl
theorem ycL_law_1689 : Byt cL_law 1689 0 := byt_ck (lo := 1680) (k := 9) kcL_law_1680 rfl rfl
theorem ycL_law_1690 : Byt cL_law 1690 3 := byt_ck (lo := 1680) (k := 10) kcL_law_1680 rfl rfl
theorem dL_law_1688 : AtB cL_law 1688 (.goto 3) 3 1691 1691 := ⟨(o167 3 ycL_law_1688 ycL_law_1689 ycL_law_1690 rfl), rfl, rfl⟩
theorem dL_law_1691 : At cL_law 1691 (.iinc 3 6) 3 1694 := ⟨(by decide +kernel), rfl⟩
theorem ycL_law_1694 : Byt cL_law 1694 167 := byt_ck (lo := 1680) (k := 14) kcL_law_1680 rfl rfl
theorem ycL_law_1695 : Byt cL_law 1695 249 := byt_ck (lo := 1680) (k := 15) kcL_law_1680 rfl rfl
theorem ycL_law_1696 : Byt cL_law 1696 116 := byt_ck (lo := 1680) (k := 16) kcL_law_1680 rfl rfl
theorem dL_law_1694 : AtB cL_law 1694 (.goto (-1676)) (-1676) 1697 18 := ⟨(o167 (-1676) ycL_law_1694 ycL_law_1695 ycL_law_1696 rfl), rfl, rfl⟩
theorem ycL_law_1697 : Byt cL_law 1697 4 := byt_ck (lo := 1680) (k := 17) kcL_law_1680 rfl rfl
theorem dL_law_1697 : At cL_law 1697 (.iconst 1) 1 1698 := ⟨(o4 ycL_law_1697), rfl⟩
theorem ycL_law_1698 : Byt cL_law 1698 172 := byt_ck (lo := 1680) (k := 18) kcL_law_1680 rfl rfl
theorem dL_law_1698 : At cL_law 1698 .ireturn 1 1699 := ⟨(o172 ycL_law_1698), rfl⟩
