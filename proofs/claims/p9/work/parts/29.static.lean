/-! THE STATIC PART of the memory: what the constructors make (written by wip/whole/gen_static.py) -/
def shp0 : List Sh := [.inl 11, .inl 6, .inr (0, 16), .inr (0, 64), .inr (0, 64), .inr (0, 24), .inr (0, 72), .inr (3, 4), .inl 6, .inr (0, 16), .inr (0, 64), .inr (0, 64), .inr (0, 24), .inr (0, 72), .inr (3, 4), .inl 8, .inr (0, 10), .inr (0, 300), .inl 8, .inr (0, 10), .inr (0, 300), .inr (0, 300), .inl 4, .inr (0, 300), .inr (0, 10), .inr (0, 120), .inr (0, 301), .inr (0, 301), .inr (0, 301), .inl 2, .inr (0, 9), .inr (0, 40), .inl 1, .inr (0, 40), .inl 9, .inl 10, .inr (0, 8), .inr (0, 8), .inr (0, 8), .inr (1, 16), .inl 7, .inr (0, 64), .inr (0, 256), .inr (0, 5), .inr (0, 5), .inr (0, 5), .inl 0, .inr (0, 3456), .inr (0, 32), .inr (0, 3), .inl 3, .inr (0, 16), .inr (0, 16), .inr (0, 64), .inl 12, .inr (0, 589), .inr (0, 589), .inr (0, 3492), .inr (0, 8), .inr (0, 300), .inr (0, 160), .inr (0, 9), .inr (1, 330), .inr (0, 8), .inr (0, 8), .inr (0, 8), .inr (1, 16), .inr (0, 8), .inr (0, 256), .inr (2, 16), .inr (0, 5), .inr (0, 5), .inr (0, 5), .inr (0, 16), .inr (0, 16)]
def ref0 : List (Nat × Nat × Nat) := [(0, 0, 1), (0, 1, 8), (0, 2, 15), (0, 3, 18), (0, 4, 21), (0, 5, 22), (0, 6, 29), (0, 7, 32), (0, 8, 34), (0, 9, 35), (0, 10, 40), (0, 11, 46), (0, 12, 50), (1, 0, 2), (1, 1, 3), (1, 2, 4), (1, 3, 5), (1, 4, 6), (1, 5, 7), (8, 0, 9), (8, 1, 10), (8, 2, 11), (8, 3, 12), (8, 4, 13), (8, 5, 14), (15, 0, 16), (15, 1, 17), (18, 0, 19), (18, 1, 20), (22, 0, 21), (22, 1, 23), (22, 2, 24), (22, 3, 25), (22, 4, 26), (22, 5, 27), (22, 6, 28), (29, 0, 1), (29, 1, 15), (29, 2, 30), (29, 3, 31), (32, 0, 1), (32, 1, 33), (34, 0, 1), (34, 1, 15), (34, 2, 29), (34, 3, 32), (35, 0, 1), (35, 1, 29), (35, 2, 32), (35, 3, 36), (35, 4, 37), (35, 5, 38), (35, 6, 39), (40, 0, 1), (40, 1, 15), (40, 2, 29), (40, 3, 35), (40, 4, 41), (40, 5, 42), (40, 6, 43), (40, 7, 44), (40, 8, 45), (46, 0, 1), (46, 1, 32), (46, 2, 47), (46, 3, 48), (46, 4, 49), (50, 0, 1), (50, 1, 51), (50, 2, 52), (50, 3, 53), (54, 0, 55), (54, 1, 56), (54, 2, 57), (54, 3, 58), (54, 5, 59), (54, 17, 60), (54, 22, 61), (54, 23, 62), (54, 31, 63), (54, 33, 64), (54, 34, 65), (54, 35, 66), (54, 37, 67), (54, 38, 68), (54, 39, 69), (54, 40, 70), (54, 41, 71), (54, 42, 72), (54, 45, 73), (54, 46, 74)]
/-- the static part stands -/
def St (M : Mem) : Prop := (∀ (k : Nat) (x : Sh), shp0[k]? = some x → M.1[k]? = some x) ∧ ∀ q ∈ ref0, mR M q.1 q.2.1 = some q.2.2
theorem s_0 {M : Mem} (h : St M) : M.1[0]? = some (.inl 11) := h.1 0 _ rfl
theorem s_1 {M : Mem} (h : St M) : M.1[1]? = some (.inl 6) := h.1 1 _ rfl
theorem s_2 {M : Mem} (h : St M) : M.1[2]? = some (.inr (0, 16)) := h.1 2 _ rfl
theorem s_3 {M : Mem} (h : St M) : M.1[3]? = some (.inr (0, 64)) := h.1 3 _ rfl
theorem s_4 {M : Mem} (h : St M) : M.1[4]? = some (.inr (0, 64)) := h.1 4 _ rfl
theorem s_5 {M : Mem} (h : St M) : M.1[5]? = some (.inr (0, 24)) := h.1 5 _ rfl
theorem s_6 {M : Mem} (h : St M) : M.1[6]? = some (.inr (0, 72)) := h.1 6 _ rfl
theorem s_7 {M : Mem} (h : St M) : M.1[7]? = some (.inr (3, 4)) := h.1 7 _ rfl
theorem s_8 {M : Mem} (h : St M) : M.1[8]? = some (.inl 6) := h.1 8 _ rfl
theorem s_9 {M : Mem} (h : St M) : M.1[9]? = some (.inr (0, 16)) := h.1 9 _ rfl
theorem s_10 {M : Mem} (h : St M) : M.1[10]? = some (.inr (0, 64)) := h.1 10 _ rfl
theorem s_11 {M : Mem} (h : St M) : M.1[11]? = some (.inr (0, 64)) := h.1 11 _ rfl
theorem s_12 {M : Mem} (h : St M) : M.1[12]? = some (.inr (0, 24)) := h.1 12 _ rfl
theorem s_13 {M : Mem} (h : St M) : M.1[13]? = some (.inr (0, 72)) := h.1 13 _ rfl
theorem s_14 {M : Mem} (h : St M) : M.1[14]? = some (.inr (3, 4)) := h.1 14 _ rfl
theorem s_15 {M : Mem} (h : St M) : M.1[15]? = some (.inl 8) := h.1 15 _ rfl
theorem s_16 {M : Mem} (h : St M) : M.1[16]? = some (.inr (0, 10)) := h.1 16 _ rfl
theorem s_17 {M : Mem} (h : St M) : M.1[17]? = some (.inr (0, 300)) := h.1 17 _ rfl
theorem s_18 {M : Mem} (h : St M) : M.1[18]? = some (.inl 8) := h.1 18 _ rfl
theorem s_19 {M : Mem} (h : St M) : M.1[19]? = some (.inr (0, 10)) := h.1 19 _ rfl
theorem s_20 {M : Mem} (h : St M) : M.1[20]? = some (.inr (0, 300)) := h.1 20 _ rfl
theorem s_21 {M : Mem} (h : St M) : M.1[21]? = some (.inr (0, 300)) := h.1 21 _ rfl
theorem s_22 {M : Mem} (h : St M) : M.1[22]? = some (.inl 4) := h.1 22 _ rfl
theorem s_23 {M : Mem} (h : St M) : M.1[23]? = some (.inr (0, 300)) := h.1 23 _ rfl
theorem s_24 {M : Mem} (h : St M) : M.1[24]? = some (.inr (0, 10)) := h.1 24 _ rfl
theorem s_25 {M : Mem} (h : St M) : M.1[25]? = some (.inr (0, 120)) := h.1 25 _ rfl
theorem s_26 {M : Mem} (h : St M) : M.1[26]? = some (.inr (0, 301)) := h.1 26 _ rfl
theorem s_27 {M : Mem} (h : St M) : M.1[27]? = some (.inr (0, 301)) := h.1 27 _ rfl
theorem s_28 {M : Mem} (h : St M) : M.1[28]? = some (.inr (0, 301)) := h.1 28 _ rfl
theorem s_29 {M : Mem} (h : St M) : M.1[29]? = some (.inl 2) := h.1 29 _ rfl
theorem s_30 {M : Mem} (h : St M) : M.1[30]? = some (.inr (0, 9)) := h.1 30 _ rfl
theorem s_31 {M : Mem} (h : St M) : M.1[31]? = some (.inr (0, 40)) := h.1 31 _ rfl
theorem s_32 {M : Mem} (h : St M) : M.1[32]? = some (.inl 1) := h.1 32 _ rfl
theorem s_33 {M : Mem} (h : St M) : M.1[33]? = some (.inr (0, 40)) := h.1 33 _ rfl
theorem s_34 {M : Mem} (h : St M) : M.1[34]? = some (.inl 9) := h.1 34 _ rfl
theorem s_35 {M : Mem} (h : St M) : M.1[35]? = some (.inl 10) := h.1 35 _ rfl
theorem s_36 {M : Mem} (h : St M) : M.1[36]? = some (.inr (0, 8)) := h.1 36 _ rfl
theorem s_37 {M : Mem} (h : St M) : M.1[37]? = some (.inr (0, 8)) := h.1 37 _ rfl
theorem s_38 {M : Mem} (h : St M) : M.1[38]? = some (.inr (0, 8)) := h.1 38 _ rfl
theorem s_39 {M : Mem} (h : St M) : M.1[39]? = some (.inr (1, 16)) := h.1 39 _ rfl
theorem s_40 {M : Mem} (h : St M) : M.1[40]? = some (.inl 7) := h.1 40 _ rfl
theorem s_41 {M : Mem} (h : St M) : M.1[41]? = some (.inr (0, 64)) := h.1 41 _ rfl
theorem s_42 {M : Mem} (h : St M) : M.1[42]? = some (.inr (0, 256)) := h.1 42 _ rfl
theorem s_43 {M : Mem} (h : St M) : M.1[43]? = some (.inr (0, 5)) := h.1 43 _ rfl
theorem s_44 {M : Mem} (h : St M) : M.1[44]? = some (.inr (0, 5)) := h.1 44 _ rfl
theorem s_45 {M : Mem} (h : St M) : M.1[45]? = some (.inr (0, 5)) := h.1 45 _ rfl
theorem s_46 {M : Mem} (h : St M) : M.1[46]? = some (.inl 0) := h.1 46 _ rfl
theorem s_47 {M : Mem} (h : St M) : M.1[47]? = some (.inr (0, 3456)) := h.1 47 _ rfl
theorem s_48 {M : Mem} (h : St M) : M.1[48]? = some (.inr (0, 32)) := h.1 48 _ rfl
theorem s_49 {M : Mem} (h : St M) : M.1[49]? = some (.inr (0, 3)) := h.1 49 _ rfl
theorem s_50 {M : Mem} (h : St M) : M.1[50]? = some (.inl 3) := h.1 50 _ rfl
theorem s_51 {M : Mem} (h : St M) : M.1[51]? = some (.inr (0, 16)) := h.1 51 _ rfl
theorem s_52 {M : Mem} (h : St M) : M.1[52]? = some (.inr (0, 16)) := h.1 52 _ rfl
theorem s_53 {M : Mem} (h : St M) : M.1[53]? = some (.inr (0, 64)) := h.1 53 _ rfl
theorem s_54 {M : Mem} (h : St M) : M.1[54]? = some (.inl 12) := h.1 54 _ rfl
theorem s_55 {M : Mem} (h : St M) : M.1[55]? = some (.inr (0, 589)) := h.1 55 _ rfl
theorem s_56 {M : Mem} (h : St M) : M.1[56]? = some (.inr (0, 589)) := h.1 56 _ rfl
theorem s_57 {M : Mem} (h : St M) : M.1[57]? = some (.inr (0, 3492)) := h.1 57 _ rfl
theorem s_58 {M : Mem} (h : St M) : M.1[58]? = some (.inr (0, 8)) := h.1 58 _ rfl
theorem s_59 {M : Mem} (h : St M) : M.1[59]? = some (.inr (0, 300)) := h.1 59 _ rfl
theorem s_60 {M : Mem} (h : St M) : M.1[60]? = some (.inr (0, 160)) := h.1 60 _ rfl
theorem s_61 {M : Mem} (h : St M) : M.1[61]? = some (.inr (0, 9)) := h.1 61 _ rfl
theorem s_62 {M : Mem} (h : St M) : M.1[62]? = some (.inr (1, 330)) := h.1 62 _ rfl
theorem s_63 {M : Mem} (h : St M) : M.1[63]? = some (.inr (0, 8)) := h.1 63 _ rfl
theorem s_64 {M : Mem} (h : St M) : M.1[64]? = some (.inr (0, 8)) := h.1 64 _ rfl
theorem s_65 {M : Mem} (h : St M) : M.1[65]? = some (.inr (0, 8)) := h.1 65 _ rfl
theorem s_66 {M : Mem} (h : St M) : M.1[66]? = some (.inr (1, 16)) := h.1 66 _ rfl
theorem s_67 {M : Mem} (h : St M) : M.1[67]? = some (.inr (0, 8)) := h.1 67 _ rfl
theorem s_68 {M : Mem} (h : St M) : M.1[68]? = some (.inr (0, 256)) := h.1 68 _ rfl
theorem s_69 {M : Mem} (h : St M) : M.1[69]? = some (.inr (2, 16)) := h.1 69 _ rfl
theorem s_70 {M : Mem} (h : St M) : M.1[70]? = some (.inr (0, 5)) := h.1 70 _ rfl
theorem s_71 {M : Mem} (h : St M) : M.1[71]? = some (.inr (0, 5)) := h.1 71 _ rfl
theorem s_72 {M : Mem} (h : St M) : M.1[72]? = some (.inr (0, 5)) := h.1 72 _ rfl
theorem s_73 {M : Mem} (h : St M) : M.1[73]? = some (.inr (0, 16)) := h.1 73 _ rfl
theorem s_74 {M : Mem} (h : St M) : M.1[74]? = some (.inr (0, 16)) := h.1 74 _ rfl
theorem r_0_0 {M : Mem} (h : St M) : mR M 0 0 = some 1 := h.2 (0, 0, 1) (List.mem_of_getElem? (i := 0) rfl)
theorem r_0_1 {M : Mem} (h : St M) : mR M 0 1 = some 8 := h.2 (0, 1, 8) (List.mem_of_getElem? (i := 1) rfl)
theorem r_0_2 {M : Mem} (h : St M) : mR M 0 2 = some 15 := h.2 (0, 2, 15) (List.mem_of_getElem? (i := 2) rfl)
theorem r_0_3 {M : Mem} (h : St M) : mR M 0 3 = some 18 := h.2 (0, 3, 18) (List.mem_of_getElem? (i := 3) rfl)
theorem r_0_4 {M : Mem} (h : St M) : mR M 0 4 = some 21 := h.2 (0, 4, 21) (List.mem_of_getElem? (i := 4) rfl)
theorem r_0_5 {M : Mem} (h : St M) : mR M 0 5 = some 22 := h.2 (0, 5, 22) (List.mem_of_getElem? (i := 5) rfl)
theorem r_0_6 {M : Mem} (h : St M) : mR M 0 6 = some 29 := h.2 (0, 6, 29) (List.mem_of_getElem? (i := 6) rfl)
theorem r_0_7 {M : Mem} (h : St M) : mR M 0 7 = some 32 := h.2 (0, 7, 32) (List.mem_of_getElem? (i := 7) rfl)
theorem r_0_8 {M : Mem} (h : St M) : mR M 0 8 = some 34 := h.2 (0, 8, 34) (List.mem_of_getElem? (i := 8) rfl)
theorem r_0_9 {M : Mem} (h : St M) : mR M 0 9 = some 35 := h.2 (0, 9, 35) (List.mem_of_getElem? (i := 9) rfl)
theorem r_0_10 {M : Mem} (h : St M) : mR M 0 10 = some 40 := h.2 (0, 10, 40) (List.mem_of_getElem? (i := 10) rfl)
theorem r_0_11 {M : Mem} (h : St M) : mR M 0 11 = some 46 := h.2 (0, 11, 46) (List.mem_of_getElem? (i := 11) rfl)
theorem r_0_12 {M : Mem} (h : St M) : mR M 0 12 = some 50 := h.2 (0, 12, 50) (List.mem_of_getElem? (i := 12) rfl)
theorem r_1_0 {M : Mem} (h : St M) : mR M 1 0 = some 2 := h.2 (1, 0, 2) (List.mem_of_getElem? (i := 13) rfl)
theorem r_1_1 {M : Mem} (h : St M) : mR M 1 1 = some 3 := h.2 (1, 1, 3) (List.mem_of_getElem? (i := 14) rfl)
theorem r_1_2 {M : Mem} (h : St M) : mR M 1 2 = some 4 := h.2 (1, 2, 4) (List.mem_of_getElem? (i := 15) rfl)
theorem r_1_3 {M : Mem} (h : St M) : mR M 1 3 = some 5 := h.2 (1, 3, 5) (List.mem_of_getElem? (i := 16) rfl)
theorem r_1_4 {M : Mem} (h : St M) : mR M 1 4 = some 6 := h.2 (1, 4, 6) (List.mem_of_getElem? (i := 17) rfl)
theorem r_1_5 {M : Mem} (h : St M) : mR M 1 5 = some 7 := h.2 (1, 5, 7) (List.mem_of_getElem? (i := 18) rfl)
theorem r_8_0 {M : Mem} (h : St M) : mR M 8 0 = some 9 := h.2 (8, 0, 9) (List.mem_of_getElem? (i := 19) rfl)
theorem r_8_1 {M : Mem} (h : St M) : mR M 8 1 = some 10 := h.2 (8, 1, 10) (List.mem_of_getElem? (i := 20) rfl)
theorem r_8_2 {M : Mem} (h : St M) : mR M 8 2 = some 11 := h.2 (8, 2, 11) (List.mem_of_getElem? (i := 21) rfl)
theorem r_8_3 {M : Mem} (h : St M) : mR M 8 3 = some 12 := h.2 (8, 3, 12) (List.mem_of_getElem? (i := 22) rfl)
theorem r_8_4 {M : Mem} (h : St M) : mR M 8 4 = some 13 := h.2 (8, 4, 13) (List.mem_of_getElem? (i := 23) rfl)
theorem r_8_5 {M : Mem} (h : St M) : mR M 8 5 = some 14 := h.2 (8, 5, 14) (List.mem_of_getElem? (i := 24) rfl)
theorem r_15_0 {M : Mem} (h : St M) : mR M 15 0 = some 16 := h.2 (15, 0, 16) (List.mem_of_getElem? (i := 25) rfl)
theorem r_15_1 {M : Mem} (h : St M) : mR M 15 1 = some 17 := h.2 (15, 1, 17) (List.mem_of_getElem? (i := 26) rfl)
theorem r_18_0 {M : Mem} (h : St M) : mR M 18 0 = some 19 := h.2 (18, 0, 19) (List.mem_of_getElem? (i := 27) rfl)
theorem r_18_1 {M : Mem} (h : St M) : mR M 18 1 = some 20 := h.2 (18, 1, 20) (List.mem_of_getElem? (i := 28) rfl)
theorem r_22_0 {M : Mem} (h : St M) : mR M 22 0 = some 21 := h.2 (22, 0, 21) (List.mem_of_getElem? (i := 29) rfl)
theorem r_22_1 {M : Mem} (h : St M) : mR M 22 1 = some 23 := h.2 (22, 1, 23) (List.mem_of_getElem? (i := 30) rfl)
theorem r_22_2 {M : Mem} (h : St M) : mR M 22 2 = some 24 := h.2 (22, 2, 24) (List.mem_of_getElem? (i := 31) rfl)
theorem r_22_3 {M : Mem} (h : St M) : mR M 22 3 = some 25 := h.2 (22, 3, 25) (List.mem_of_getElem? (i := 32) rfl)
theorem r_22_4 {M : Mem} (h : St M) : mR M 22 4 = some 26 := h.2 (22, 4, 26) (List.mem_of_getElem? (i := 33) rfl)
theorem r_22_5 {M : Mem} (h : St M) : mR M 22 5 = some 27 := h.2 (22, 5, 27) (List.mem_of_getElem? (i := 34) rfl)
theorem r_22_6 {M : Mem} (h : St M) : mR M 22 6 = some 28 := h.2 (22, 6, 28) (List.mem_of_getElem? (i := 35) rfl)
theorem r_29_0 {M : Mem} (h : St M) : mR M 29 0 = some 1 := h.2 (29, 0, 1) (List.mem_of_getElem? (i := 36) rfl)
theorem r_29_1 {M : Mem} (h : St M) : mR M 29 1 = some 15 := h.2 (29, 1, 15) (List.mem_of_getElem? (i := 37) rfl)
theorem r_29_2 {M : Mem} (h : St M) : mR M 29 2 = some 30 := h.2 (29, 2, 30) (List.mem_of_getElem? (i := 38) rfl)
theorem r_29_3 {M : Mem} (h : St M) : mR M 29 3 = some 31 := h.2 (29, 3, 31) (List.mem_of_getElem? (i := 39) rfl)
theorem r_32_0 {M : Mem} (h : St M) : mR M 32 0 = some 1 := h.2 (32, 0, 1) (List.mem_of_getElem? (i := 40) rfl)
theorem r_32_1 {M : Mem} (h : St M) : mR M 32 1 = some 33 := h.2 (32, 1, 33) (List.mem_of_getElem? (i := 41) rfl)
theorem r_34_0 {M : Mem} (h : St M) : mR M 34 0 = some 1 := h.2 (34, 0, 1) (List.mem_of_getElem? (i := 42) rfl)
theorem r_34_1 {M : Mem} (h : St M) : mR M 34 1 = some 15 := h.2 (34, 1, 15) (List.mem_of_getElem? (i := 43) rfl)
theorem r_34_2 {M : Mem} (h : St M) : mR M 34 2 = some 29 := h.2 (34, 2, 29) (List.mem_of_getElem? (i := 44) rfl)
theorem r_34_3 {M : Mem} (h : St M) : mR M 34 3 = some 32 := h.2 (34, 3, 32) (List.mem_of_getElem? (i := 45) rfl)
theorem r_35_0 {M : Mem} (h : St M) : mR M 35 0 = some 1 := h.2 (35, 0, 1) (List.mem_of_getElem? (i := 46) rfl)
theorem r_35_1 {M : Mem} (h : St M) : mR M 35 1 = some 29 := h.2 (35, 1, 29) (List.mem_of_getElem? (i := 47) rfl)
theorem r_35_2 {M : Mem} (h : St M) : mR M 35 2 = some 32 := h.2 (35, 2, 32) (List.mem_of_getElem? (i := 48) rfl)
theorem r_35_3 {M : Mem} (h : St M) : mR M 35 3 = some 36 := h.2 (35, 3, 36) (List.mem_of_getElem? (i := 49) rfl)
theorem r_35_4 {M : Mem} (h : St M) : mR M 35 4 = some 37 := h.2 (35, 4, 37) (List.mem_of_getElem? (i := 50) rfl)
theorem r_35_5 {M : Mem} (h : St M) : mR M 35 5 = some 38 := h.2 (35, 5, 38) (List.mem_of_getElem? (i := 51) rfl)
theorem r_35_6 {M : Mem} (h : St M) : mR M 35 6 = some 39 := h.2 (35, 6, 39) (List.mem_of_getElem? (i := 52) rfl)
theorem r_40_0 {M : Mem} (h : St M) : mR M 40 0 = some 1 := h.2 (40, 0, 1) (List.mem_of_getElem? (i := 53) rfl)
theorem r_40_1 {M : Mem} (h : St M) : mR M 40 1 = some 15 := h.2 (40, 1, 15) (List.mem_of_getElem? (i := 54) rfl)
theorem r_40_2 {M : Mem} (h : St M) : mR M 40 2 = some 29 := h.2 (40, 2, 29) (List.mem_of_getElem? (i := 55) rfl)
theorem r_40_3 {M : Mem} (h : St M) : mR M 40 3 = some 35 := h.2 (40, 3, 35) (List.mem_of_getElem? (i := 56) rfl)
theorem r_40_4 {M : Mem} (h : St M) : mR M 40 4 = some 41 := h.2 (40, 4, 41) (List.mem_of_getElem? (i := 57) rfl)
theorem r_40_5 {M : Mem} (h : St M) : mR M 40 5 = some 42 := h.2 (40, 5, 42) (List.mem_of_getElem? (i := 58) rfl)
theorem r_40_6 {M : Mem} (h : St M) : mR M 40 6 = some 43 := h.2 (40, 6, 43) (List.mem_of_getElem? (i := 59) rfl)
theorem r_40_7 {M : Mem} (h : St M) : mR M 40 7 = some 44 := h.2 (40, 7, 44) (List.mem_of_getElem? (i := 60) rfl)
theorem r_40_8 {M : Mem} (h : St M) : mR M 40 8 = some 45 := h.2 (40, 8, 45) (List.mem_of_getElem? (i := 61) rfl)
theorem r_46_0 {M : Mem} (h : St M) : mR M 46 0 = some 1 := h.2 (46, 0, 1) (List.mem_of_getElem? (i := 62) rfl)
theorem r_46_1 {M : Mem} (h : St M) : mR M 46 1 = some 32 := h.2 (46, 1, 32) (List.mem_of_getElem? (i := 63) rfl)
theorem r_46_2 {M : Mem} (h : St M) : mR M 46 2 = some 47 := h.2 (46, 2, 47) (List.mem_of_getElem? (i := 64) rfl)
theorem r_46_3 {M : Mem} (h : St M) : mR M 46 3 = some 48 := h.2 (46, 3, 48) (List.mem_of_getElem? (i := 65) rfl)
theorem r_46_4 {M : Mem} (h : St M) : mR M 46 4 = some 49 := h.2 (46, 4, 49) (List.mem_of_getElem? (i := 66) rfl)
theorem r_50_0 {M : Mem} (h : St M) : mR M 50 0 = some 1 := h.2 (50, 0, 1) (List.mem_of_getElem? (i := 67) rfl)
theorem r_50_1 {M : Mem} (h : St M) : mR M 50 1 = some 51 := h.2 (50, 1, 51) (List.mem_of_getElem? (i := 68) rfl)
theorem r_50_2 {M : Mem} (h : St M) : mR M 50 2 = some 52 := h.2 (50, 2, 52) (List.mem_of_getElem? (i := 69) rfl)
theorem r_50_3 {M : Mem} (h : St M) : mR M 50 3 = some 53 := h.2 (50, 3, 53) (List.mem_of_getElem? (i := 70) rfl)
theorem r_54_0 {M : Mem} (h : St M) : mR M 54 0 = some 55 := h.2 (54, 0, 55) (List.mem_of_getElem? (i := 71) rfl)
theorem r_54_1 {M : Mem} (h : St M) : mR M 54 1 = some 56 := h.2 (54, 1, 56) (List.mem_of_getElem? (i := 72) rfl)
theorem r_54_2 {M : Mem} (h : St M) : mR M 54 2 = some 57 := h.2 (54, 2, 57) (List.mem_of_getElem? (i := 73) rfl)
theorem r_54_3 {M : Mem} (h : St M) : mR M 54 3 = some 58 := h.2 (54, 3, 58) (List.mem_of_getElem? (i := 74) rfl)
theorem r_54_5 {M : Mem} (h : St M) : mR M 54 5 = some 59 := h.2 (54, 5, 59) (List.mem_of_getElem? (i := 75) rfl)
theorem r_54_17 {M : Mem} (h : St M) : mR M 54 17 = some 60 := h.2 (54, 17, 60) (List.mem_of_getElem? (i := 76) rfl)
theorem r_54_22 {M : Mem} (h : St M) : mR M 54 22 = some 61 := h.2 (54, 22, 61) (List.mem_of_getElem? (i := 77) rfl)
theorem r_54_23 {M : Mem} (h : St M) : mR M 54 23 = some 62 := h.2 (54, 23, 62) (List.mem_of_getElem? (i := 78) rfl)
theorem r_54_31 {M : Mem} (h : St M) : mR M 54 31 = some 63 := h.2 (54, 31, 63) (List.mem_of_getElem? (i := 79) rfl)
theorem r_54_33 {M : Mem} (h : St M) : mR M 54 33 = some 64 := h.2 (54, 33, 64) (List.mem_of_getElem? (i := 80) rfl)
theorem r_54_34 {M : Mem} (h : St M) : mR M 54 34 = some 65 := h.2 (54, 34, 65) (List.mem_of_getElem? (i := 81) rfl)
theorem r_54_35 {M : Mem} (h : St M) : mR M 54 35 = some 66 := h.2 (54, 35, 66) (List.mem_of_getElem? (i := 82) rfl)
theorem r_54_37 {M : Mem} (h : St M) : mR M 54 37 = some 67 := h.2 (54, 37, 67) (List.mem_of_getElem? (i := 83) rfl)
theorem r_54_38 {M : Mem} (h : St M) : mR M 54 38 = some 68 := h.2 (54, 38, 68) (List.mem_of_getElem? (i := 84) rfl)
theorem r_54_39 {M : Mem} (h : St M) : mR M 54 39 = some 69 := h.2 (54, 39, 69) (List.mem_of_getElem? (i := 85) rfl)
theorem r_54_40 {M : Mem} (h : St M) : mR M 54 40 = some 70 := h.2 (54, 40, 70) (List.mem_of_getElem? (i := 86) rfl)
theorem r_54_41 {M : Mem} (h : St M) : mR M 54 41 = some 71 := h.2 (54, 41, 71) (List.mem_of_getElem? (i := 87) rfl)
theorem r_54_42 {M : Mem} (h : St M) : mR M 54 42 = some 72 := h.2 (54, 42, 72) (List.mem_of_getElem? (i := 88) rfl)
theorem r_54_45 {M : Mem} (h : St M) : mR M 54 45 = some 73 := h.2 (54, 45, 73) (List.mem_of_getElem? (i := 89) rfl)
theorem r_54_46 {M : Mem} (h : St M) : mR M 54 46 = some 74 := h.2 (54, 46, 74) (List.mem_of_getElem? (i := 90) rfl)
theorem St.I {M : Mem} (h : St M) (k j : Nat) (v : Int) : St (sI M k j v) := h
theorem St.J {M : Mem} (h : St M) (k j : Nat) (v : Int) : St (sJ M k j v) := h
theorem St.C {M : Mem} (h : St M) (a b c d e : Nat) : St (cpI M a b c d e) := h
theorem St.T {M : Mem} (h : St M) (k j : Nat) (v : Option Nat) (hk : ∀ q ∈ ref0, q.1 ≠ k) : St (sR M k j v) := ⟨h.1, fun q hq => by rw [mR_sR, if_neg (fun e => hk q hq e.1)]; exact h.2 q hq⟩
theorem St.T7 {M : Mem} (h : St M) (j : Nat) (v : Option Nat) : St (sR M 7 j v) := h.T 7 j v (by decide)
theorem St.T14 {M : Mem} (h : St M) (j : Nat) (v : Option Nat) : St (sR M 14 j v) := h.T 14 j v (by decide)
/-- the texts that are kept are texts -/
def Tx (M : Mem) : Prop := ∀ (k j x : Nat), (k = 7 ∨ k = 14) → j < 4 → mR M k j = some x → M.1[x]? = some (.inl 5)
