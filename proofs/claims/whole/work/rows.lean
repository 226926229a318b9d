section
-- ===== PART A: goes FIRST, ahead of the names: the tables' words, and 'selects' of the private methods out of them =====
/-- a private method of a class that the tables say can be made, by its rows of tables_1 -/
def lw_okq (q : MethodName × Nat) : Prop := (q.1.cls ≠ "java/lang/invoke/MethodHandle" ∧ q.1.cls ≠ "java/lang/invoke/VarHandle") ∧ Cond.instantiable q.1.cls q.2 ∈ tables_1 ∧ Cond.privateMethod q.1 ∈ tables_1 ∧ Cond.instanceMethod q.1 ∈ tables_1
theorem lw_p0 : lw_okq (⟨"SecondLeft$Town", "putTurns", "(II)I"⟩, 12) := ⟨⟨by decide +kernel, by decide +kernel⟩, List.mem_of_getElem? (i := 31) (by decide +kernel), List.mem_of_getElem? (i := 476) (by decide +kernel), List.mem_of_getElem? (i := 477) (by decide +kernel)⟩
theorem lw_p1 : lw_okq (⟨"SecondLeft", "putBytes", "(I)V"⟩, 16) := ⟨⟨by decide +kernel, by decide +kernel⟩, List.mem_of_getElem? (i := 23) (by decide +kernel), List.mem_of_getElem? (i := 489) (by decide +kernel), List.mem_of_getElem? (i := 490) (by decide +kernel)⟩
theorem lw_p2 : lw_okq (⟨"SecondLeft$Reader", "part", "(I)V"⟩, 15) := ⟨⟨by decide +kernel, by decide +kernel⟩, List.mem_of_getElem? (i := 120) (by decide +kernel), List.mem_of_getElem? (i := 508) (by decide +kernel), List.mem_of_getElem? (i := 509) (by decide +kernel)⟩
theorem lw_p3 : lw_okq (⟨"SecondLeft$Reader", "endOfToken", "(II)I"⟩, 15) := ⟨⟨by decide +kernel, by decide +kernel⟩, List.mem_of_getElem? (i := 120) (by decide +kernel), List.mem_of_getElem? (i := 512) (by decide +kernel), List.mem_of_getElem? (i := 513) (by decide +kernel)⟩
theorem lw_p4 : lw_okq (⟨"SecondLeft$Reader", "setToken", "(III)V"⟩, 15) := ⟨⟨by decide +kernel, by decide +kernel⟩, List.mem_of_getElem? (i := 120) (by decide +kernel), List.mem_of_getElem? (i := 525) (by decide +kernel), List.mem_of_getElem? (i := 526) (by decide +kernel)⟩
theorem lw_p5 : lw_okq (⟨"SecondLeft$Reader", "wordOf", "(II)I"⟩, 15) := ⟨⟨by decide +kernel, by decide +kernel⟩, List.mem_of_getElem? (i := 120) (by decide +kernel), List.mem_of_getElem? (i := 529) (by decide +kernel), List.mem_of_getElem? (i := 530) (by decide +kernel)⟩
theorem lw_p6 : lw_okq (⟨"SecondLeft$Reader", "numberOf", "(II)I"⟩, 15) := ⟨⟨by decide +kernel, by decide +kernel⟩, List.mem_of_getElem? (i := 120) (by decide +kernel), List.mem_of_getElem? (i := 582) (by decide +kernel), List.mem_of_getElem? (i := 583) (by decide +kernel)⟩
theorem lw_p7 : lw_okq (⟨"SecondLeft$Reader", "takeToken", "()Z"⟩, 15) := ⟨⟨by decide +kernel, by decide +kernel⟩, List.mem_of_getElem? (i := 120) (by decide +kernel), List.mem_of_getElem? (i := 587) (by decide +kernel), List.mem_of_getElem? (i := 588) (by decide +kernel)⟩
theorem lw_p8 : lw_okq (⟨"SecondLeft$Reader", "readClause", "()Z"⟩, 15) := ⟨⟨by decide +kernel, by decide +kernel⟩, List.mem_of_getElem? (i := 120) (by decide +kernel), List.mem_of_getElem? (i := 591) (by decide +kernel), List.mem_of_getElem? (i := 592) (by decide +kernel)⟩
theorem lw_p9 : lw_okq (⟨"SecondLeft$Reader", "failed", "(I)Z"⟩, 15) := ⟨⟨by decide +kernel, by decide +kernel⟩, List.mem_of_getElem? (i := 120) (by decide +kernel), List.mem_of_getElem? (i := 595) (by decide +kernel), List.mem_of_getElem? (i := 596) (by decide +kernel)⟩
theorem lw_p10 : lw_okq (⟨"SecondLeft$Reader", "keep", "(II)V"⟩, 15) := ⟨⟨by decide +kernel, by decide +kernel⟩, List.mem_of_getElem? (i := 120) (by decide +kernel), List.mem_of_getElem? (i := 599) (by decide +kernel), List.mem_of_getElem? (i := 600) (by decide +kernel)⟩
theorem lw_p11 : lw_okq (⟨"SecondLeft$Reader", "beginLaw", "(I)Z"⟩, 15) := ⟨⟨by decide +kernel, by decide +kernel⟩, List.mem_of_getElem? (i := 120) (by decide +kernel), List.mem_of_getElem? (i := 603) (by decide +kernel), List.mem_of_getElem? (i := 604) (by decide +kernel)⟩
theorem lw_p12 : lw_okq (⟨"SecondLeft$Reader", "readSum", "(I)Z"⟩, 15) := ⟨⟨by decide +kernel, by decide +kernel⟩, List.mem_of_getElem? (i := 120) (by decide +kernel), List.mem_of_getElem? (i := 607) (by decide +kernel), List.mem_of_getElem? (i := 608) (by decide +kernel)⟩
theorem lw_p13 : lw_okq (⟨"SecondLeft$Reader", "readProduct", "(I)Z"⟩, 15) := ⟨⟨by decide +kernel, by decide +kernel⟩, List.mem_of_getElem? (i := 120) (by decide +kernel), List.mem_of_getElem? (i := 611) (by decide +kernel), List.mem_of_getElem? (i := 612) (by decide +kernel)⟩
theorem lw_p14 : lw_okq (⟨"SecondLeft$Reader", "readOne", "(I)Z"⟩, 15) := ⟨⟨by decide +kernel, by decide +kernel⟩, List.mem_of_getElem? (i := 120) (by decide +kernel), List.mem_of_getElem? (i := 615) (by decide +kernel), List.mem_of_getElem? (i := 616) (by decide +kernel)⟩
theorem lw_p15 : lw_okq (⟨"SecondLeft$Reader", "emit", "(I)Z"⟩, 15) := ⟨⟨by decide +kernel, by decide +kernel⟩, List.mem_of_getElem? (i := 120) (by decide +kernel), List.mem_of_getElem? (i := 619) (by decide +kernel), List.mem_of_getElem? (i := 620) (by decide +kernel)⟩
def lw_privs_1 : List (MethodName × Nat) := [(⟨"SecondLeft$Town", "putTurns", "(II)I"⟩, 12), (⟨"SecondLeft", "putBytes", "(I)V"⟩, 16), (⟨"SecondLeft$Reader", "part", "(I)V"⟩, 15), (⟨"SecondLeft$Reader", "endOfToken", "(II)I"⟩, 15), (⟨"SecondLeft$Reader", "setToken", "(III)V"⟩, 15), (⟨"SecondLeft$Reader", "wordOf", "(II)I"⟩, 15), (⟨"SecondLeft$Reader", "numberOf", "(II)I"⟩, 15), (⟨"SecondLeft$Reader", "takeToken", "()Z"⟩, 15), (⟨"SecondLeft$Reader", "readClause", "()Z"⟩, 15), (⟨"SecondLeft$Reader", "failed", "(I)Z"⟩, 15), (⟨"SecondLeft$Reader", "keep", "(II)V"⟩, 15), (⟨"SecondLeft$Reader", "beginLaw", "(I)Z"⟩, 15), (⟨"SecondLeft$Reader", "readSum", "(I)Z"⟩, 15), (⟨"SecondLeft$Reader", "readProduct", "(I)Z"⟩, 15), (⟨"SecondLeft$Reader", "readOne", "(I)Z"⟩, 15), (⟨"SecondLeft$Reader", "emit", "(I)Z"⟩, 15)]
theorem lw_r1 : ∀ q ∈ lw_privs_1, lw_okq q := List.forall_mem_cons.mpr ⟨lw_p0, List.forall_mem_cons.mpr ⟨lw_p1, List.forall_mem_cons.mpr ⟨lw_p2, List.forall_mem_cons.mpr ⟨lw_p3, List.forall_mem_cons.mpr ⟨lw_p4, List.forall_mem_cons.mpr ⟨lw_p5, List.forall_mem_cons.mpr ⟨lw_p6, List.forall_mem_cons.mpr ⟨lw_p7, List.forall_mem_cons.mpr ⟨lw_p8, List.forall_mem_cons.mpr ⟨lw_p9, List.forall_mem_cons.mpr ⟨lw_p10, List.forall_mem_cons.mpr ⟨lw_p11, List.forall_mem_cons.mpr ⟨lw_p12, List.forall_mem_cons.mpr ⟨lw_p13, List.forall_mem_cons.mpr ⟨lw_p14, List.forall_mem_cons.mpr ⟨lw_p15, fun _ h => absurd h List.not_mem_nil⟩⟩⟩⟩⟩⟩⟩⟩⟩⟩⟩⟩⟩⟩⟩⟩
theorem lw_p16 : lw_okq (⟨"SecondLeft$Reader", "isSign", "(I)Z"⟩, 15) := ⟨⟨by decide +kernel, by decide +kernel⟩, List.mem_of_getElem? (i := 120) (by decide +kernel), List.mem_of_getElem? (i := 623) (by decide +kernel), List.mem_of_getElem? (i := 624) (by decide +kernel)⟩
theorem lw_p17 : lw_okq (⟨"SecondLeft$Reader", "readWord", "(I)Z"⟩, 15) := ⟨⟨by decide +kernel, by decide +kernel⟩, List.mem_of_getElem? (i := 120) (by decide +kernel), List.mem_of_getElem? (i := 627) (by decide +kernel), List.mem_of_getElem? (i := 628) (by decide +kernel)⟩
theorem lw_p18 : lw_okq (⟨"SecondLeft$Reader", "readSign", "(I)Z"⟩, 15) := ⟨⟨by decide +kernel, by decide +kernel⟩, List.mem_of_getElem? (i := 120) (by decide +kernel), List.mem_of_getElem? (i := 631) (by decide +kernel), List.mem_of_getElem? (i := 632) (by decide +kernel)⟩
theorem lw_p19 : lw_okq (⟨"SecondLeft$Reader", "endLaw", "(I)Z"⟩, 15) := ⟨⟨by decide +kernel, by decide +kernel⟩, List.mem_of_getElem? (i := 120) (by decide +kernel), List.mem_of_getElem? (i := 635) (by decide +kernel), List.mem_of_getElem? (i := 636) (by decide +kernel)⟩
theorem lw_p20 : lw_okq (⟨"SecondLeft$Reader", "readDeed", "(I)Z"⟩, 15) := ⟨⟨by decide +kernel, by decide +kernel⟩, List.mem_of_getElem? (i := 120) (by decide +kernel), List.mem_of_getElem? (i := 639) (by decide +kernel), List.mem_of_getElem? (i := 640) (by decide +kernel)⟩
theorem lw_p21 : lw_okq (⟨"SecondLeft$Reader", "readNumber", "(III)Z"⟩, 15) := ⟨⟨by decide +kernel, by decide +kernel⟩, List.mem_of_getElem? (i := 120) (by decide +kernel), List.mem_of_getElem? (i := 643) (by decide +kernel), List.mem_of_getElem? (i := 644) (by decide +kernel)⟩
theorem lw_p22 : lw_okq (⟨"SecondLeft$Reader", "readCorner", "(I)Z"⟩, 15) := ⟨⟨by decide +kernel, by decide +kernel⟩, List.mem_of_getElem? (i := 120) (by decide +kernel), List.mem_of_getElem? (i := 647) (by decide +kernel), List.mem_of_getElem? (i := 648) (by decide +kernel)⟩
theorem lw_p23 : lw_okq (⟨"SecondLeft$Reader", "readFacing", "()Z"⟩, 15) := ⟨⟨by decide +kernel, by decide +kernel⟩, List.mem_of_getElem? (i := 120) (by decide +kernel), List.mem_of_getElem? (i := 651) (by decide +kernel), List.mem_of_getElem? (i := 652) (by decide +kernel)⟩
theorem lw_p24 : lw_okq (⟨"SecondLeft$Reader", "readTurns", "()Z"⟩, 15) := ⟨⟨by decide +kernel, by decide +kernel⟩, List.mem_of_getElem? (i := 120) (by decide +kernel), List.mem_of_getElem? (i := 655) (by decide +kernel), List.mem_of_getElem? (i := 656) (by decide +kernel)⟩
theorem lw_p25 : lw_okq (⟨"SecondLeft$Reader", "readTurn", "(I)I"⟩, 15) := ⟨⟨by decide +kernel, by decide +kernel⟩, List.mem_of_getElem? (i := 120) (by decide +kernel), List.mem_of_getElem? (i := 659) (by decide +kernel), List.mem_of_getElem? (i := 660) (by decide +kernel)⟩
theorem lw_p26 : lw_okq (⟨"SecondLeft$Reader", "readSideTo", "(I)Z"⟩, 15) := ⟨⟨by decide +kernel, by decide +kernel⟩, List.mem_of_getElem? (i := 120) (by decide +kernel), List.mem_of_getElem? (i := 663) (by decide +kernel), List.mem_of_getElem? (i := 664) (by decide +kernel)⟩
theorem lw_p27 : lw_okq (⟨"SecondLeft$Walker", "place", "(III)V"⟩, 4) := ⟨⟨by decide +kernel, by decide +kernel⟩, List.mem_of_getElem? (i := 226) (by decide +kernel), List.mem_of_getElem? (i := 735) (by decide +kernel), List.mem_of_getElem? (i := 736) (by decide +kernel)⟩
theorem lw_p28 : lw_okq (⟨"SecondLeft$Walker", "goAhead", "()V"⟩, 4) := ⟨⟨by decide +kernel, by decide +kernel⟩, List.mem_of_getElem? (i := 226) (by decide +kernel), List.mem_of_getElem? (i := 756) (by decide +kernel), List.mem_of_getElem? (i := 757) (by decide +kernel)⟩
theorem lw_p29 : lw_okq (⟨"SecondLeft$Walker", "isThere", "()Z"⟩, 4) := ⟨⟨by decide +kernel, by decide +kernel⟩, List.mem_of_getElem? (i := 226) (by decide +kernel), List.mem_of_getElem? (i := 813) (by decide +kernel), List.mem_of_getElem? (i := 814) (by decide +kernel)⟩
theorem lw_p30 : lw_okq (⟨"SecondLeft$Walker", "faceTo", "(I)V"⟩, 4) := ⟨⟨by decide +kernel, by decide +kernel⟩, List.mem_of_getElem? (i := 226) (by decide +kernel), List.mem_of_getElem? (i := 817) (by decide +kernel), List.mem_of_getElem? (i := 818) (by decide +kernel)⟩
theorem lw_p31 : lw_okq (⟨"SecondLeft$Walker", "hear", "(I)V"⟩, 4) := ⟨⟨by decide +kernel, by decide +kernel⟩, List.mem_of_getElem? (i := 226) (by decide +kernel), List.mem_of_getElem? (i := 837) (by decide +kernel), List.mem_of_getElem? (i := 838) (by decide +kernel)⟩
def lw_privs_2 : List (MethodName × Nat) := [(⟨"SecondLeft$Reader", "isSign", "(I)Z"⟩, 15), (⟨"SecondLeft$Reader", "readWord", "(I)Z"⟩, 15), (⟨"SecondLeft$Reader", "readSign", "(I)Z"⟩, 15), (⟨"SecondLeft$Reader", "endLaw", "(I)Z"⟩, 15), (⟨"SecondLeft$Reader", "readDeed", "(I)Z"⟩, 15), (⟨"SecondLeft$Reader", "readNumber", "(III)Z"⟩, 15), (⟨"SecondLeft$Reader", "readCorner", "(I)Z"⟩, 15), (⟨"SecondLeft$Reader", "readFacing", "()Z"⟩, 15), (⟨"SecondLeft$Reader", "readTurns", "()Z"⟩, 15), (⟨"SecondLeft$Reader", "readTurn", "(I)I"⟩, 15), (⟨"SecondLeft$Reader", "readSideTo", "(I)Z"⟩, 15), (⟨"SecondLeft$Walker", "place", "(III)V"⟩, 4), (⟨"SecondLeft$Walker", "goAhead", "()V"⟩, 4), (⟨"SecondLeft$Walker", "isThere", "()Z"⟩, 4), (⟨"SecondLeft$Walker", "faceTo", "(I)V"⟩, 4), (⟨"SecondLeft$Walker", "hear", "(I)V"⟩, 4)]
theorem lw_r2 : ∀ q ∈ lw_privs_2, lw_okq q := List.forall_mem_cons.mpr ⟨lw_p16, List.forall_mem_cons.mpr ⟨lw_p17, List.forall_mem_cons.mpr ⟨lw_p18, List.forall_mem_cons.mpr ⟨lw_p19, List.forall_mem_cons.mpr ⟨lw_p20, List.forall_mem_cons.mpr ⟨lw_p21, List.forall_mem_cons.mpr ⟨lw_p22, List.forall_mem_cons.mpr ⟨lw_p23, List.forall_mem_cons.mpr ⟨lw_p24, List.forall_mem_cons.mpr ⟨lw_p25, List.forall_mem_cons.mpr ⟨lw_p26, List.forall_mem_cons.mpr ⟨lw_p27, List.forall_mem_cons.mpr ⟨lw_p28, List.forall_mem_cons.mpr ⟨lw_p29, List.forall_mem_cons.mpr ⟨lw_p30, List.forall_mem_cons.mpr ⟨lw_p31, fun _ h => absurd h List.not_mem_nil⟩⟩⟩⟩⟩⟩⟩⟩⟩⟩⟩⟩⟩⟩⟩⟩
theorem lw_p32 : lw_okq (⟨"SecondLeft$Laws", "nameTeller", "(I)V"⟩, 4) := ⟨⟨by decide +kernel, by decide +kernel⟩, List.mem_of_getElem? (i := 174) (by decide +kernel), List.mem_of_getElem? (i := 845) (by decide +kernel), List.mem_of_getElem? (i := 846) (by decide +kernel)⟩
theorem lw_p33 : lw_okq (⟨"SecondLeft$Walker", "does", "([II)Z"⟩, 4) := ⟨⟨by decide +kernel, by decide +kernel⟩, List.mem_of_getElem? (i := 226) (by decide +kernel), List.mem_of_getElem? (i := 907) (by decide +kernel), List.mem_of_getElem? (i := 908) (by decide +kernel)⟩
theorem lw_p34 : lw_okq (⟨"SecondLeft$Walker", "drawn", "(I)V"⟩, 4) := ⟨⟨by decide +kernel, by decide +kernel⟩, List.mem_of_getElem? (i := 226) (by decide +kernel), List.mem_of_getElem? (i := 932) (by decide +kernel), List.mem_of_getElem? (i := 933) (by decide +kernel)⟩
theorem lw_p35 : lw_okq (⟨"SecondLeft$Walker", "hearLowest", "()V"⟩, 4) := ⟨⟨by decide +kernel, by decide +kernel⟩, List.mem_of_getElem? (i := 226) (by decide +kernel), List.mem_of_getElem? (i := 936) (by decide +kernel), List.mem_of_getElem? (i := 937) (by decide +kernel)⟩
theorem lw_p36 : lw_okq (⟨"SecondLeft$Ways", "setWeights", "(I)V"⟩, 8) := ⟨⟨by decide +kernel, by decide +kernel⟩, List.mem_of_getElem? (i := 245) (by decide +kernel), List.mem_of_getElem? (i := 1001) (by decide +kernel), List.mem_of_getElem? (i := 1002) (by decide +kernel)⟩
theorem lw_p37 : lw_okq (⟨"SecondLeft$Visits", "nearest", "(II)I"⟩, 11) := ⟨⟨by decide +kernel, by decide +kernel⟩, List.mem_of_getElem? (i := 282) (by decide +kernel), List.mem_of_getElem? (i := 1074) (by decide +kernel), List.mem_of_getElem? (i := 1075) (by decide +kernel)⟩
theorem lw_p38 : lw_okq (⟨"SecondLeft$Visits", "lookAround", "(II)V"⟩, 11) := ⟨⟨by decide +kernel, by decide +kernel⟩, List.mem_of_getElem? (i := 282) (by decide +kernel), List.mem_of_getElem? (i := 1082) (by decide +kernel), List.mem_of_getElem? (i := 1083) (by decide +kernel)⟩
theorem lw_p39 : lw_okq (⟨"SecondLeft$Visits", "listPlaces", "()Z"⟩, 11) := ⟨⟨by decide +kernel, by decide +kernel⟩, List.mem_of_getElem? (i := 282) (by decide +kernel), List.mem_of_getElem? (i := 1096) (by decide +kernel), List.mem_of_getElem? (i := 1097) (by decide +kernel)⟩
theorem lw_p40 : lw_okq (⟨"SecondLeft$Visits", "tryOrders", "(IIIJJ)V"⟩, 11) := ⟨⟨by decide +kernel, by decide +kernel⟩, List.mem_of_getElem? (i := 282) (by decide +kernel), List.mem_of_getElem? (i := 1103) (by decide +kernel), List.mem_of_getElem? (i := 1104) (by decide +kernel)⟩
theorem lw_p41 : lw_okq (⟨"SecondLeft$Visits", "sumFrom", "(I)J"⟩, 11) := ⟨⟨by decide +kernel, by decide +kernel⟩, List.mem_of_getElem? (i := 282) (by decide +kernel), List.mem_of_getElem? (i := 1118) (by decide +kernel), List.mem_of_getElem? (i := 1119) (by decide +kernel)⟩
theorem lw_p42 : lw_okq (⟨"SecondLeft$Finder", "tries", "(III)Z"⟩, 5) := ⟨⟨by decide +kernel, by decide +kernel⟩, List.mem_of_getElem? (i := 325) (by decide +kernel), List.mem_of_getElem? (i := 1163) (by decide +kernel), List.mem_of_getElem? (i := 1164) (by decide +kernel)⟩
theorem lw_p43 : lw_okq (⟨"SecondLeft$Finder", "allGo", "(IIIZ)Z"⟩, 5) := ⟨⟨by decide +kernel, by decide +kernel⟩, List.mem_of_getElem? (i := 325) (by decide +kernel), List.mem_of_getElem? (i := 1170) (by decide +kernel), List.mem_of_getElem? (i := 1171) (by decide +kernel)⟩
theorem lw_p44 : lw_okq (⟨"SecondLeft$Finder", "after", "(III)I"⟩, 5) := ⟨⟨by decide +kernel, by decide +kernel⟩, List.mem_of_getElem? (i := 325) (by decide +kernel), List.mem_of_getElem? (i := 1175) (by decide +kernel), List.mem_of_getElem? (i := 1176) (by decide +kernel)⟩
theorem lw_p45 : lw_okq (⟨"SecondLeft$Finder", "endsAtGoal", "(IZ)Z"⟩, 5) := ⟨⟨by decide +kernel, by decide +kernel⟩, List.mem_of_getElem? (i := 325) (by decide +kernel), List.mem_of_getElem? (i := 1184) (by decide +kernel), List.mem_of_getElem? (i := 1185) (by decide +kernel)⟩
theorem lw_p46 : lw_okq (⟨"SecondLeft$Posts", "countStreets", "()V"⟩, 6) := ⟨⟨by decide +kernel, by decide +kernel⟩, List.mem_of_getElem? (i := 348) (by decide +kernel), List.mem_of_getElem? (i := 1211) (by decide +kernel), List.mem_of_getElem? (i := 1212) (by decide +kernel)⟩
theorem lw_p47 : lw_okq (⟨"SecondLeft$Posts", "towards", "(II)I"⟩, 6) := ⟨⟨by decide +kernel, by decide +kernel⟩, List.mem_of_getElem? (i := 348) (by decide +kernel), List.mem_of_getElem? (i := 1216) (by decide +kernel), List.mem_of_getElem? (i := 1217) (by decide +kernel)⟩
def lw_privs_3 : List (MethodName × Nat) := [(⟨"SecondLeft$Laws", "nameTeller", "(I)V"⟩, 4), (⟨"SecondLeft$Walker", "does", "([II)Z"⟩, 4), (⟨"SecondLeft$Walker", "drawn", "(I)V"⟩, 4), (⟨"SecondLeft$Walker", "hearLowest", "()V"⟩, 4), (⟨"SecondLeft$Ways", "setWeights", "(I)V"⟩, 8), (⟨"SecondLeft$Visits", "nearest", "(II)I"⟩, 11), (⟨"SecondLeft$Visits", "lookAround", "(II)V"⟩, 11), (⟨"SecondLeft$Visits", "listPlaces", "()Z"⟩, 11), (⟨"SecondLeft$Visits", "tryOrders", "(IIIJJ)V"⟩, 11), (⟨"SecondLeft$Visits", "sumFrom", "(I)J"⟩, 11), (⟨"SecondLeft$Finder", "tries", "(III)Z"⟩, 5), (⟨"SecondLeft$Finder", "allGo", "(IIIZ)Z"⟩, 5), (⟨"SecondLeft$Finder", "after", "(III)I"⟩, 5), (⟨"SecondLeft$Finder", "endsAtGoal", "(IZ)Z"⟩, 5), (⟨"SecondLeft$Posts", "countStreets", "()V"⟩, 6), (⟨"SecondLeft$Posts", "towards", "(II)I"⟩, 6)]
theorem lw_r3 : ∀ q ∈ lw_privs_3, lw_okq q := List.forall_mem_cons.mpr ⟨lw_p32, List.forall_mem_cons.mpr ⟨lw_p33, List.forall_mem_cons.mpr ⟨lw_p34, List.forall_mem_cons.mpr ⟨lw_p35, List.forall_mem_cons.mpr ⟨lw_p36, List.forall_mem_cons.mpr ⟨lw_p37, List.forall_mem_cons.mpr ⟨lw_p38, List.forall_mem_cons.mpr ⟨lw_p39, List.forall_mem_cons.mpr ⟨lw_p40, List.forall_mem_cons.mpr ⟨lw_p41, List.forall_mem_cons.mpr ⟨lw_p42, List.forall_mem_cons.mpr ⟨lw_p43, List.forall_mem_cons.mpr ⟨lw_p44, List.forall_mem_cons.mpr ⟨lw_p45, List.forall_mem_cons.mpr ⟨lw_p46, List.forall_mem_cons.mpr ⟨lw_p47, fun _ h => absurd h List.not_mem_nil⟩⟩⟩⟩⟩⟩⟩⟩⟩⟩⟩⟩⟩⟩⟩⟩
theorem lw_p48 : lw_okq (⟨"SecondLeft$Posts", "setOnward", "()V"⟩, 6) := ⟨⟨by decide +kernel, by decide +kernel⟩, List.mem_of_getElem? (i := 348) (by decide +kernel), List.mem_of_getElem? (i := 1221) (by decide +kernel), List.mem_of_getElem? (i := 1222) (by decide +kernel)⟩
theorem lw_p49 : lw_okq (⟨"SecondLeft$Posts", "firstThatServes", "(I)I"⟩, 6) := ⟨⟨by decide +kernel, by decide +kernel⟩, List.mem_of_getElem? (i := 348) (by decide +kernel), List.mem_of_getElem? (i := 1228) (by decide +kernel), List.mem_of_getElem? (i := 1229) (by decide +kernel)⟩
theorem lw_p50 : lw_okq (⟨"SecondLeft$Posts", "allCome", "(I)Z"⟩, 6) := ⟨⟨by decide +kernel, by decide +kernel⟩, List.mem_of_getElem? (i := 348) (by decide +kernel), List.mem_of_getElem? (i := 1233) (by decide +kernel), List.mem_of_getElem? (i := 1234) (by decide +kernel)⟩
theorem lw_p51 : lw_okq (⟨"SecondLeft$Posts", "comes", "(II)Z"⟩, 6) := ⟨⟨by decide +kernel, by decide +kernel⟩, List.mem_of_getElem? (i := 348) (by decide +kernel), List.mem_of_getElem? (i := 1237) (by decide +kernel), List.mem_of_getElem? (i := 1238) (by decide +kernel)⟩
theorem lw_p52 : lw_okq (⟨"SecondLeftModel", "isCorner", "(I)Z"⟩, 47) := ⟨⟨by decide +kernel, by decide +kernel⟩, List.mem_of_getElem? (i := 1273) (by decide +kernel), List.mem_of_getElem? (i := 1436) (by decide +kernel), List.mem_of_getElem? (i := 1437) (by decide +kernel)⟩
theorem lw_p53 : lw_okq (⟨"SecondLeftModel", "streetOf", "(II)I"⟩, 47) := ⟨⟨by decide +kernel, by decide +kernel⟩, List.mem_of_getElem? (i := 1273) (by decide +kernel), List.mem_of_getElem? (i := 1440) (by decide +kernel), List.mem_of_getElem? (i := 1441) (by decide +kernel)⟩
theorem lw_p54 : lw_okq (⟨"SecondLeftModel", "isTeller", "(I)Z"⟩, 47) := ⟨⟨by decide +kernel, by decide +kernel⟩, List.mem_of_getElem? (i := 1273) (by decide +kernel), List.mem_of_getElem? (i := 1456) (by decide +kernel), List.mem_of_getElem? (i := 1457) (by decide +kernel)⟩
theorem lw_p55 : lw_okq (⟨"SecondLeftModel", "take", "(I)Z"⟩, 47) := ⟨⟨by decide +kernel, by decide +kernel⟩, List.mem_of_getElem? (i := 1273) (by decide +kernel), List.mem_of_getElem? (i := 1460) (by decide +kernel), List.mem_of_getElem? (i := 1461) (by decide +kernel)⟩
theorem lw_p56 : lw_okq (⟨"SecondLeftModel", "tellNow", "(II)I"⟩, 47) := ⟨⟨by decide +kernel, by decide +kernel⟩, List.mem_of_getElem? (i := 1273) (by decide +kernel), List.mem_of_getElem? (i := 1469) (by decide +kernel), List.mem_of_getElem? (i := 1470) (by decide +kernel)⟩
theorem lw_p57 : lw_okq (⟨"SecondLeftModel", "four", "(I)V"⟩, 47) := ⟨⟨by decide +kernel, by decide +kernel⟩, List.mem_of_getElem? (i := 1273) (by decide +kernel), List.mem_of_getElem? (i := 1477) (by decide +kernel), List.mem_of_getElem? (i := 1478) (by decide +kernel)⟩
theorem lw_p58 : lw_okq (⟨"SecondLeftModel", "readText", "()I"⟩, 47) := ⟨⟨by decide +kernel, by decide +kernel⟩, List.mem_of_getElem? (i := 1273) (by decide +kernel), List.mem_of_getElem? (i := 1489) (by decide +kernel), List.mem_of_getElem? (i := 1490) (by decide +kernel)⟩
theorem lw_p59 : lw_okq (⟨"SecondLeftModel", "nextToken", "()V"⟩, 47) := ⟨⟨by decide +kernel, by decide +kernel⟩, List.mem_of_getElem? (i := 1273) (by decide +kernel), List.mem_of_getElem? (i := 1493) (by decide +kernel), List.mem_of_getElem? (i := 1494) (by decide +kernel)⟩
theorem lw_p60 : lw_okq (⟨"SecondLeftModel", "byteAt", "(I)I"⟩, 47) := ⟨⟨by decide +kernel, by decide +kernel⟩, List.mem_of_getElem? (i := 1273) (by decide +kernel), List.mem_of_getElem? (i := 1497) (by decide +kernel), List.mem_of_getElem? (i := 1498) (by decide +kernel)⟩
theorem lw_p61 : lw_okq (⟨"SecondLeftModel", "clause", "()I"⟩, 47) := ⟨⟨by decide +kernel, by decide +kernel⟩, List.mem_of_getElem? (i := 1273) (by decide +kernel), List.mem_of_getElem? (i := 1512) (by decide +kernel), List.mem_of_getElem? (i := 1513) (by decide +kernel)⟩
theorem lw_p62 : lw_okq (⟨"SecondLeftModel", "sortOf", "()I"⟩, 47) := ⟨⟨by decide +kernel, by decide +kernel⟩, List.mem_of_getElem? (i := 1273) (by decide +kernel), List.mem_of_getElem? (i := 1516) (by decide +kernel), List.mem_of_getElem? (i := 1517) (by decide +kernel)⟩
theorem lw_p63 : lw_okq (⟨"SecondLeftModel", "isWord", "(J)Z"⟩, 47) := ⟨⟨by decide +kernel, by decide +kernel⟩, List.mem_of_getElem? (i := 1273) (by decide +kernel), List.mem_of_getElem? (i := 1532) (by decide +kernel), List.mem_of_getElem? (i := 1533) (by decide +kernel)⟩
def lw_privs_4 : List (MethodName × Nat) := [(⟨"SecondLeft$Posts", "setOnward", "()V"⟩, 6), (⟨"SecondLeft$Posts", "firstThatServes", "(I)I"⟩, 6), (⟨"SecondLeft$Posts", "allCome", "(I)Z"⟩, 6), (⟨"SecondLeft$Posts", "comes", "(II)Z"⟩, 6), (⟨"SecondLeftModel", "isCorner", "(I)Z"⟩, 47), (⟨"SecondLeftModel", "streetOf", "(II)I"⟩, 47), (⟨"SecondLeftModel", "isTeller", "(I)Z"⟩, 47), (⟨"SecondLeftModel", "take", "(I)Z"⟩, 47), (⟨"SecondLeftModel", "tellNow", "(II)I"⟩, 47), (⟨"SecondLeftModel", "four", "(I)V"⟩, 47), (⟨"SecondLeftModel", "readText", "()I"⟩, 47), (⟨"SecondLeftModel", "nextToken", "()V"⟩, 47), (⟨"SecondLeftModel", "byteAt", "(I)I"⟩, 47), (⟨"SecondLeftModel", "clause", "()I"⟩, 47), (⟨"SecondLeftModel", "sortOf", "()I"⟩, 47), (⟨"SecondLeftModel", "isWord", "(J)Z"⟩, 47)]
theorem lw_r4 : ∀ q ∈ lw_privs_4, lw_okq q := List.forall_mem_cons.mpr ⟨lw_p48, List.forall_mem_cons.mpr ⟨lw_p49, List.forall_mem_cons.mpr ⟨lw_p50, List.forall_mem_cons.mpr ⟨lw_p51, List.forall_mem_cons.mpr ⟨lw_p52, List.forall_mem_cons.mpr ⟨lw_p53, List.forall_mem_cons.mpr ⟨lw_p54, List.forall_mem_cons.mpr ⟨lw_p55, List.forall_mem_cons.mpr ⟨lw_p56, List.forall_mem_cons.mpr ⟨lw_p57, List.forall_mem_cons.mpr ⟨lw_p58, List.forall_mem_cons.mpr ⟨lw_p59, List.forall_mem_cons.mpr ⟨lw_p60, List.forall_mem_cons.mpr ⟨lw_p61, List.forall_mem_cons.mpr ⟨lw_p62, List.forall_mem_cons.mpr ⟨lw_p63, fun _ h => absurd h List.not_mem_nil⟩⟩⟩⟩⟩⟩⟩⟩⟩⟩⟩⟩⟩⟩⟩⟩
theorem lw_p64 : lw_okq (⟨"SecondLeftModel", "body", "(II)I"⟩, 47) := ⟨⟨by decide +kernel, by decide +kernel⟩, List.mem_of_getElem? (i := 1273) (by decide +kernel), List.mem_of_getElem? (i := 1542) (by decide +kernel), List.mem_of_getElem? (i := 1543) (by decide +kernel)⟩
theorem lw_p65 : lw_okq (⟨"SecondLeftModel", "figure", "(III)I"⟩, 47) := ⟨⟨by decide +kernel, by decide +kernel⟩, List.mem_of_getElem? (i := 1273) (by decide +kernel), List.mem_of_getElem? (i := 1546) (by decide +kernel), List.mem_of_getElem? (i := 1547) (by decide +kernel)⟩
theorem lw_p66 : lw_okq (⟨"SecondLeftModel", "streetClause", "(I)I"⟩, 47) := ⟨⟨by decide +kernel, by decide +kernel⟩, List.mem_of_getElem? (i := 1273) (by decide +kernel), List.mem_of_getElem? (i := 1550) (by decide +kernel), List.mem_of_getElem? (i := 1551) (by decide +kernel)⟩
theorem lw_p67 : lw_okq (⟨"SecondLeftModel", "worded", "(JIII)I"⟩, 47) := ⟨⟨by decide +kernel, by decide +kernel⟩, List.mem_of_getElem? (i := 1273) (by decide +kernel), List.mem_of_getElem? (i := 1554) (by decide +kernel), List.mem_of_getElem? (i := 1555) (by decide +kernel)⟩
theorem lw_p68 : lw_okq (⟨"SecondLeftModel", "tellingClause", "(I)I"⟩, 47) := ⟨⟨by decide +kernel, by decide +kernel⟩, List.mem_of_getElem? (i := 1273) (by decide +kernel), List.mem_of_getElem? (i := 1558) (by decide +kernel), List.mem_of_getElem? (i := 1559) (by decide +kernel)⟩
theorem lw_p69 : lw_okq (⟨"SecondLeftModel", "oneTurn", "(II)I"⟩, 47) := ⟨⟨by decide +kernel, by decide +kernel⟩, List.mem_of_getElem? (i := 1273) (by decide +kernel), List.mem_of_getElem? (i := 1562) (by decide +kernel), List.mem_of_getElem? (i := 1563) (by decide +kernel)⟩
theorem lw_p70 : lw_okq (⟨"SecondLeftModel", "sideOf", "(J)I"⟩, 47) := ⟨⟨by decide +kernel, by decide +kernel⟩, List.mem_of_getElem? (i := 1273) (by decide +kernel), List.mem_of_getElem? (i := 1566) (by decide +kernel), List.mem_of_getElem? (i := 1567) (by decide +kernel)⟩
theorem lw_p71 : lw_okq (⟨"SecondLeftModel", "startClause", "(I)I"⟩, 47) := ⟨⟨by decide +kernel, by decide +kernel⟩, List.mem_of_getElem? (i := 1273) (by decide +kernel), List.mem_of_getElem? (i := 1570) (by decide +kernel), List.mem_of_getElem? (i := 1571) (by decide +kernel)⟩
theorem lw_p72 : lw_okq (⟨"SecondLeftModel", "turnClause", "(I)I"⟩, 47) := ⟨⟨by decide +kernel, by decide +kernel⟩, List.mem_of_getElem? (i := 1273) (by decide +kernel), List.mem_of_getElem? (i := 1574) (by decide +kernel), List.mem_of_getElem? (i := 1575) (by decide +kernel)⟩
theorem lw_p73 : lw_okq (⟨"SecondLeftModel", "lawClause", "(I)I"⟩, 47) := ⟨⟨by decide +kernel, by decide +kernel⟩, List.mem_of_getElem? (i := 1273) (by decide +kernel), List.mem_of_getElem? (i := 1578) (by decide +kernel), List.mem_of_getElem? (i := 1579) (by decide +kernel)⟩
theorem lw_p74 : lw_okq (⟨"SecondLeftModel", "summed", "()I"⟩, 47) := ⟨⟨by decide +kernel, by decide +kernel⟩, List.mem_of_getElem? (i := 1273) (by decide +kernel), List.mem_of_getElem? (i := 1582) (by decide +kernel), List.mem_of_getElem? (i := 1583) (by decide +kernel)⟩
theorem lw_p75 : lw_okq (⟨"SecondLeftModel", "behindOne", "()I"⟩, 47) := ⟨⟨by decide +kernel, by decide +kernel⟩, List.mem_of_getElem? (i := 1273) (by decide +kernel), List.mem_of_getElem? (i := 1586) (by decide +kernel), List.mem_of_getElem? (i := 1587) (by decide +kernel)⟩
theorem lw_p76 : lw_okq (⟨"SecondLeftModel", "settlePile", "(I)V"⟩, 47) := ⟨⟨by decide +kernel, by decide +kernel⟩, List.mem_of_getElem? (i := 1273) (by decide +kernel), List.mem_of_getElem? (i := 1593) (by decide +kernel), List.mem_of_getElem? (i := 1594) (by decide +kernel)⟩
theorem lw_p77 : lw_okq (⟨"SecondLeftModel", "emit", "(II)V"⟩, 47) := ⟨⟨by decide +kernel, by decide +kernel⟩, List.mem_of_getElem? (i := 1273) (by decide +kernel), List.mem_of_getElem? (i := 1597) (by decide +kernel), List.mem_of_getElem? (i := 1598) (by decide +kernel)⟩
theorem lw_p78 : lw_okq (⟨"SecondLeftModel", "openAt", "()I"⟩, 47) := ⟨⟨by decide +kernel, by decide +kernel⟩, List.mem_of_getElem? (i := 1273) (by decide +kernel), List.mem_of_getElem? (i := 1601) (by decide +kernel), List.mem_of_getElem? (i := 1602) (by decide +kernel)⟩
theorem lw_p79 : lw_okq (⟨"SecondLeftModel", "shut", "(I)V"⟩, 47) := ⟨⟨by decide +kernel, by decide +kernel⟩, List.mem_of_getElem? (i := 1273) (by decide +kernel), List.mem_of_getElem? (i := 1605) (by decide +kernel), List.mem_of_getElem? (i := 1606) (by decide +kernel)⟩
def lw_privs_5 : List (MethodName × Nat) := [(⟨"SecondLeftModel", "body", "(II)I"⟩, 47), (⟨"SecondLeftModel", "figure", "(III)I"⟩, 47), (⟨"SecondLeftModel", "streetClause", "(I)I"⟩, 47), (⟨"SecondLeftModel", "worded", "(JIII)I"⟩, 47), (⟨"SecondLeftModel", "tellingClause", "(I)I"⟩, 47), (⟨"SecondLeftModel", "oneTurn", "(II)I"⟩, 47), (⟨"SecondLeftModel", "sideOf", "(J)I"⟩, 47), (⟨"SecondLeftModel", "startClause", "(I)I"⟩, 47), (⟨"SecondLeftModel", "turnClause", "(I)I"⟩, 47), (⟨"SecondLeftModel", "lawClause", "(I)I"⟩, 47), (⟨"SecondLeftModel", "summed", "()I"⟩, 47), (⟨"SecondLeftModel", "behindOne", "()I"⟩, 47), (⟨"SecondLeftModel", "settlePile", "(I)V"⟩, 47), (⟨"SecondLeftModel", "emit", "(II)V"⟩, 47), (⟨"SecondLeftModel", "openAt", "()I"⟩, 47), (⟨"SecondLeftModel", "shut", "(I)V"⟩, 47)]
theorem lw_r5 : ∀ q ∈ lw_privs_5, lw_okq q := List.forall_mem_cons.mpr ⟨lw_p64, List.forall_mem_cons.mpr ⟨lw_p65, List.forall_mem_cons.mpr ⟨lw_p66, List.forall_mem_cons.mpr ⟨lw_p67, List.forall_mem_cons.mpr ⟨lw_p68, List.forall_mem_cons.mpr ⟨lw_p69, List.forall_mem_cons.mpr ⟨lw_p70, List.forall_mem_cons.mpr ⟨lw_p71, List.forall_mem_cons.mpr ⟨lw_p72, List.forall_mem_cons.mpr ⟨lw_p73, List.forall_mem_cons.mpr ⟨lw_p74, List.forall_mem_cons.mpr ⟨lw_p75, List.forall_mem_cons.mpr ⟨lw_p76, List.forall_mem_cons.mpr ⟨lw_p77, List.forall_mem_cons.mpr ⟨lw_p78, List.forall_mem_cons.mpr ⟨lw_p79, fun _ h => absurd h List.not_mem_nil⟩⟩⟩⟩⟩⟩⟩⟩⟩⟩⟩⟩⟩⟩⟩⟩
theorem lw_p80 : lw_okq (⟨"SecondLeftModel", "beginOne", "()I"⟩, 47) := ⟨⟨by decide +kernel, by decide +kernel⟩, List.mem_of_getElem? (i := 1273) (by decide +kernel), List.mem_of_getElem? (i := 1609) (by decide +kernel), List.mem_of_getElem? (i := 1610) (by decide +kernel)⟩
theorem lw_p81 : lw_okq (⟨"SecondLeftModel", "nameOf", "()I"⟩, 47) := ⟨⟨by decide +kernel, by decide +kernel⟩, List.mem_of_getElem? (i := 1273) (by decide +kernel), List.mem_of_getElem? (i := 1613) (by decide +kernel), List.mem_of_getElem? (i := 1614) (by decide +kernel)⟩
theorem lw_p82 : lw_okq (⟨"SecondLeftModel", "isOf", "(I)Z"⟩, 47) := ⟨⟨by decide +kernel, by decide +kernel⟩, List.mem_of_getElem? (i := 1273) (by decide +kernel), List.mem_of_getElem? (i := 1617) (by decide +kernel), List.mem_of_getElem? (i := 1618) (by decide +kernel)⟩
theorem lw_p83 : lw_okq (⟨"SecondLeftModel", "opened", "(I)I"⟩, 47) := ⟨⟨by decide +kernel, by decide +kernel⟩, List.mem_of_getElem? (i := 1273) (by decide +kernel), List.mem_of_getElem? (i := 1621) (by decide +kernel), List.mem_of_getElem? (i := 1622) (by decide +kernel)⟩
theorem lw_p84 : lw_okq (⟨"SecondLeftModel", "keep", "()V"⟩, 47) := ⟨⟨by decide +kernel, by decide +kernel⟩, List.mem_of_getElem? (i := 1273) (by decide +kernel), List.mem_of_getElem? (i := 1641) (by decide +kernel), List.mem_of_getElem? (i := 1642) (by decide +kernel)⟩
theorem lw_p85 : lw_okq (⟨"SecondLeftModel", "startNow", "(II)V"⟩, 47) := ⟨⟨by decide +kernel, by decide +kernel⟩, List.mem_of_getElem? (i := 1273) (by decide +kernel), List.mem_of_getElem? (i := 1645) (by decide +kernel), List.mem_of_getElem? (i := 1646) (by decide +kernel)⟩
theorem lw_p86 : lw_okq (⟨"SecondLeftModel", "isWalker", "()Z"⟩, 47) := ⟨⟨by decide +kernel, by decide +kernel⟩, List.mem_of_getElem? (i := 1273) (by decide +kernel), List.mem_of_getElem? (i := 1653) (by decide +kernel), List.mem_of_getElem? (i := 1654) (by decide +kernel)⟩
theorem lw_p87 : lw_okq (⟨"SecondLeftModel", "walkable", "(I)I"⟩, 47) := ⟨⟨by decide +kernel, by decide +kernel⟩, List.mem_of_getElem? (i := 1273) (by decide +kernel), List.mem_of_getElem? (i := 1657) (by decide +kernel), List.mem_of_getElem? (i := 1658) (by decide +kernel)⟩
theorem lw_p88 : lw_okq (⟨"SecondLeftModel", "walkSo", "(I)V"⟩, 47) := ⟨⟨by decide +kernel, by decide +kernel⟩, List.mem_of_getElem? (i := 1273) (by decide +kernel), List.mem_of_getElem? (i := 1661) (by decide +kernel), List.mem_of_getElem? (i := 1662) (by decide +kernel)⟩
theorem lw_p89 : lw_okq (⟨"SecondLeftModel", "walkNow", "()V"⟩, 47) := ⟨⟨by decide +kernel, by decide +kernel⟩, List.mem_of_getElem? (i := 1273) (by decide +kernel), List.mem_of_getElem? (i := 1665) (by decide +kernel), List.mem_of_getElem? (i := 1666) (by decide +kernel)⟩
theorem lw_p90 : lw_okq (⟨"SecondLeftModel", "paceOf", "(II)I"⟩, 47) := ⟨⟨by decide +kernel, by decide +kernel⟩, List.mem_of_getElem? (i := 1273) (by decide +kernel), List.mem_of_getElem? (i := 1669) (by decide +kernel), List.mem_of_getElem? (i := 1670) (by decide +kernel)⟩
theorem lw_p91 : lw_okq (⟨"SecondLeftModel", "isLane", "(II)Z"⟩, 47) := ⟨⟨by decide +kernel, by decide +kernel⟩, List.mem_of_getElem? (i := 1273) (by decide +kernel), List.mem_of_getElem? (i := 1673) (by decide +kernel), List.mem_of_getElem? (i := 1674) (by decide +kernel)⟩
theorem lw_p92 : lw_okq (⟨"SecondLeftModel", "sightOf", "(I)I"⟩, 47) := ⟨⟨by decide +kernel, by decide +kernel⟩, List.mem_of_getElem? (i := 1273) (by decide +kernel), List.mem_of_getElem? (i := 1677) (by decide +kernel), List.mem_of_getElem? (i := 1678) (by decide +kernel)⟩
theorem lw_p93 : lw_okq (⟨"SecondLeftModel", "says", "(IIII)I"⟩, 47) := ⟨⟨by decide +kernel, by decide +kernel⟩, List.mem_of_getElem? (i := 1273) (by decide +kernel), List.mem_of_getElem? (i := 1681) (by decide +kernel), List.mem_of_getElem? (i := 1682) (by decide +kernel)⟩
theorem lw_p94 : lw_okq (⟨"SecondLeftModel", "worked", "(I)I"⟩, 47) := ⟨⟨by decide +kernel, by decide +kernel⟩, List.mem_of_getElem? (i := 1273) (by decide +kernel), List.mem_of_getElem? (i := 1685) (by decide +kernel), List.mem_of_getElem? (i := 1686) (by decide +kernel)⟩
theorem lw_p95 : lw_okq (⟨"SecondLeftModel", "cornerOf", "(I)I"⟩, 47) := ⟨⟨by decide +kernel, by decide +kernel⟩, List.mem_of_getElem? (i := 1273) (by decide +kernel), List.mem_of_getElem? (i := 1708) (by decide +kernel), List.mem_of_getElem? (i := 1709) (by decide +kernel)⟩
def lw_privs_6 : List (MethodName × Nat) := [(⟨"SecondLeftModel", "beginOne", "()I"⟩, 47), (⟨"SecondLeftModel", "nameOf", "()I"⟩, 47), (⟨"SecondLeftModel", "isOf", "(I)Z"⟩, 47), (⟨"SecondLeftModel", "opened", "(I)I"⟩, 47), (⟨"SecondLeftModel", "keep", "()V"⟩, 47), (⟨"SecondLeftModel", "startNow", "(II)V"⟩, 47), (⟨"SecondLeftModel", "isWalker", "()Z"⟩, 47), (⟨"SecondLeftModel", "walkable", "(I)I"⟩, 47), (⟨"SecondLeftModel", "walkSo", "(I)V"⟩, 47), (⟨"SecondLeftModel", "walkNow", "()V"⟩, 47), (⟨"SecondLeftModel", "paceOf", "(II)I"⟩, 47), (⟨"SecondLeftModel", "isLane", "(II)Z"⟩, 47), (⟨"SecondLeftModel", "sightOf", "(I)I"⟩, 47), (⟨"SecondLeftModel", "says", "(IIII)I"⟩, 47), (⟨"SecondLeftModel", "worked", "(I)I"⟩, 47), (⟨"SecondLeftModel", "cornerOf", "(I)I"⟩, 47)]
theorem lw_r6 : ∀ q ∈ lw_privs_6, lw_okq q := List.forall_mem_cons.mpr ⟨lw_p80, List.forall_mem_cons.mpr ⟨lw_p81, List.forall_mem_cons.mpr ⟨lw_p82, List.forall_mem_cons.mpr ⟨lw_p83, List.forall_mem_cons.mpr ⟨lw_p84, List.forall_mem_cons.mpr ⟨lw_p85, List.forall_mem_cons.mpr ⟨lw_p86, List.forall_mem_cons.mpr ⟨lw_p87, List.forall_mem_cons.mpr ⟨lw_p88, List.forall_mem_cons.mpr ⟨lw_p89, List.forall_mem_cons.mpr ⟨lw_p90, List.forall_mem_cons.mpr ⟨lw_p91, List.forall_mem_cons.mpr ⟨lw_p92, List.forall_mem_cons.mpr ⟨lw_p93, List.forall_mem_cons.mpr ⟨lw_p94, List.forall_mem_cons.mpr ⟨lw_p95, fun _ h => absurd h List.not_mem_nil⟩⟩⟩⟩⟩⟩⟩⟩⟩⟩⟩⟩⟩⟩⟩⟩
theorem lw_p96 : lw_okq (⟨"SecondLeftModel", "askNow", "(I)V"⟩, 47) := ⟨⟨by decide +kernel, by decide +kernel⟩, List.mem_of_getElem? (i := 1273) (by decide +kernel), List.mem_of_getElem? (i := 1712) (by decide +kernel), List.mem_of_getElem? (i := 1713) (by decide +kernel)⟩
theorem lw_p97 : lw_okq (⟨"SecondLeftModel", "asksOf", "(I)I"⟩, 47) := ⟨⟨by decide +kernel, by decide +kernel⟩, List.mem_of_getElem? (i := 1273) (by decide +kernel), List.mem_of_getElem? (i := 1716) (by decide +kernel), List.mem_of_getElem? (i := 1717) (by decide +kernel)⟩
theorem lw_p98 : lw_okq (⟨"SecondLeftModel", "nameTeller", "(I)V"⟩, 47) := ⟨⟨by decide +kernel, by decide +kernel⟩, List.mem_of_getElem? (i := 1273) (by decide +kernel), List.mem_of_getElem? (i := 1720) (by decide +kernel), List.mem_of_getElem? (i := 1721) (by decide +kernel)⟩
theorem lw_p99 : lw_okq (⟨"SecondLeftModel", "isTelling", "(I)Z"⟩, 47) := ⟨⟨by decide +kernel, by decide +kernel⟩, List.mem_of_getElem? (i := 1273) (by decide +kernel), List.mem_of_getElem? (i := 1728) (by decide +kernel), List.mem_of_getElem? (i := 1729) (by decide +kernel)⟩
theorem lw_p100 : lw_okq (⟨"SecondLeftModel", "takeTurns", "(II)V"⟩, 47) := ⟨⟨by decide +kernel, by decide +kernel⟩, List.mem_of_getElem? (i := 1273) (by decide +kernel), List.mem_of_getElem? (i := 1732) (by decide +kernel), List.mem_of_getElem? (i := 1733) (by decide +kernel)⟩
theorem lw_p101 : lw_okq (⟨"SecondLeftModel", "turnsOf", "(I)I"⟩, 47) := ⟨⟨by decide +kernel, by decide +kernel⟩, List.mem_of_getElem? (i := 1273) (by decide +kernel), List.mem_of_getElem? (i := 1736) (by decide +kernel), List.mem_of_getElem? (i := 1737) (by decide +kernel)⟩
theorem lw_p102 : lw_okq (⟨"SecondLeftModel", "turnAt", "(II)I"⟩, 47) := ⟨⟨by decide +kernel, by decide +kernel⟩, List.mem_of_getElem? (i := 1273) (by decide +kernel), List.mem_of_getElem? (i := 1740) (by decide +kernel), List.mem_of_getElem? (i := 1741) (by decide +kernel)⟩
theorem lw_p103 : lw_okq (⟨"SecondLeftModel", "begin", "(II)V"⟩, 47) := ⟨⟨by decide +kernel, by decide +kernel⟩, List.mem_of_getElem? (i := 1273) (by decide +kernel), List.mem_of_getElem? (i := 1744) (by decide +kernel), List.mem_of_getElem? (i := 1745) (by decide +kernel)⟩
theorem lw_p104 : lw_okq (⟨"SecondLeftModel", "goAll", "(I)Z"⟩, 47) := ⟨⟨by decide +kernel, by decide +kernel⟩, List.mem_of_getElem? (i := 1273) (by decide +kernel), List.mem_of_getElem? (i := 1748) (by decide +kernel), List.mem_of_getElem? (i := 1749) (by decide +kernel)⟩
theorem lw_p105 : lw_okq (⟨"SecondLeftModel", "goTurn", "(II)Z"⟩, 47) := ⟨⟨by decide +kernel, by decide +kernel⟩, List.mem_of_getElem? (i := 1273) (by decide +kernel), List.mem_of_getElem? (i := 1752) (by decide +kernel), List.mem_of_getElem? (i := 1753) (by decide +kernel)⟩
theorem lw_p106 : lw_okq (⟨"SecondLeftModel", "goOn", "()Z"⟩, 47) := ⟨⟨by decide +kernel, by decide +kernel⟩, List.mem_of_getElem? (i := 1273) (by decide +kernel), List.mem_of_getElem? (i := 1756) (by decide +kernel), List.mem_of_getElem? (i := 1757) (by decide +kernel)⟩
theorem lw_p107 : lw_okq (⟨"SecondLeftModel", "isDoubt", "(I)Z"⟩, 47) := ⟨⟨by decide +kernel, by decide +kernel⟩, List.mem_of_getElem? (i := 1273) (by decide +kernel), List.mem_of_getElem? (i := 1760) (by decide +kernel), List.mem_of_getElem? (i := 1761) (by decide +kernel)⟩
theorem lw_p108 : lw_okq (⟨"SecondLeftModel", "isCounted", "(II)Z"⟩, 47) := ⟨⟨by decide +kernel, by decide +kernel⟩, List.mem_of_getElem? (i := 1273) (by decide +kernel), List.mem_of_getElem? (i := 1764) (by decide +kernel), List.mem_of_getElem? (i := 1765) (by decide +kernel)⟩
theorem lw_p109 : lw_okq (⟨"SecondLeftModel", "isPlayed", "(I)Z"⟩, 47) := ⟨⟨by decide +kernel, by decide +kernel⟩, List.mem_of_getElem? (i := 1273) (by decide +kernel), List.mem_of_getElem? (i := 1772) (by decide +kernel), List.mem_of_getElem? (i := 1773) (by decide +kernel)⟩
theorem lw_p110 : lw_okq (⟨"SecondLeftModel", "isTaught", "(I)Z"⟩, 47) := ⟨⟨by decide +kernel, by decide +kernel⟩, List.mem_of_getElem? (i := 1273) (by decide +kernel), List.mem_of_getElem? (i := 1780) (by decide +kernel), List.mem_of_getElem? (i := 1781) (by decide +kernel)⟩
theorem lw_p111 : lw_okq (⟨"SecondLeftModel", "isWalked", "(I)Z"⟩, 47) := ⟨⟨by decide +kernel, by decide +kernel⟩, List.mem_of_getElem? (i := 1273) (by decide +kernel), List.mem_of_getElem? (i := 1785) (by decide +kernel), List.mem_of_getElem? (i := 1786) (by decide +kernel)⟩
def lw_privs_7 : List (MethodName × Nat) := [(⟨"SecondLeftModel", "askNow", "(I)V"⟩, 47), (⟨"SecondLeftModel", "asksOf", "(I)I"⟩, 47), (⟨"SecondLeftModel", "nameTeller", "(I)V"⟩, 47), (⟨"SecondLeftModel", "isTelling", "(I)Z"⟩, 47), (⟨"SecondLeftModel", "takeTurns", "(II)V"⟩, 47), (⟨"SecondLeftModel", "turnsOf", "(I)I"⟩, 47), (⟨"SecondLeftModel", "turnAt", "(II)I"⟩, 47), (⟨"SecondLeftModel", "begin", "(II)V"⟩, 47), (⟨"SecondLeftModel", "goAll", "(I)Z"⟩, 47), (⟨"SecondLeftModel", "goTurn", "(II)Z"⟩, 47), (⟨"SecondLeftModel", "goOn", "()Z"⟩, 47), (⟨"SecondLeftModel", "isDoubt", "(I)Z"⟩, 47), (⟨"SecondLeftModel", "isCounted", "(II)Z"⟩, 47), (⟨"SecondLeftModel", "isPlayed", "(I)Z"⟩, 47), (⟨"SecondLeftModel", "isTaught", "(I)Z"⟩, 47), (⟨"SecondLeftModel", "isWalked", "(I)Z"⟩, 47)]
theorem lw_r7 : ∀ q ∈ lw_privs_7, lw_okq q := List.forall_mem_cons.mpr ⟨lw_p96, List.forall_mem_cons.mpr ⟨lw_p97, List.forall_mem_cons.mpr ⟨lw_p98, List.forall_mem_cons.mpr ⟨lw_p99, List.forall_mem_cons.mpr ⟨lw_p100, List.forall_mem_cons.mpr ⟨lw_p101, List.forall_mem_cons.mpr ⟨lw_p102, List.forall_mem_cons.mpr ⟨lw_p103, List.forall_mem_cons.mpr ⟨lw_p104, List.forall_mem_cons.mpr ⟨lw_p105, List.forall_mem_cons.mpr ⟨lw_p106, List.forall_mem_cons.mpr ⟨lw_p107, List.forall_mem_cons.mpr ⟨lw_p108, List.forall_mem_cons.mpr ⟨lw_p109, List.forall_mem_cons.mpr ⟨lw_p110, List.forall_mem_cons.mpr ⟨lw_p111, fun _ h => absurd h List.not_mem_nil⟩⟩⟩⟩⟩⟩⟩⟩⟩⟩⟩⟩⟩⟩⟩⟩
theorem lw_p112 : lw_okq (⟨"SecondLeftModel", "anew", "()V"⟩, 47) := ⟨⟨by decide +kernel, by decide +kernel⟩, List.mem_of_getElem? (i := 1273) (by decide +kernel), List.mem_of_getElem? (i := 1796) (by decide +kernel), List.mem_of_getElem? (i := 1797) (by decide +kernel)⟩
theorem lw_p113 : lw_okq (⟨"SecondLeftModel", "oneOfDay", "()V"⟩, 47) := ⟨⟨by decide +kernel, by decide +kernel⟩, List.mem_of_getElem? (i := 1273) (by decide +kernel), List.mem_of_getElem? (i := 1800) (by decide +kernel), List.mem_of_getElem? (i := 1801) (by decide +kernel)⟩
theorem lw_p114 : lw_okq (⟨"SecondLeftModel", "isAhead", "()Z"⟩, 47) := ⟨⟨by decide +kernel, by decide +kernel⟩, List.mem_of_getElem? (i := 1273) (by decide +kernel), List.mem_of_getElem? (i := 1804) (by decide +kernel), List.mem_of_getElem? (i := 1805) (by decide +kernel)⟩
theorem lw_p115 : lw_okq (⟨"SecondLeftModel", "slipOf", "(II)I"⟩, 47) := ⟨⟨by decide +kernel, by decide +kernel⟩, List.mem_of_getElem? (i := 1273) (by decide +kernel), List.mem_of_getElem? (i := 1824) (by decide +kernel), List.mem_of_getElem? (i := 1825) (by decide +kernel)⟩
theorem lw_p116 : lw_okq (⟨"SecondLeftModel", "tellerOf", "(I)I"⟩, 47) := ⟨⟨by decide +kernel, by decide +kernel⟩, List.mem_of_getElem? (i := 1273) (by decide +kernel), List.mem_of_getElem? (i := 1828) (by decide +kernel), List.mem_of_getElem? (i := 1829) (by decide +kernel)⟩
theorem lw_p117 : lw_okq (⟨"SecondLeftModel", "facingOf", "(I)I"⟩, 47) := ⟨⟨by decide +kernel, by decide +kernel⟩, List.mem_of_getElem? (i := 1273) (by decide +kernel), List.mem_of_getElem? (i := 1832) (by decide +kernel), List.mem_of_getElem? (i := 1833) (by decide +kernel)⟩
theorem lw_p118 : lw_okq (⟨"SecondLeftModel", "leadsOf", "(II)I"⟩, 47) := ⟨⟨by decide +kernel, by decide +kernel⟩, List.mem_of_getElem? (i := 1273) (by decide +kernel), List.mem_of_getElem? (i := 1840) (by decide +kernel), List.mem_of_getElem? (i := 1841) (by decide +kernel)⟩
theorem lw_p119 : lw_okq (⟨"SecondLeftModel", "findWays", "(I)V"⟩, 47) := ⟨⟨by decide +kernel, by decide +kernel⟩, List.mem_of_getElem? (i := 1273) (by decide +kernel), List.mem_of_getElem? (i := 1848) (by decide +kernel), List.mem_of_getElem? (i := 1849) (by decide +kernel)⟩
theorem lw_p120 : lw_okq (⟨"SecondLeftModel", "findWeights", "(I)V"⟩, 47) := ⟨⟨by decide +kernel, by decide +kernel⟩, List.mem_of_getElem? (i := 1273) (by decide +kernel), List.mem_of_getElem? (i := 1852) (by decide +kernel), List.mem_of_getElem? (i := 1853) (by decide +kernel)⟩
theorem lw_p121 : lw_okq (⟨"SecondLeftModel", "weightTo", "(I)I"⟩, 47) := ⟨⟨by decide +kernel, by decide +kernel⟩, List.mem_of_getElem? (i := 1273) (by decide +kernel), List.mem_of_getElem? (i := 1856) (by decide +kernel), List.mem_of_getElem? (i := 1857) (by decide +kernel)⟩
theorem lw_p122 : lw_okq (⟨"SecondLeftModel", "findProducts", "(I)Z"⟩, 47) := ⟨⟨by decide +kernel, by decide +kernel⟩, List.mem_of_getElem? (i := 1273) (by decide +kernel), List.mem_of_getElem? (i := 1864) (by decide +kernel), List.mem_of_getElem? (i := 1865) (by decide +kernel)⟩
theorem lw_p123 : lw_okq (⟨"SecondLeftModel", "findLeads", "()V"⟩, 47) := ⟨⟨by decide +kernel, by decide +kernel⟩, List.mem_of_getElem? (i := 1273) (by decide +kernel), List.mem_of_getElem? (i := 1882) (by decide +kernel), List.mem_of_getElem? (i := 1883) (by decide +kernel)⟩
theorem lw_p124 : lw_okq (⟨"SecondLeftModel", "findFar", "(I)V"⟩, 47) := ⟨⟨by decide +kernel, by decide +kernel⟩, List.mem_of_getElem? (i := 1273) (by decide +kernel), List.mem_of_getElem? (i := 1902) (by decide +kernel), List.mem_of_getElem? (i := 1903) (by decide +kernel)⟩
theorem lw_p125 : lw_okq (⟨"SecondLeftModel", "nearest", "(I)I"⟩, 47) := ⟨⟨by decide +kernel, by decide +kernel⟩, List.mem_of_getElem? (i := 1273) (by decide +kernel), List.mem_of_getElem? (i := 1907) (by decide +kernel), List.mem_of_getElem? (i := 1908) (by decide +kernel)⟩
theorem lw_p126 : lw_okq (⟨"SecondLeftModel", "findOrder", "(I)Z"⟩, 47) := ⟨⟨by decide +kernel, by decide +kernel⟩, List.mem_of_getElem? (i := 1273) (by decide +kernel), List.mem_of_getElem? (i := 1915) (by decide +kernel), List.mem_of_getElem? (i := 1916) (by decide +kernel)⟩
theorem lw_p127 : lw_okq (⟨"SecondLeftModel", "timeOf", "()J"⟩, 47) := ⟨⟨by decide +kernel, by decide +kernel⟩, List.mem_of_getElem? (i := 1273) (by decide +kernel), List.mem_of_getElem? (i := 1919) (by decide +kernel), List.mem_of_getElem? (i := 1920) (by decide +kernel)⟩
def lw_privs_8 : List (MethodName × Nat) := [(⟨"SecondLeftModel", "anew", "()V"⟩, 47), (⟨"SecondLeftModel", "oneOfDay", "()V"⟩, 47), (⟨"SecondLeftModel", "isAhead", "()Z"⟩, 47), (⟨"SecondLeftModel", "slipOf", "(II)I"⟩, 47), (⟨"SecondLeftModel", "tellerOf", "(I)I"⟩, 47), (⟨"SecondLeftModel", "facingOf", "(I)I"⟩, 47), (⟨"SecondLeftModel", "leadsOf", "(II)I"⟩, 47), (⟨"SecondLeftModel", "findWays", "(I)V"⟩, 47), (⟨"SecondLeftModel", "findWeights", "(I)V"⟩, 47), (⟨"SecondLeftModel", "weightTo", "(I)I"⟩, 47), (⟨"SecondLeftModel", "findProducts", "(I)Z"⟩, 47), (⟨"SecondLeftModel", "findLeads", "()V"⟩, 47), (⟨"SecondLeftModel", "findFar", "(I)V"⟩, 47), (⟨"SecondLeftModel", "nearest", "(I)I"⟩, 47), (⟨"SecondLeftModel", "findOrder", "(I)Z"⟩, 47), (⟨"SecondLeftModel", "timeOf", "()J"⟩, 47)]
theorem lw_r8 : ∀ q ∈ lw_privs_8, lw_okq q := List.forall_mem_cons.mpr ⟨lw_p112, List.forall_mem_cons.mpr ⟨lw_p113, List.forall_mem_cons.mpr ⟨lw_p114, List.forall_mem_cons.mpr ⟨lw_p115, List.forall_mem_cons.mpr ⟨lw_p116, List.forall_mem_cons.mpr ⟨lw_p117, List.forall_mem_cons.mpr ⟨lw_p118, List.forall_mem_cons.mpr ⟨lw_p119, List.forall_mem_cons.mpr ⟨lw_p120, List.forall_mem_cons.mpr ⟨lw_p121, List.forall_mem_cons.mpr ⟨lw_p122, List.forall_mem_cons.mpr ⟨lw_p123, List.forall_mem_cons.mpr ⟨lw_p124, List.forall_mem_cons.mpr ⟨lw_p125, List.forall_mem_cons.mpr ⟨lw_p126, List.forall_mem_cons.mpr ⟨lw_p127, fun _ h => absurd h List.not_mem_nil⟩⟩⟩⟩⟩⟩⟩⟩⟩⟩⟩⟩⟩⟩⟩⟩
theorem lw_p128 : lw_okq (⟨"SecondLeftModel", "nextOrder", "()Z"⟩, 47) := ⟨⟨by decide +kernel, by decide +kernel⟩, List.mem_of_getElem? (i := 1273) (by decide +kernel), List.mem_of_getElem? (i := 1923) (by decide +kernel), List.mem_of_getElem? (i := 1924) (by decide +kernel)⟩
theorem lw_p129 : lw_okq (⟨"SecondLeftModel", "timeByAsking", "(I)J"⟩, 47) := ⟨⟨by decide +kernel, by decide +kernel⟩, List.mem_of_getElem? (i := 1273) (by decide +kernel), List.mem_of_getElem? (i := 1931) (by decide +kernel), List.mem_of_getElem? (i := 1932) (by decide +kernel)⟩
theorem lw_p130 : lw_okq (⟨"SecondLeftModel", "safeOf", "(II)I"⟩, 47) := ⟨⟨by decide +kernel, by decide +kernel⟩, List.mem_of_getElem? (i := 1273) (by decide +kernel), List.mem_of_getElem? (i := 1939) (by decide +kernel), List.mem_of_getElem? (i := 1940) (by decide +kernel)⟩
theorem lw_p131 : lw_okq (⟨"SecondLeftModel", "stateOf", "(III)I"⟩, 47) := ⟨⟨by decide +kernel, by decide +kernel⟩, List.mem_of_getElem? (i := 1273) (by decide +kernel), List.mem_of_getElem? (i := 1943) (by decide +kernel), List.mem_of_getElem? (i := 1944) (by decide +kernel)⟩
theorem lw_p132 : lw_okq (⟨"SecondLeftModel", "findTelling", "(III)Z"⟩, 47) := ⟨⟨by decide +kernel, by decide +kernel⟩, List.mem_of_getElem? (i := 1273) (by decide +kernel), List.mem_of_getElem? (i := 1968) (by decide +kernel), List.mem_of_getElem? (i := 1969) (by decide +kernel)⟩
theorem lw_p133 : lw_okq (⟨"SecondLeftModel", "leadsToGoal", "(III)Z"⟩, 47) := ⟨⟨by decide +kernel, by decide +kernel⟩, List.mem_of_getElem? (i := 1273) (by decide +kernel), List.mem_of_getElem? (i := 1975) (by decide +kernel), List.mem_of_getElem? (i := 1976) (by decide +kernel)⟩
theorem lw_p134 : lw_okq (⟨"SecondLeftModel", "findShown", "()V"⟩, 47) := ⟨⟨by decide +kernel, by decide +kernel⟩, List.mem_of_getElem? (i := 1273) (by decide +kernel), List.mem_of_getElem? (i := 1991) (by decide +kernel), List.mem_of_getElem? (i := 1992) (by decide +kernel)⟩
theorem lw_p135 : lw_okq (⟨"SecondLeftModel", "areEnough", "(I)Z"⟩, 47) := ⟨⟨by decide +kernel, by decide +kernel⟩, List.mem_of_getElem? (i := 1273) (by decide +kernel), List.mem_of_getElem? (i := 1995) (by decide +kernel), List.mem_of_getElem? (i := 1996) (by decide +kernel)⟩
theorem lw_p136 : lw_okq (⟨"SecondLeftModel", "comesToGoal", "(III)Z"⟩, 47) := ⟨⟨by decide +kernel, by decide +kernel⟩, List.mem_of_getElem? (i := 1273) (by decide +kernel), List.mem_of_getElem? (i := 1999) (by decide +kernel), List.mem_of_getElem? (i := 2000) (by decide +kernel)⟩
theorem lw_p137 : lw_okq (⟨"SecondLeftModel", "directionFrom", "(III)I"⟩, 47) := ⟨⟨by decide +kernel, by decide +kernel⟩, List.mem_of_getElem? (i := 1273) (by decide +kernel), List.mem_of_getElem? (i := 2003) (by decide +kernel), List.mem_of_getElem? (i := 2004) (by decide +kernel)⟩
def lw_privs_9 : List (MethodName × Nat) := [(⟨"SecondLeftModel", "nextOrder", "()Z"⟩, 47), (⟨"SecondLeftModel", "timeByAsking", "(I)J"⟩, 47), (⟨"SecondLeftModel", "safeOf", "(II)I"⟩, 47), (⟨"SecondLeftModel", "stateOf", "(III)I"⟩, 47), (⟨"SecondLeftModel", "findTelling", "(III)Z"⟩, 47), (⟨"SecondLeftModel", "leadsToGoal", "(III)Z"⟩, 47), (⟨"SecondLeftModel", "findShown", "()V"⟩, 47), (⟨"SecondLeftModel", "areEnough", "(I)Z"⟩, 47), (⟨"SecondLeftModel", "comesToGoal", "(III)Z"⟩, 47), (⟨"SecondLeftModel", "directionFrom", "(III)I"⟩, 47)]
theorem lw_r9 : ∀ q ∈ lw_privs_9, lw_okq q := List.forall_mem_cons.mpr ⟨lw_p128, List.forall_mem_cons.mpr ⟨lw_p129, List.forall_mem_cons.mpr ⟨lw_p130, List.forall_mem_cons.mpr ⟨lw_p131, List.forall_mem_cons.mpr ⟨lw_p132, List.forall_mem_cons.mpr ⟨lw_p133, List.forall_mem_cons.mpr ⟨lw_p134, List.forall_mem_cons.mpr ⟨lw_p135, List.forall_mem_cons.mpr ⟨lw_p136, List.forall_mem_cons.mpr ⟨lw_p137, fun _ h => absurd h List.not_mem_nil⟩⟩⟩⟩⟩⟩⟩⟩⟩⟩
def lw_privs : List (MethodName × Nat) := lw_privs_1 ++ (lw_privs_2 ++ (lw_privs_3 ++ (lw_privs_4 ++ (lw_privs_5 ++ (lw_privs_6 ++ (lw_privs_7 ++ (lw_privs_8 ++ (lw_privs_9))))))))
def lw_tbl : List Cond := k2_sels lw_privs ++ tables_1
theorem lw_privs_ok : ∀ q ∈ lw_privs, lw_okq q := by
  show ∀ q ∈ lw_privs_1 ++ (lw_privs_2 ++ (lw_privs_3 ++ (lw_privs_4 ++ (lw_privs_5 ++ (lw_privs_6 ++ (lw_privs_7 ++ (lw_privs_8 ++ (lw_privs_9)))))))), lw_okq q
  exact List.forall_mem_append.mpr ⟨lw_r1, List.forall_mem_append.mpr ⟨lw_r2, List.forall_mem_append.mpr ⟨lw_r3, List.forall_mem_append.mpr ⟨lw_r4, List.forall_mem_append.mpr ⟨lw_r5, List.forall_mem_append.mpr ⟨lw_r6, List.forall_mem_append.mpr ⟨lw_r7, List.forall_mem_append.mpr ⟨lw_r8, lw_r9⟩⟩⟩⟩⟩⟩⟩⟩
end
section
def RX0 : String := "SecondLeft$Finder"
def TX0 : u_T := fun k => match k with
  | 0 => ("SecondLeft$Finder", "town", "LSecondLeft$Town;", true)
  | 1 => ("SecondLeft$Finder", "going", "LSecondLeft$Going;", true)
  | 2 => ("SecondLeft$Finder", "known", "[I", true)
  | 3 => ("SecondLeft$Finder", "states", "[I", true)
  | _ => ("SecondLeft$Finder", "chosen", "[I", true)
def tyX0 : Nat → FieldType := fun k => match k with
  | 0 => .object "SecondLeft$Town"
  | 1 => .object "SecondLeft$Going"
  | 2 => .array .int
  | 3 => .array .int
  | _ => .array .int
abbrev wsX00 : List Cond := u_ws RX0 TX0 5
theorem nmX0 : ∀ a, a < 5 → ∀ b, b < 5 → a ≠ b → (TX0 a).2.1 ≠ (TX0 b).2.1 := by decide +kernel
theorem tyX0_ok : ∀ k, k < 5 → parseFieldDescriptor (TX0 k).2.2.1 = some (tyX0 k) := by decide +kernel
abbrev cX0_init : ByteArray := prog_2_method_1_code
def yX0_init : MethodName := ⟨RX0, "<init>", "(LSecondLeft$Town;LSecondLeft$Going;)V"⟩
abbrev cX0_find : ByteArray := prog_2_method_2_code
def yX0_find : MethodName := ⟨RX0, "find", "(III)I"⟩
abbrev cX0_tries : ByteArray := prog_2_method_3_code
def yX0_tries : MethodName := ⟨RX0, "tries", "(III)Z"⟩
abbrev cX0_turnOfKind : ByteArray := prog_2_method_4_code
def yX0_turnOfKind : MethodName := ⟨RX0, "turnOfKind", "(I)I"⟩
abbrev cX0_kindOfTurn : ByteArray := prog_2_method_5_code
def yX0_kindOfTurn : MethodName := ⟨RX0, "kindOfTurn", "(I)I"⟩
abbrev cX0_allGo : ByteArray := prog_2_method_6_code
def yX0_allGo : MethodName := ⟨RX0, "allGo", "(IIIZ)Z"⟩
abbrev cX0_after : ByteArray := prog_2_method_7_code
def yX0_after : MethodName := ⟨RX0, "after", "(III)I"⟩
abbrev cX0_endsAtGoal : ByteArray := prog_2_method_8_code
def yX0_endsAtGoal : MethodName := ⟨RX0, "endsAtGoal", "(IZ)Z"⟩
def RX1 : String := "SecondLeft$Going"
def TX1 : u_T := fun k => match k with
  | 0 => ("SecondLeft$Going", "town", "LSecondLeft$Town;", true)
  | 1 => ("SecondLeft$Going", "path", "[I", true)
  | 2 => ("SecondLeft$Going", "at", "I", false)
  | 3 => ("SecondLeft$Going", "facing", "I", false)
  | _ => ("SecondLeft$Going", "come", "I", false)
def tyX1 : Nat → FieldType := fun k => match k with
  | 0 => .object "SecondLeft$Town"
  | 1 => .array .int
  | 2 => .int
  | 3 => .int
  | _ => .int
abbrev wsX10 : List Cond := u_ws RX1 TX1 5
theorem nmX1 : ∀ a, a < 5 → ∀ b, b < 5 → a ≠ b → (TX1 a).2.1 ≠ (TX1 b).2.1 := by decide +kernel
theorem tyX1_ok : ∀ k, k < 5 → parseFieldDescriptor (TX1 k).2.2.1 = some (tyX1 k) := by decide +kernel
abbrev cX1_init : ByteArray := prog_3_method_1_code
def yX1_init : MethodName := ⟨RX1, "<init>", "(LSecondLeft$Town;)V"⟩
abbrev cX1_setOut : ByteArray := prog_3_method_2_code
def yX1_setOut : MethodName := ⟨RX1, "setOut", "(II)V"⟩
abbrev cX1_setOutAsTold : ByteArray := prog_3_method_3_code
def yX1_setOutAsTold : MethodName := ⟨RX1, "setOutAsTold", "(I)V"⟩
abbrev cX1_comesTo : ByteArray := prog_3_method_4_code
def yX1_comesTo : MethodName := ⟨RX1, "comesTo", "(III)I"⟩
abbrev cX1_goesAll : ByteArray := prog_3_method_5_code
def yX1_goesAll : MethodName := ⟨RX1, "goesAll", "(III)Z"⟩
abbrev cX1_goesFirst : ByteArray := prog_3_method_6_code
def yX1_goesFirst : MethodName := ⟨RX1, "goesFirst", "(III)Z"⟩
abbrev cX1_meant : ByteArray := prog_3_method_7_code
def yX1_meant : MethodName := ⟨RX1, "meant", "(II)I"⟩
abbrev cX1_goesOn : ByteArray := prog_3_method_8_code
def yX1_goesOn : MethodName := ⟨RX1, "goesOn", "()Z"⟩
abbrev cX1_takes : ByteArray := prog_3_method_9_code
def yX1_takes : MethodName := ⟨RX1, "takes", "(II)Z"⟩
abbrev cX1_sideOf : ByteArray := prog_3_method_10_code
def yX1_sideOf : MethodName := ⟨RX1, "sideOf", "(II)I"⟩
def RX2 : String := "SecondLeft$Laws"
def TX2 : u_T := fun k => match k with
  | 0 => ("SecondLeft$Laws", "town", "LSecondLeft$Town;", true)
  | 1 => ("SecondLeft$Laws", "walk", "LSecondLeft$Walk;", true)
  | 2 => ("SecondLeft$Laws", "names", "[I", true)
  | _ => ("SecondLeft$Laws", "stack", "[I", true)
def tyX2 : Nat → FieldType := fun k => match k with
  | 0 => .object "SecondLeft$Town"
  | 1 => .object "SecondLeft$Walk"
  | 2 => .array .int
  | _ => .array .int
abbrev wsX20 : List Cond := u_ws RX2 TX2 4
theorem nmX2 : ∀ a, a < 4 → ∀ b, b < 4 → a ≠ b → (TX2 a).2.1 ≠ (TX2 b).2.1 := by decide +kernel
theorem tyX2_ok : ∀ k, k < 4 → parseFieldDescriptor (TX2 k).2.2.1 = some (tyX2 k) := by decide +kernel
abbrev cX2_init : ByteArray := prog_4_method_1_code
def yX2_init : MethodName := ⟨RX2, "<init>", "(LSecondLeft$Town;LSecondLeft$Walk;)V"⟩
abbrev cX2_slip : ByteArray := prog_4_method_2_code
def yX2_slip : MethodName := ⟨RX2, "slip", "(II)I"⟩
abbrev cX2_pace : ByteArray := prog_4_method_3_code
def yX2_pace : MethodName := ⟨RX2, "pace", "(II)I"⟩
abbrev cX2_asking : ByteArray := prog_4_method_4_code
def yX2_asking : MethodName := ⟨RX2, "asking", "(I)I"⟩
abbrev cX2_nameTeller : ByteArray := prog_4_method_5_code
def yX2_nameTeller : MethodName := ⟨RX2, "nameTeller", "(I)V"⟩
def RX3 : String := "SecondLeft$Posts"
def TX3 : u_T := fun k => match k with
  | 0 => ("SecondLeft$Posts", "town", "LSecondLeft$Town;", true)
  | 1 => ("SecondLeft$Posts", "streetsToGoal", "[I", true)
  | 2 => ("SecondLeft$Posts", "shown", "[I", true)
  | 3 => ("SecondLeft$Posts", "onward", "[I", true)
  | 4 => ("SecondLeft$Posts", "linked", "I", false)
  | _ => ("SecondLeft$Posts", "good", "J", false)
def tyX3 : Nat → FieldType := fun k => match k with
  | 0 => .object "SecondLeft$Town"
  | 1 => .array .int
  | 2 => .array .int
  | 3 => .array .int
  | 4 => .int
  | _ => .long
abbrev wsX30 : List Cond := u_ws RX3 TX3 6
theorem nmX3 : ∀ a, a < 6 → ∀ b, b < 6 → a ≠ b → (TX3 a).2.1 ≠ (TX3 b).2.1 := by decide +kernel
theorem tyX3_ok : ∀ k, k < 6 → parseFieldDescriptor (TX3 k).2.2.1 = some (tyX3 k) := by decide +kernel
abbrev cX3_init : ByteArray := prog_5_method_1_code
def yX3_init : MethodName := ⟨RX3, "<init>", "(LSecondLeft$Town;)V"⟩
abbrev cX3_fewest : ByteArray := prog_5_method_2_code
def yX3_fewest : MethodName := ⟨RX3, "fewest", "()I"⟩
abbrev cX3_firstThatServes : ByteArray := prog_5_method_3_code
def yX3_firstThatServes : MethodName := ⟨RX3, "firstThatServes", "(I)I"⟩
abbrev cX3_nextOfSize : ByteArray := prog_5_method_4_code
def yX3_nextOfSize : MethodName := ⟨RX3, "nextOfSize", "(I)I"⟩
abbrev cX3_countStreets : ByteArray := prog_5_method_5_code
def yX3_countStreets : MethodName := ⟨RX3, "countStreets", "()V"⟩
abbrev cX3_towards : ByteArray := prog_5_method_6_code
def yX3_towards : MethodName := ⟨RX3, "towards", "(II)I"⟩
abbrev cX3_setOnward : ByteArray := prog_5_method_7_code
def yX3_setOnward : MethodName := ⟨RX3, "setOnward", "()V"⟩
abbrev cX3_allCome : ByteArray := prog_5_method_8_code
def yX3_allCome : MethodName := ⟨RX3, "allCome", "(I)Z"⟩
abbrev cX3_comes : ByteArray := prog_5_method_9_code
def yX3_comes : MethodName := ⟨RX3, "comes", "(II)Z"⟩
def RX4 : String := "SecondLeft$Reader"
def TX4 : u_T := fun k => match k with
  | 0 => ("SecondLeft$Reader", "tape", "[I", true)
  | 1 => ("SecondLeft$Reader", "code", "[I", true)
  | 2 => ("SecondLeft$Reader", "lawEnds", "[I", true)
  | 3 => ("SecondLeft$Reader", "rows", "[I", true)
  | 4 => ("SecondLeft$Reader", "kinds", "[I", true)
  | 5 => ("SecondLeft$Reader", "values", "[I", true)
  | 6 => ("SecondLeft$Reader", "places", "[I", true)
  | 7 => ("SecondLeft$Reader", "fault", "I", false)
  | 8 => ("SecondLeft$Reader", "faultPlace", "I", false)
  | 9 => ("SecondLeft$Reader", "token", "I", false)
  | 10 => ("SecondLeft$Reader", "kind", "I", false)
  | 11 => ("SecondLeft$Reader", "value", "I", false)
  | 12 => ("SecondLeft$Reader", "coded", "I", false)
  | 13 => ("SecondLeft$Reader", "clauses", "I", false)
  | _ => ("SecondLeft$Reader", "names", "I", false)
def tyX4 : Nat → FieldType := fun k => match k with
  | 0 => .array .int
  | 1 => .array .int
  | 2 => .array .int
  | 3 => .array .int
  | 4 => .array .int
  | 5 => .array .int
  | 6 => .array .int
  | 7 => .int
  | 8 => .int
  | 9 => .int
  | 10 => .int
  | 11 => .int
  | 12 => .int
  | 13 => .int
  | _ => .int
abbrev wsX40 : List Cond := u_ws RX4 TX4 15
theorem nmX4 : ∀ a, a < 15 → ∀ b, b < 15 → a ≠ b → (TX4 a).2.1 ≠ (TX4 b).2.1 := by decide +kernel
theorem tyX4_ok : ∀ k, k < 15 → parseFieldDescriptor (TX4 k).2.2.1 = some (tyX4 k) := by decide +kernel
abbrev cX4_init : ByteArray := prog_6_method_1_code
def yX4_init : MethodName := ⟨RX4, "<init>", "([I)V"⟩
abbrev cX4_reads : ByteArray := prog_6_method_2_code
def yX4_reads : MethodName := ⟨RX4, "reads", "(I)Z"⟩
abbrev cX4_asRead : ByteArray := prog_6_method_3_code
def yX4_asRead : MethodName := ⟨RX4, "asRead", "()LSecondLeft$Text;"⟩
abbrev cX4_part : ByteArray := prog_6_method_4_code
def yX4_part : MethodName := ⟨RX4, "part", "(I)V"⟩
abbrev cX4_endOfToken : ByteArray := prog_6_method_5_code
def yX4_endOfToken : MethodName := ⟨RX4, "endOfToken", "(II)I"⟩
abbrev cX4_setToken : ByteArray := prog_6_method_6_code
def yX4_setToken : MethodName := ⟨RX4, "setToken", "(III)V"⟩
abbrev cX4_isBlank : ByteArray := prog_6_method_7_code
def yX4_isBlank : MethodName := ⟨RX4, "isBlank", "(I)Z"⟩
abbrev cX4_isLetter : ByteArray := prog_6_method_8_code
def yX4_isLetter : MethodName := ⟨RX4, "isLetter", "(I)Z"⟩
abbrev cX4_isDigit : ByteArray := prog_6_method_9_code
def yX4_isDigit : MethodName := ⟨RX4, "isDigit", "(I)Z"⟩
abbrev cX4_numberOf : ByteArray := prog_6_method_10_code
def yX4_numberOf : MethodName := ⟨RX4, "numberOf", "(II)I"⟩
abbrev cX4_wordOf : ByteArray := prog_6_method_11_code
def yX4_wordOf : MethodName := ⟨RX4, "wordOf", "(II)I"⟩
abbrev cX4_takeToken : ByteArray := prog_6_method_12_code
def yX4_takeToken : MethodName := ⟨RX4, "takeToken", "()Z"⟩
abbrev cX4_failed : ByteArray := prog_6_method_13_code
def yX4_failed : MethodName := ⟨RX4, "failed", "(I)Z"⟩
abbrev cX4_readClause : ByteArray := prog_6_method_14_code
def yX4_readClause : MethodName := ⟨RX4, "readClause", "()Z"⟩
abbrev cX4_keep : ByteArray := prog_6_method_15_code
def yX4_keep : MethodName := ⟨RX4, "keep", "(II)V"⟩
abbrev cX4_readDeed : ByteArray := prog_6_method_16_code
def yX4_readDeed : MethodName := ⟨RX4, "readDeed", "(I)Z"⟩
abbrev cX4_readNumber : ByteArray := prog_6_method_17_code
def yX4_readNumber : MethodName := ⟨RX4, "readNumber", "(III)Z"⟩
abbrev cX4_readCorner : ByteArray := prog_6_method_18_code
def yX4_readCorner : MethodName := ⟨RX4, "readCorner", "(I)Z"⟩
abbrev cX4_readFacing : ByteArray := prog_6_method_19_code
def yX4_readFacing : MethodName := ⟨RX4, "readFacing", "()Z"⟩
abbrev cX4_readWord : ByteArray := prog_6_method_20_code
def yX4_readWord : MethodName := ⟨RX4, "readWord", "(I)Z"⟩
abbrev cX4_readSign : ByteArray := prog_6_method_21_code
def yX4_readSign : MethodName := ⟨RX4, "readSign", "(I)Z"⟩
abbrev cX4_isSign : ByteArray := prog_6_method_22_code
def yX4_isSign : MethodName := ⟨RX4, "isSign", "(I)Z"⟩
abbrev cX4_readSideTo : ByteArray := prog_6_method_23_code
def yX4_readSideTo : MethodName := ⟨RX4, "readSideTo", "(I)Z"⟩
abbrev cX4_readTurns : ByteArray := prog_6_method_24_code
def yX4_readTurns : MethodName := ⟨RX4, "readTurns", "()Z"⟩
abbrev cX4_readTurn : ByteArray := prog_6_method_25_code
def yX4_readTurn : MethodName := ⟨RX4, "readTurn", "(I)I"⟩
abbrev cX4_beginLaw : ByteArray := prog_6_method_26_code
def yX4_beginLaw : MethodName := ⟨RX4, "beginLaw", "(I)Z"⟩
abbrev cX4_endLaw : ByteArray := prog_6_method_27_code
def yX4_endLaw : MethodName := ⟨RX4, "endLaw", "(I)Z"⟩
abbrev cX4_emit : ByteArray := prog_6_method_28_code
def yX4_emit : MethodName := ⟨RX4, "emit", "(I)Z"⟩
abbrev cX4_readSum : ByteArray := prog_6_method_29_code
def yX4_readSum : MethodName := ⟨RX4, "readSum", "(I)Z"⟩
abbrev cX4_readProduct : ByteArray := prog_6_method_30_code
def yX4_readProduct : MethodName := ⟨RX4, "readProduct", "(I)Z"⟩
abbrev cX4_readOne : ByteArray := prog_6_method_31_code
def yX4_readOne : MethodName := ⟨RX4, "readOne", "(I)Z"⟩
def RX5 : String := "SecondLeft$Text"
def TX5 : u_T := fun k => match k with
  | 0 => ("SecondLeft$Text", "code", "[I", true)
  | 1 => ("SecondLeft$Text", "lawEnds", "[I", true)
  | 2 => ("SecondLeft$Text", "rows", "[I", true)
  | _ => ("SecondLeft$Text", "clauses", "I", true)
def tyX5 : Nat → FieldType := fun k => match k with
  | 0 => .array .int
  | 1 => .array .int
  | 2 => .array .int
  | _ => .int
abbrev wsX50 : List Cond := u_ws RX5 TX5 4
theorem nmX5 : ∀ a, a < 4 → ∀ b, b < 4 → a ≠ b → (TX5 a).2.1 ≠ (TX5 b).2.1 := by decide +kernel
theorem tyX5_ok : ∀ k, k < 4 → parseFieldDescriptor (TX5 k).2.2.1 = some (tyX5 k) := by decide +kernel
abbrev cX5_init : ByteArray := prog_7_method_1_code
def yX5_init : MethodName := ⟨RX5, "<init>", "([I[I[II)V"⟩
abbrev cX5_rules : ByteArray := prog_7_method_2_code
def yX5_rules : MethodName := ⟨RX5, "rules", "(I)Z"⟩
abbrev cX5_value : ByteArray := prog_7_method_3_code
def yX5_value : MethodName := ⟨RX5, "value", "(I[I[I)I"⟩
abbrev cX5_ofTwo : ByteArray := prog_7_method_4_code
def yX5_ofTwo : MethodName := ⟨RX5, "ofTwo", "(IJJ)I"⟩
def RX6 : String := "SecondLeft$Town"
def TX6 : u_T := fun k => match k with
  | 0 => ("SecondLeft$Town", "sights", "[I", true)
  | 1 => ("SecondLeft$Town", "streets", "[I", true)
  | 2 => ("SecondLeft$Town", "lanes", "[I", true)
  | 3 => ("SecondLeft$Town", "tellerRows", "[I", true)
  | 4 => ("SecondLeft$Town", "tellingRows", "[I", true)
  | 5 => ("SecondLeft$Town", "scripts", "[LSecondLeft$Text;", true)
  | 6 => ("SecondLeft$Town", "corners", "I", false)
  | 7 => ("SecondLeft$Town", "goal", "I", false)
  | 8 => ("SecondLeft$Town", "tellers", "I", false)
  | 9 => ("SecondLeft$Town", "tellings", "I", false)
  | 10 => ("SecondLeft$Town", "texts", "I", false)
  | _ => ("SecondLeft$Town", "ruling", "I", false)
def tyX6 : Nat → FieldType := fun k => match k with
  | 0 => .array .int
  | 1 => .array .int
  | 2 => .array .int
  | 3 => .array .int
  | 4 => .array .int
  | 5 => .array (.object "SecondLeft$Text")
  | 6 => .int
  | 7 => .int
  | 8 => .int
  | 9 => .int
  | 10 => .int
  | _ => .int
abbrev wsX60 : List Cond := u_ws RX6 TX6 12
theorem nmX6 : ∀ a, a < 12 → ∀ b, b < 12 → a ≠ b → (TX6 a).2.1 ≠ (TX6 b).2.1 := by decide +kernel
theorem tyX6_ok : ∀ k, k < 12 → parseFieldDescriptor (TX6 k).2.2.1 = some (tyX6 k) := by decide +kernel
abbrev cX6_init : ByteArray := prog_8_method_1_code
def yX6_init : MethodName := ⟨RX6, "<init>", "()V"⟩
abbrev cX6_copyFrom : ByteArray := prog_8_method_2_code
def yX6_copyFrom : MethodName := ⟨RX6, "copyFrom", "(LSecondLeft$Town;)V"⟩
abbrev cX6_hasCorner : ByteArray := prog_8_method_3_code
def yX6_hasCorner : MethodName := ⟨RX6, "hasCorner", "(I)Z"⟩
abbrev cX6_hasTeller : ByteArray := prog_8_method_4_code
def yX6_hasTeller : MethodName := ⟨RX6, "hasTeller", "(I)Z"⟩
abbrev cX6_hasTelling : ByteArray := prog_8_method_5_code
def yX6_hasTelling : MethodName := ⟨RX6, "hasTelling", "(I)Z"⟩
abbrev cX6_isSet : ByteArray := prog_8_method_6_code
def yX6_isSet : MethodName := ⟨RX6, "isSet", "(II)Z"⟩
abbrev cX6_sightOf : ByteArray := prog_8_method_7_code
def yX6_sightOf : MethodName := ⟨RX6, "sightOf", "(I)I"⟩
abbrev cX6_ahead : ByteArray := prog_8_method_8_code
def yX6_ahead : MethodName := ⟨RX6, "ahead", "(II)I"⟩
abbrev cX6_laneAt : ByteArray := prog_8_method_9_code
def yX6_laneAt : MethodName := ⟨RX6, "laneAt", "(II)I"⟩
abbrev cX6_counts : ByteArray := prog_8_method_10_code
def yX6_counts : MethodName := ⟨RX6, "counts", "(IIZ)Z"⟩
abbrev cX6_hasOther : ByteArray := prog_8_method_11_code
def yX6_hasOther : MethodName := ⟨RX6, "hasOther", "(III)Z"⟩
abbrev cX6_tellerCell : ByteArray := prog_8_method_12_code
def yX6_tellerCell : MethodName := ⟨RX6, "tellerCell", "(II)I"⟩
abbrev cX6_tellingCell : ByteArray := prog_8_method_13_code
def yX6_tellingCell : MethodName := ⟨RX6, "tellingCell", "(II)I"⟩
abbrev cX6_turnOf : ByteArray := prog_8_method_14_code
def yX6_turnOf : MethodName := ⟨RX6, "turnOf", "(II)I"⟩
abbrev cX6_textOf : ByteArray := prog_8_method_15_code
def yX6_textOf : MethodName := ⟨RX6, "textOf", "(I)LSecondLeft$Text;"⟩
abbrev cX6_addCorner : ByteArray := prog_8_method_16_code
def yX6_addCorner : MethodName := ⟨RX6, "addCorner", "(I)I"⟩
abbrev cX6_addStreet : ByteArray := prog_8_method_17_code
def yX6_addStreet : MethodName := ⟨RX6, "addStreet", "(IIII)Z"⟩
abbrev cX6_setGoal : ByteArray := prog_8_method_18_code
def yX6_setGoal : MethodName := ⟨RX6, "setGoal", "(I)Z"⟩
abbrev cX6_addTeller : ByteArray := prog_8_method_19_code
def yX6_addTeller : MethodName := ⟨RX6, "addTeller", "(IIII)I"⟩
abbrev cX6_addTelling : ByteArray := prog_8_method_20_code
def yX6_addTelling : MethodName := ⟨RX6, "addTelling", "(IIII)I"⟩
abbrev cX6_putTurns : ByteArray := prog_8_method_21_code
def yX6_putTurns : MethodName := ⟨RX6, "putTurns", "(II)I"⟩
abbrev cX6_isTurn : ByteArray := prog_8_method_22_code
def yX6_isTurn : MethodName := ⟨RX6, "isTurn", "(I)Z"⟩
abbrev cX6_addText : ByteArray := prog_8_method_23_code
def yX6_addText : MethodName := ⟨RX6, "addText", "(LSecondLeft$Text;)I"⟩
def RX7 : String := "SecondLeft$Visits"
def TX7 : u_T := fun k => match k with
  | 0 => ("SecondLeft$Visits", "town", "LSecondLeft$Town;", true)
  | 1 => ("SecondLeft$Visits", "walk", "LSecondLeft$Walk;", true)
  | 2 => ("SecondLeft$Visits", "laws", "LSecondLeft$Laws;", true)
  | 3 => ("SecondLeft$Visits", "ways", "LSecondLeft$Ways;", true)
  | 4 => ("SecondLeft$Visits", "paces", "[I", true)
  | 5 => ("SecondLeft$Visits", "seconds", "[I", true)
  | 6 => ("SecondLeft$Visits", "places", "[I", true)
  | 7 => ("SecondLeft$Visits", "order", "[I", true)
  | 8 => ("SecondLeft$Visits", "best", "[I", true)
  | 9 => ("SecondLeft$Visits", "count", "I", false)
  | _ => ("SecondLeft$Visits", "least", "J", false)
def tyX7 : Nat → FieldType := fun k => match k with
  | 0 => .object "SecondLeft$Town"
  | 1 => .object "SecondLeft$Walk"
  | 2 => .object "SecondLeft$Laws"
  | 3 => .object "SecondLeft$Ways"
  | 4 => .array .int
  | 5 => .array .int
  | 6 => .array .int
  | 7 => .array .int
  | 8 => .array .int
  | 9 => .int
  | _ => .long
abbrev wsX70 : List Cond := u_ws RX7 TX7 11
theorem nmX7 : ∀ a, a < 11 → ∀ b, b < 11 → a ≠ b → (TX7 a).2.1 ≠ (TX7 b).2.1 := by decide +kernel
theorem tyX7_ok : ∀ k, k < 11 → parseFieldDescriptor (TX7 k).2.2.1 = some (tyX7 k) := by decide +kernel
abbrev cX7_init : ByteArray := prog_9_method_1_code
def yX7_init : MethodName := ⟨RX7, "<init>", "(LSecondLeft$Town;LSecondLeft$Walk;LSecondLeft$Laws;LSecondLeft$Ways;)V"⟩
abbrev cX7_setPaces : ByteArray := prog_9_method_2_code
def yX7_setPaces : MethodName := ⟨RX7, "setPaces", "()V"⟩
abbrev cX7_secondsTo : ByteArray := prog_9_method_3_code
def yX7_secondsTo : MethodName := ⟨RX7, "secondsTo", "(II)I"⟩
abbrev cX7_measure : ByteArray := prog_9_method_4_code
def yX7_measure : MethodName := ⟨RX7, "measure", "(I)V"⟩
abbrev cX7_nearest : ByteArray := prog_9_method_5_code
def yX7_nearest : MethodName := ⟨RX7, "nearest", "(II)I"⟩
abbrev cX7_lookAround : ByteArray := prog_9_method_6_code
def yX7_lookAround : MethodName := ⟨RX7, "lookAround", "(II)V"⟩
abbrev cX7_plan : ByteArray := prog_9_method_7_code
def yX7_plan : MethodName := ⟨RX7, "plan", "(I)Z"⟩
abbrev cX7_listPlaces : ByteArray := prog_9_method_8_code
def yX7_listPlaces : MethodName := ⟨RX7, "listPlaces", "()Z"⟩
abbrev cX7_tryOrders : ByteArray := prog_9_method_9_code
def yX7_tryOrders : MethodName := ⟨RX7, "tryOrders", "(IIIJJ)V"⟩
abbrev cX7_soonestTeller : ByteArray := prog_9_method_10_code
def yX7_soonestTeller : MethodName := ⟨RX7, "soonestTeller", "()I"⟩
abbrev cX7_sumFrom : ByteArray := prog_9_method_11_code
def yX7_sumFrom : MethodName := ⟨RX7, "sumFrom", "(I)J"⟩
def RX8 : String := "SecondLeft$Walk"
def TX8 : u_T := fun k => match k with
  | 0 => ("SecondLeft$Walk", "row", "[I", true)
  | 1 => ("SecondLeft$Walk", "kept", "[I", true)
  | 2 => ("SecondLeft$Walk", "steps", "I", false)
  | _ => ("SecondLeft$Walk", "free", "I", false)
def tyX8 : Nat → FieldType := fun k => match k with
  | 0 => .array .int
  | 1 => .array .int
  | 2 => .int
  | _ => .int
abbrev wsX80 : List Cond := u_ws RX8 TX8 4
theorem nmX8 : ∀ a, a < 4 → ∀ b, b < 4 → a ≠ b → (TX8 a).2.1 ≠ (TX8 b).2.1 := by decide +kernel
theorem tyX8_ok : ∀ k, k < 4 → parseFieldDescriptor (TX8 k).2.2.1 = some (tyX8 k) := by decide +kernel
abbrev cX8_init : ByteArray := prog_10_method_1_code
def yX8_init : MethodName := ⟨RX8, "<init>", "()V"⟩
abbrev cX8_copyFrom : ByteArray := prog_10_method_2_code
def yX8_copyFrom : MethodName := ⟨RX8, "copyFrom", "(LSecondLeft$Walk;)V"⟩
abbrev cX8_keepStep : ByteArray := prog_10_method_3_code
def yX8_keepStep : MethodName := ⟨RX8, "keepStep", "()V"⟩
abbrev cX8_takeBack : ByteArray := prog_10_method_4_code
def yX8_takeBack : MethodName := ⟨RX8, "takeBack", "()I"⟩
def RX9 : String := "SecondLeft$Walker"
def TX9 : u_T := fun k => match k with
  | 0 => ("SecondLeft$Walker", "town", "LSecondLeft$Town;", true)
  | 1 => ("SecondLeft$Walker", "walk", "LSecondLeft$Walk;", true)
  | 2 => ("SecondLeft$Walker", "laws", "LSecondLeft$Laws;", true)
  | _ => ("SecondLeft$Walker", "going", "LSecondLeft$Going;", true)
def tyX9 : Nat → FieldType := fun k => match k with
  | 0 => .object "SecondLeft$Town"
  | 1 => .object "SecondLeft$Walk"
  | 2 => .object "SecondLeft$Laws"
  | _ => .object "SecondLeft$Going"
abbrev wsX90 : List Cond := u_ws RX9 TX9 4
theorem nmX9 : ∀ a, a < 4 → ∀ b, b < 4 → a ≠ b → (TX9 a).2.1 ≠ (TX9 b).2.1 := by decide +kernel
theorem tyX9_ok : ∀ k, k < 4 → parseFieldDescriptor (TX9 k).2.2.1 = some (tyX9 k) := by decide +kernel
abbrev cX9_init : ByteArray := prog_11_method_1_code
def yX9_init : MethodName := ⟨RX9, "<init>", "(LSecondLeft$Town;LSecondLeft$Walk;LSecondLeft$Laws;LSecondLeft$Going;)V"⟩
abbrev cX9_isThere : ByteArray := prog_11_method_2_code
def yX9_isThere : MethodName := ⟨RX9, "isThere", "()Z"⟩
abbrev cX9_begins : ByteArray := prog_11_method_3_code
def yX9_begins : MethodName := ⟨RX9, "begins", "(II)Z"⟩
abbrev cX9_place : ByteArray := prog_11_method_4_code
def yX9_place : MethodName := ⟨RX9, "place", "(III)V"⟩
abbrev cX9_canGo : ByteArray := prog_11_method_5_code
def yX9_canGo : MethodName := ⟨RX9, "canGo", "(I)Z"⟩
abbrev cX9_goes : ByteArray := prog_11_method_6_code
def yX9_goes : MethodName := ⟨RX9, "goes", "(I)Z"⟩
abbrev cX9_goAhead : ByteArray := prog_11_method_7_code
def yX9_goAhead : MethodName := ⟨RX9, "goAhead", "()V"⟩
abbrev cX9_turns : ByteArray := prog_11_method_8_code
def yX9_turns : MethodName := ⟨RX9, "turns", "(I)I"⟩
abbrev cX9_faceTo : ByteArray := prog_11_method_9_code
def yX9_faceTo : MethodName := ⟨RX9, "faceTo", "(I)V"⟩
abbrev cX9_asks : ByteArray := prog_11_method_10_code
def yX9_asks : MethodName := ⟨RX9, "asks", "(I)I"⟩
abbrev cX9_hear : ByteArray := prog_11_method_11_code
def yX9_hear : MethodName := ⟨RX9, "hear", "(I)V"⟩
abbrev cX9_follows : ByteArray := prog_11_method_12_code
def yX9_follows : MethodName := ⟨RX9, "follows", "(I)I"⟩
abbrev cX9_spendsDay : ByteArray := prog_11_method_13_code
def yX9_spendsDay : MethodName := ⟨RX9, "spendsDay", "(II)I"⟩
abbrev cX9_anew : ByteArray := prog_11_method_14_code
def yX9_anew : MethodName := ⟨RX9, "anew", "(I)I"⟩
abbrev cX9_drawn : ByteArray := prog_11_method_15_code
def yX9_drawn : MethodName := ⟨RX9, "drawn", "(I)V"⟩
abbrev cX9_hearLowest : ByteArray := prog_11_method_16_code
def yX9_hearLowest : MethodName := ⟨RX9, "hearLowest", "()V"⟩
abbrev cX9_plays : ByteArray := prog_11_method_17_code
def yX9_plays : MethodName := ⟨RX9, "plays", "(LSecondLeft$Text;)I"⟩
abbrev cX9_does : ByteArray := prog_11_method_18_code
def yX9_does : MethodName := ⟨RX9, "does", "([II)Z"⟩
def RX10 : String := "SecondLeft$Ways"
def TX10 : u_T := fun k => match k with
  | 0 => ("SecondLeft$Ways", "town", "LSecondLeft$Town;", true)
  | 1 => ("SecondLeft$Ways", "laws", "LSecondLeft$Laws;", true)
  | 2 => ("SecondLeft$Ways", "going", "LSecondLeft$Going;", true)
  | 3 => ("SecondLeft$Ways", "weights", "[I", true)
  | 4 => ("SecondLeft$Ways", "ends", "[I", true)
  | 5 => ("SecondLeft$Ways", "corners", "[I", true)
  | 6 => ("SecondLeft$Ways", "products", "[J", true)
  | _ => ("SecondLeft$Ways", "total", "J", false)
def tyX10 : Nat → FieldType := fun k => match k with
  | 0 => .object "SecondLeft$Town"
  | 1 => .object "SecondLeft$Laws"
  | 2 => .object "SecondLeft$Going"
  | 3 => .array .int
  | 4 => .array .int
  | 5 => .array .int
  | 6 => .array .long
  | _ => .long
abbrev wsX100 : List Cond := u_ws RX10 TX10 8
theorem nmX10 : ∀ a, a < 8 → ∀ b, b < 8 → a ≠ b → (TX10 a).2.1 ≠ (TX10 b).2.1 := by decide +kernel
theorem tyX10_ok : ∀ k, k < 8 → parseFieldDescriptor (TX10 k).2.2.1 = some (tyX10 k) := by decide +kernel
abbrev cX10_init : ByteArray := prog_12_method_1_code
def yX10_init : MethodName := ⟨RX10, "<init>", "(LSecondLeft$Town;LSecondLeft$Laws;LSecondLeft$Going;)V"⟩
abbrev cX10_setWeights : ByteArray := prog_12_method_2_code
def yX10_setWeights : MethodName := ⟨RX10, "setWeights", "(I)V"⟩
abbrev cX10_weigh : ByteArray := prog_12_method_3_code
def yX10_weigh : MethodName := ⟨RX10, "weigh", "(I)V"⟩
abbrev cX10_weightTo : ByteArray := prog_12_method_4_code
def yX10_weightTo : MethodName := ⟨RX10, "weightTo", "(II)I"⟩
abbrev cX10_multiply : ByteArray := prog_12_method_5_code
def yX10_multiply : MethodName := ⟨RX10, "multiply", "(I)V"⟩
abbrev cX10_listCorners : ByteArray := prog_12_method_6_code
def yX10_listCorners : MethodName := ⟨RX10, "listCorners", "()V"⟩
abbrev cX10_thatReach : ByteArray := prog_12_method_7_code
def yX10_thatReach : MethodName := ⟨RX10, "thatReach", "(I)I"⟩
abbrev cX10_safeWeight : ByteArray := prog_12_method_8_code
def yX10_safeWeight : MethodName := ⟨RX10, "safeWeight", "(II)I"⟩
def RX11 : String := "SecondLeft"
def TX11 : u_T := fun k => match k with
  | 0 => ("SecondLeft", "town", "LSecondLeft$Town;", true)
  | 1 => ("SecondLeft", "townOfImage", "LSecondLeft$Town;", true)
  | 2 => ("SecondLeft", "now", "LSecondLeft$Walk;", true)
  | 3 => ("SecondLeft", "walkOfImage", "LSecondLeft$Walk;", true)
  | 4 => ("SecondLeft", "tape", "[I", true)
  | 5 => ("SecondLeft", "reader", "LSecondLeft$Reader;", true)
  | 6 => ("SecondLeft", "laws", "LSecondLeft$Laws;", true)
  | 7 => ("SecondLeft", "going", "LSecondLeft$Going;", true)
  | 8 => ("SecondLeft", "hand", "LSecondLeft$Walker;", true)
  | 9 => ("SecondLeft", "ways", "LSecondLeft$Ways;", true)
  | 10 => ("SecondLeft", "visits", "LSecondLeft$Visits;", true)
  | 11 => ("SecondLeft", "finder", "LSecondLeft$Finder;", true)
  | 12 => ("SecondLeft", "posts", "LSecondLeft$Posts;", true)
  | 13 => ("SecondLeft", "fed", "I", false)
  | 14 => ("SecondLeft", "latestFault", "I", false)
  | _ => ("SecondLeft", "latestPlace", "I", false)
def tyX11 : Nat → FieldType := fun k => match k with
  | 0 => .object "SecondLeft$Town"
  | 1 => .object "SecondLeft$Town"
  | 2 => .object "SecondLeft$Walk"
  | 3 => .object "SecondLeft$Walk"
  | 4 => .array .int
  | 5 => .object "SecondLeft$Reader"
  | 6 => .object "SecondLeft$Laws"
  | 7 => .object "SecondLeft$Going"
  | 8 => .object "SecondLeft$Walker"
  | 9 => .object "SecondLeft$Ways"
  | 10 => .object "SecondLeft$Visits"
  | 11 => .object "SecondLeft$Finder"
  | 12 => .object "SecondLeft$Posts"
  | 13 => .int
  | 14 => .int
  | _ => .int
abbrev wsX110 : List Cond := u_ws RX11 TX11 16
theorem nmX11 : ∀ a, a < 16 → ∀ b, b < 16 → a ≠ b → (TX11 a).2.1 ≠ (TX11 b).2.1 := by decide +kernel
theorem tyX11_ok : ∀ k, k < 16 → parseFieldDescriptor (TX11 k).2.2.1 = some (tyX11 k) := by decide +kernel
abbrev cX11_init : ByteArray := prog_1_method_1_code
def yX11_init : MethodName := ⟨RX11, "<init>", "()V"⟩
abbrev cX11_corner : ByteArray := prog_1_method_2_code
def yX11_corner : MethodName := ⟨RX11, "corner", "(I)I"⟩
abbrev cX11_street : ByteArray := prog_1_method_3_code
def yX11_street : MethodName := ⟨RX11, "street", "(IIIZ)Z"⟩
abbrev cX11_goal : ByteArray := prog_1_method_4_code
def yX11_goal : MethodName := ⟨RX11, "goal", "(I)Z"⟩
abbrev cX11_teller : ByteArray := prog_1_method_5_code
def yX11_teller : MethodName := ⟨RX11, "teller", "(IIII)I"⟩
abbrev cX11_telling : ByteArray := prog_1_method_6_code
def yX11_telling : MethodName := ⟨RX11, "telling", "(IIII)I"⟩
abbrev cX11_feed : ByteArray := prog_1_method_7_code
def yX11_feed : MethodName := ⟨RX11, "feed", "(IIIII)I"⟩
abbrev cX11_putBytes : ByteArray := prog_1_method_8_code
def yX11_putBytes : MethodName := ⟨RX11, "putBytes", "(I)V"⟩
abbrev cX11_end : ByteArray := prog_1_method_9_code
def yX11_end : MethodName := ⟨RX11, "end", "(I)I"⟩
abbrev cX11_text : ByteArray := prog_1_method_10_code
def yX11_text : MethodName := ⟨RX11, "text", "()I"⟩
abbrev cX11_fault : ByteArray := prog_1_method_11_code
def yX11_fault : MethodName := ⟨RX11, "fault", "(I)I"⟩
abbrev cX11_by : ByteArray := prog_1_method_12_code
def yX11_by : MethodName := ⟨RX11, "by", "(I)Z"⟩
abbrev cX11_start : ByteArray := prog_1_method_13_code
def yX11_start : MethodName := ⟨RX11, "start", "(II)Z"⟩
abbrev cX11_walk : ByteArray := prog_1_method_14_code
def yX11_walk : MethodName := ⟨RX11, "walk", "(I)I"⟩
abbrev cX11_turn : ByteArray := prog_1_method_15_code
def yX11_turn : MethodName := ⟨RX11, "turn", "(I)I"⟩
abbrev cX11_ask : ByteArray := prog_1_method_16_code
def yX11_ask : MethodName := ⟨RX11, "ask", "(I)I"⟩
abbrev cX11_follow : ByteArray := prog_1_method_17_code
def yX11_follow : MethodName := ⟨RX11, "follow", "(I)I"⟩
abbrev cX11_played : ByteArray := prog_1_method_18_code
def yX11_played : MethodName := ⟨RX11, "played", "(I)I"⟩
abbrev cX11_day : ByteArray := prog_1_method_19_code
def yX11_day : MethodName := ⟨RX11, "day", "(II)I"⟩
abbrev cX11_undo : ByteArray := prog_1_method_20_code
def yX11_undo : MethodName := ⟨RX11, "undo", "()I"⟩
abbrev cX11_walker : ByteArray := prog_1_method_21_code
def yX11_walker : MethodName := ⟨RX11, "walker", "(I)I"⟩
abbrev cX11_ofCorner : ByteArray := prog_1_method_22_code
def yX11_ofCorner : MethodName := ⟨RX11, "ofCorner", "(II)I"⟩
abbrev cX11_ofTeller : ByteArray := prog_1_method_23_code
def yX11_ofTeller : MethodName := ⟨RX11, "ofTeller", "(II)I"⟩
abbrev cX11_ofTelling : ByteArray := prog_1_method_24_code
def yX11_ofTelling : MethodName := ⟨RX11, "ofTelling", "(II)I"⟩
abbrev cX11_leads : ByteArray := prog_1_method_25_code
def yX11_leads : MethodName := ⟨RX11, "leads", "(II)I"⟩
abbrev cX11_likely : ByteArray := prog_1_method_26_code
def yX11_likely : MethodName := ⟨RX11, "likely", "(II)I"⟩
abbrev cX11_byAll : ByteArray := prog_1_method_27_code
def yX11_byAll : MethodName := ⟨RX11, "byAll", "(IIZ)J"⟩
abbrev cX11_clash : ByteArray := prog_1_method_28_code
def yX11_clash : MethodName := ⟨RX11, "clash", "(I)I"⟩
abbrev cX11_wrong : ByteArray := prog_1_method_29_code
def yX11_wrong : MethodName := ⟨RX11, "wrong", "(IZ)I"⟩
abbrev cX11_isLess : ByteArray := prog_1_method_30_code
def yX11_isLess : MethodName := ⟨RX11, "isLess", "(II)Z"⟩
abbrev cX11_far : ByteArray := prog_1_method_31_code
def yX11_far : MethodName := ⟨RX11, "far", "(II)I"⟩
abbrev cX11_see : ByteArray := prog_1_method_32_code
def yX11_see : MethodName := ⟨RX11, "see", "(II)J"⟩
abbrev cX11_orAsk : ByteArray := prog_1_method_33_code
def yX11_orAsk : MethodName := ⟨RX11, "orAsk", "(I)I"⟩
abbrev cX11_safeSoFar : ByteArray := prog_1_method_34_code
def yX11_safeSoFar : MethodName := ⟨RX11, "safeSoFar", "(IIZ)I"⟩
abbrev cX11_howFar : ByteArray := prog_1_method_35_code
def yX11_howFar : MethodName := ⟨RX11, "howFar", "(II)I"⟩
abbrev cX11_lost : ByteArray := prog_1_method_36_code
def yX11_lost : MethodName := ⟨RX11, "lost", "(II)I"⟩
abbrev cX11_listen : ByteArray := prog_1_method_37_code
def yX11_listen : MethodName := ⟨RX11, "listen", "(IIIIZ)J"⟩
abbrev cX11_tell : ByteArray := prog_1_method_38_code
def yX11_tell : MethodName := ⟨RX11, "tell", "(IIII)I"⟩
abbrev cX11_where : ByteArray := prog_1_method_39_code
def yX11_where : MethodName := ⟨RX11, "where", "(IZ)I"⟩
abbrev cX11_map : ByteArray := prog_1_method_40_code
def yX11_map : MethodName := ⟨RX11, "map", "(III)I"⟩
abbrev cX11_signs : ByteArray := prog_1_method_41_code
def yX11_signs : MethodName := ⟨RX11, "signs", "()I"⟩
abbrev cX11_whose : ByteArray := prog_1_method_42_code
def yX11_whose : MethodName := ⟨RX11, "whose", "(IIIZ)I"⟩
abbrev cX11_heard : ByteArray := prog_1_method_43_code
def yX11_heard : MethodName := ⟨RX11, "heard", "(I)I"⟩
abbrev cX11_image : ByteArray := prog_1_method_44_code
def yX11_image : MethodName := ⟨RX11, "image", "()I"⟩
abbrev cX11_back : ByteArray := prog_1_method_45_code
def yX11_back : MethodName := ⟨RX11, "back", "()I"⟩
abbrev cX11_about : ByteArray := prog_1_method_46_code
def yX11_about : MethodName := ⟨RX11, "about", "(I)I"⟩
abbrev cX11_isDirection : ByteArray := prog_1_method_47_code
def yX11_isDirection : MethodName := ⟨RX11, "isDirection", "(I)Z"⟩
abbrev cX11_isSlip : ByteArray := prog_1_method_48_code
def yX11_isSlip : MethodName := ⟨RX11, "isSlip", "(I)Z"⟩
abbrev cX11_held : ByteArray := prog_1_method_49_code
def yX11_held : MethodName := ⟨RX11, "held", "(III)I"⟩
abbrev cX11_power : ByteArray := prog_1_method_50_code
def yX11_power : MethodName := ⟨RX11, "power", "(JI)J"⟩
abbrev cX11_inLowestTerms : ByteArray := prog_1_method_51_code
def yX11_inLowestTerms : MethodName := ⟨RX11, "inLowestTerms", "(JJZ)J"⟩
def RX12 : String := "SecondLeftModel"
def TX12 : u_T := fun k => match k with
  | 0 => ("SecondLeftModel", "a", "[I", true)
  | 1 => ("SecondLeftModel", "image", "[I", true)
  | 2 => ("SecondLeftModel", "texts", "[I", true)
  | 3 => ("SecondLeftModel", "told", "[I", true)
  | 4 => ("SecondLeftModel", "toldMany", "I", false)
  | 5 => ("SecondLeftModel", "tape", "[I", true)
  | 6 => ("SecondLeftModel", "taped", "I", false)
  | 7 => ("SecondLeftModel", "fault", "I", false)
  | 8 => ("SecondLeftModel", "faultPlace", "I", false)
  | 9 => ("SecondLeftModel", "at", "I", false)
  | 10 => ("SecondLeftModel", "place", "I", false)
  | 11 => ("SecondLeftModel", "token", "I", false)
  | 12 => ("SecondLeftModel", "number", "I", false)
  | 13 => ("SecondLeftModel", "word", "J", false)
  | 14 => ("SecondLeftModel", "text0", "I", false)
  | 15 => ("SecondLeftModel", "written", "I", false)
  | 16 => ("SecondLeftModel", "sort0", "I", false)
  | 17 => ("SecondLeftModel", "pile", "[I", true)
  | 18 => ("SecondLeftModel", "piled", "I", false)
  | 19 => ("SecondLeftModel", "opens", "I", false)
  | 20 => ("SecondLeftModel", "isWhole", "Z", false)
  | 21 => ("SecondLeftModel", "once", "I", false)
  | 22 => ("SecondLeftModel", "named", "[I", true)
  | 23 => ("SecondLeftModel", "values", "[J", true)
  | 24 => ("SecondLeftModel", "here", "I", false)
  | 25 => ("SecondLeftModel", "face", "I", false)
  | 26 => ("SecondLeftModel", "spent", "I", false)
  | 27 => ("SecondLeftModel", "came", "I", false)
  | 28 => ("SecondLeftModel", "doubts", "I", false)
  | 29 => ("SecondLeftModel", "doubtful", "I", false)
  | 30 => ("SecondLeftModel", "cameBy", "I", false)
  | 31 => ("SecondLeftModel", "going", "[I", true)
  | 32 => ("SecondLeftModel", "goingMany", "I", false)
  | 33 => ("SecondLeftModel", "wayTo", "[I", true)
  | 34 => ("SecondLeftModel", "wayWeight", "[I", true)
  | 35 => ("SecondLeftModel", "products", "[J", true)
  | 36 => ("SecondLeftModel", "allProducts", "J", false)
  | 37 => ("SecondLeftModel", "canLead", "[I", true)
  | 38 => ("SecondLeftModel", "seconds", "[I", true)
  | 39 => ("SecondLeftModel", "isDone", "[Z", true)
  | 40 => ("SecondLeftModel", "doubted", "[I", true)
  | 41 => ("SecondLeftModel", "order", "[I", true)
  | 42 => ("SecondLeftModel", "bestOrder", "[I", true)
  | 43 => ("SecondLeftModel", "doubtedMany", "I", false)
  | 44 => ("SecondLeftModel", "bestTime", "J", false)
  | 45 => ("SecondLeftModel", "streets", "[I", true)
  | _ => ("SecondLeftModel", "shows", "[I", true)
def tyX12 : Nat → FieldType := fun k => match k with
  | 0 => .array .int
  | 1 => .array .int
  | 2 => .array .int
  | 3 => .array .int
  | 4 => .int
  | 5 => .array .int
  | 6 => .int
  | 7 => .int
  | 8 => .int
  | 9 => .int
  | 10 => .int
  | 11 => .int
  | 12 => .int
  | 13 => .long
  | 14 => .int
  | 15 => .int
  | 16 => .int
  | 17 => .array .int
  | 18 => .int
  | 19 => .int
  | 20 => .boolean
  | 21 => .int
  | 22 => .array .int
  | 23 => .array .long
  | 24 => .int
  | 25 => .int
  | 26 => .int
  | 27 => .int
  | 28 => .int
  | 29 => .int
  | 30 => .int
  | 31 => .array .int
  | 32 => .int
  | 33 => .array .int
  | 34 => .array .int
  | 35 => .array .long
  | 36 => .long
  | 37 => .array .int
  | 38 => .array .int
  | 39 => .array .boolean
  | 40 => .array .int
  | 41 => .array .int
  | 42 => .array .int
  | 43 => .int
  | 44 => .long
  | 45 => .array .int
  | _ => .array .int
abbrev wsX120 : List Cond := u_ws RX12 TX12 47
theorem nmX12 : ∀ a, a < 47 → ∀ b, b < 47 → a ≠ b → (TX12 a).2.1 ≠ (TX12 b).2.1 := by decide +kernel
theorem tyX12_ok : ∀ k, k < 47 → parseFieldDescriptor (TX12 k).2.2.1 = some (tyX12 k) := by decide +kernel
abbrev cX12_init : ByteArray := prog_14_method_1_code
def yX12_init : MethodName := ⟨RX12, "<init>", "()V"⟩
abbrev cX12_copy : ByteArray := prog_14_method_2_code
def yX12_copy : MethodName := ⟨RX12, "copy", "([I[I)V"⟩
abbrev cX12_isIn : ByteArray := prog_14_method_3_code
def yX12_isIn : MethodName := ⟨RX12, "isIn", "(III)Z"⟩
abbrev cX12_has : ByteArray := prog_14_method_4_code
def yX12_has : MethodName := ⟨RX12, "has", "(II)Z"⟩
abbrev cX12_bits : ByteArray := prog_14_method_5_code
def yX12_bits : MethodName := ⟨RX12, "bits", "(I)I"⟩
abbrev cX12_isCorner : ByteArray := prog_14_method_6_code
def yX12_isCorner : MethodName := ⟨RX12, "isCorner", "(I)Z"⟩
abbrev cX12_isTeller : ByteArray := prog_14_method_7_code
def yX12_isTeller : MethodName := ⟨RX12, "isTeller", "(I)Z"⟩
abbrev cX12_isTelling : ByteArray := prog_14_method_8_code
def yX12_isTelling : MethodName := ⟨RX12, "isTelling", "(I)Z"⟩
abbrev cX12_sightOf : ByteArray := prog_14_method_9_code
def yX12_sightOf : MethodName := ⟨RX12, "sightOf", "(I)I"⟩
abbrev cX12_streetOf : ByteArray := prog_14_method_10_code
def yX12_streetOf : MethodName := ⟨RX12, "streetOf", "(II)I"⟩
abbrev cX12_isLane : ByteArray := prog_14_method_11_code
def yX12_isLane : MethodName := ⟨RX12, "isLane", "(II)Z"⟩
abbrev cX12_corner : ByteArray := prog_14_method_12_code
def yX12_corner : MethodName := ⟨RX12, "corner", "(I)I"⟩
abbrev cX12_street : ByteArray := prog_14_method_13_code
def yX12_street : MethodName := ⟨RX12, "street", "(IIIZ)Z"⟩
abbrev cX12_goal : ByteArray := prog_14_method_14_code
def yX12_goal : MethodName := ⟨RX12, "goal", "(I)Z"⟩
abbrev cX12_teller : ByteArray := prog_14_method_15_code
def yX12_teller : MethodName := ⟨RX12, "teller", "(IIII)I"⟩
abbrev cX12_isTurn : ByteArray := prog_14_method_16_code
def yX12_isTurn : MethodName := ⟨RX12, "isTurn", "(I)Z"⟩
abbrev cX12_take : ByteArray := prog_14_method_17_code
def yX12_take : MethodName := ⟨RX12, "take", "(I)Z"⟩
abbrev cX12_tellNow : ByteArray := prog_14_method_18_code
def yX12_tellNow : MethodName := ⟨RX12, "tellNow", "(II)I"⟩
abbrev cX12_telling : ByteArray := prog_14_method_19_code
def yX12_telling : MethodName := ⟨RX12, "telling", "(IIII)I"⟩
abbrev cX12_tellerOf : ByteArray := prog_14_method_20_code
def yX12_tellerOf : MethodName := ⟨RX12, "tellerOf", "(I)I"⟩
abbrev cX12_facingOf : ByteArray := prog_14_method_21_code
def yX12_facingOf : MethodName := ⟨RX12, "facingOf", "(I)I"⟩
abbrev cX12_turnsOf : ByteArray := prog_14_method_22_code
def yX12_turnsOf : MethodName := ⟨RX12, "turnsOf", "(I)I"⟩
abbrev cX12_turnAt : ByteArray := prog_14_method_23_code
def yX12_turnAt : MethodName := ⟨RX12, "turnAt", "(II)I"⟩
abbrev cX12_cornerOf : ByteArray := prog_14_method_24_code
def yX12_cornerOf : MethodName := ⟨RX12, "cornerOf", "(I)I"⟩
abbrev cX12_four : ByteArray := prog_14_method_25_code
def yX12_four : MethodName := ⟨RX12, "four", "(I)V"⟩
abbrev cX12_feed : ByteArray := prog_14_method_26_code
def yX12_feed : MethodName := ⟨RX12, "feed", "(IIIII)I"⟩
abbrev cX12_end : ByteArray := prog_14_method_27_code
def yX12_end : MethodName := ⟨RX12, "end", "(I)I"⟩
abbrev cX12_byteAt : ByteArray := prog_14_method_28_code
def yX12_byteAt : MethodName := ⟨RX12, "byteAt", "(I)I"⟩
abbrev cX12_isLetterByte : ByteArray := prog_14_method_29_code
def yX12_isLetterByte : MethodName := ⟨RX12, "isLetterByte", "(I)Z"⟩
abbrev cX12_isFigure : ByteArray := prog_14_method_30_code
def yX12_isFigure : MethodName := ⟨RX12, "isFigure", "(I)Z"⟩
abbrev cX12_isSign : ByteArray := prog_14_method_31_code
def yX12_isSign : MethodName := ⟨RX12, "isSign", "(I)Z"⟩
abbrev cX12_nextToken : ByteArray := prog_14_method_32_code
def yX12_nextToken : MethodName := ⟨RX12, "nextToken", "()V"⟩
abbrev cX12_w2 : ByteArray := prog_14_method_33_code
def yX12_w2 : MethodName := ⟨RX12, "w2", "(II)J"⟩
abbrev cX12_w3 : ByteArray := prog_14_method_34_code
def yX12_w3 : MethodName := ⟨RX12, "w3", "(III)J"⟩
abbrev cX12_w4 : ByteArray := prog_14_method_35_code
def yX12_w4 : MethodName := ⟨RX12, "w4", "(IIII)J"⟩
abbrev cX12_w5 : ByteArray := prog_14_method_36_code
def yX12_w5 : MethodName := ⟨RX12, "w5", "(IIIII)J"⟩
abbrev cX12_w6 : ByteArray := prog_14_method_37_code
def yX12_w6 : MethodName := ⟨RX12, "w6", "(IIIIII)J"⟩
abbrev cX12_isWord : ByteArray := prog_14_method_38_code
def yX12_isWord : MethodName := ⟨RX12, "isWord", "(J)Z"⟩
abbrev cX12_emit : ByteArray := prog_14_method_39_code
def yX12_emit : MethodName := ⟨RX12, "emit", "(II)V"⟩
abbrev cX12_nameOf : ByteArray := prog_14_method_40_code
def yX12_nameOf : MethodName := ⟨RX12, "nameOf", "()I"⟩
abbrev cX12_isOf : ByteArray := prog_14_method_41_code
def yX12_isOf : MethodName := ⟨RX12, "isOf", "(I)Z"⟩
abbrev cX12_rank : ByteArray := prog_14_method_42_code
def yX12_rank : MethodName := ⟨RX12, "rank", "(I)I"⟩
abbrev cX12_settlePile : ByteArray := prog_14_method_43_code
def yX12_settlePile : MethodName := ⟨RX12, "settlePile", "(I)V"⟩
abbrev cX12_opened : ByteArray := prog_14_method_44_code
def yX12_opened : MethodName := ⟨RX12, "opened", "(I)I"⟩
abbrev cX12_beginOne : ByteArray := prog_14_method_45_code
def yX12_beginOne : MethodName := ⟨RX12, "beginOne", "()I"⟩
abbrev cX12_openAt : ByteArray := prog_14_method_46_code
def yX12_openAt : MethodName := ⟨RX12, "openAt", "()I"⟩
abbrev cX12_shut : ByteArray := prog_14_method_47_code
def yX12_shut : MethodName := ⟨RX12, "shut", "(I)V"⟩
abbrev cX12_behindOne : ByteArray := prog_14_method_48_code
def yX12_behindOne : MethodName := ⟨RX12, "behindOne", "()I"⟩
abbrev cX12_summed : ByteArray := prog_14_method_49_code
def yX12_summed : MethodName := ⟨RX12, "summed", "()I"⟩
abbrev cX12_figure : ByteArray := prog_14_method_50_code
def yX12_figure : MethodName := ⟨RX12, "figure", "(III)I"⟩
abbrev cX12_worded : ByteArray := prog_14_method_51_code
def yX12_worded : MethodName := ⟨RX12, "worded", "(JIII)I"⟩
abbrev cX12_sideOf : ByteArray := prog_14_method_52_code
def yX12_sideOf : MethodName := ⟨RX12, "sideOf", "(J)I"⟩
abbrev cX12_streetClause : ByteArray := prog_14_method_53_code
def yX12_streetClause : MethodName := ⟨RX12, "streetClause", "(I)I"⟩
abbrev cX12_oneTurn : ByteArray := prog_14_method_54_code
def yX12_oneTurn : MethodName := ⟨RX12, "oneTurn", "(II)I"⟩
abbrev cX12_tellingClause : ByteArray := prog_14_method_55_code
def yX12_tellingClause : MethodName := ⟨RX12, "tellingClause", "(I)I"⟩
abbrev cX12_startClause : ByteArray := prog_14_method_56_code
def yX12_startClause : MethodName := ⟨RX12, "startClause", "(I)I"⟩
abbrev cX12_turnClause : ByteArray := prog_14_method_57_code
def yX12_turnClause : MethodName := ⟨RX12, "turnClause", "(I)I"⟩
abbrev cX12_lawClause : ByteArray := prog_14_method_58_code
def yX12_lawClause : MethodName := ⟨RX12, "lawClause", "(I)I"⟩
abbrev cX12_body : ByteArray := prog_14_method_59_code
def yX12_body : MethodName := ⟨RX12, "body", "(II)I"⟩
abbrev cX12_sortOf : ByteArray := prog_14_method_60_code
def yX12_sortOf : MethodName := ⟨RX12, "sortOf", "()I"⟩
abbrev cX12_clause : ByteArray := prog_14_method_61_code
def yX12_clause : MethodName := ⟨RX12, "clause", "()I"⟩
abbrev cX12_readText : ByteArray := prog_14_method_62_code
def yX12_readText : MethodName := ⟨RX12, "readText", "()I"⟩
abbrev cX12_text : ByteArray := prog_14_method_63_code
def yX12_text : MethodName := ⟨RX12, "text", "()I"⟩
abbrev cX12_fault : ByteArray := prog_14_method_64_code
def yX12_fault : MethodName := ⟨RX12, "fault", "(I)I"⟩
abbrev cX12_by : ByteArray := prog_14_method_65_code
def yX12_by : MethodName := ⟨RX12, "by", "(I)Z"⟩
abbrev cX12_held : ByteArray := prog_14_method_66_code
def yX12_held : MethodName := ⟨RX12, "held", "(J)J"⟩
abbrev cX12_two : ByteArray := prog_14_method_67_code
def yX12_two : MethodName := ⟨RX12, "two", "(IJJ)J"⟩
abbrev cX12_worked : ByteArray := prog_14_method_68_code
def yX12_worked : MethodName := ⟨RX12, "worked", "(I)I"⟩
abbrev cX12_says : ByteArray := prog_14_method_69_code
def yX12_says : MethodName := ⟨RX12, "says", "(IIII)I"⟩
abbrev cX12_nameTeller : ByteArray := prog_14_method_70_code
def yX12_nameTeller : MethodName := ⟨RX12, "nameTeller", "(I)V"⟩
abbrev cX12_slipOf : ByteArray := prog_14_method_71_code
def yX12_slipOf : MethodName := ⟨RX12, "slipOf", "(II)I"⟩
abbrev cX12_paceOf : ByteArray := prog_14_method_72_code
def yX12_paceOf : MethodName := ⟨RX12, "paceOf", "(II)I"⟩
abbrev cX12_asksOf : ByteArray := prog_14_method_73_code
def yX12_asksOf : MethodName := ⟨RX12, "asksOf", "(I)I"⟩
abbrev cX12_begin : ByteArray := prog_14_method_74_code
def yX12_begin : MethodName := ⟨RX12, "begin", "(II)V"⟩
abbrev cX12_isDoubt : ByteArray := prog_14_method_75_code
def yX12_isDoubt : MethodName := ⟨RX12, "isDoubt", "(I)Z"⟩
abbrev cX12_goOn : ByteArray := prog_14_method_76_code
def yX12_goOn : MethodName := ⟨RX12, "goOn", "()Z"⟩
abbrev cX12_isCounted : ByteArray := prog_14_method_77_code
def yX12_isCounted : MethodName := ⟨RX12, "isCounted", "(II)Z"⟩
abbrev cX12_goTurn : ByteArray := prog_14_method_78_code
def yX12_goTurn : MethodName := ⟨RX12, "goTurn", "(II)Z"⟩
abbrev cX12_takeTurns : ByteArray := prog_14_method_79_code
def yX12_takeTurns : MethodName := ⟨RX12, "takeTurns", "(II)V"⟩
abbrev cX12_goAll : ByteArray := prog_14_method_80_code
def yX12_goAll : MethodName := ⟨RX12, "goAll", "(I)Z"⟩
abbrev cX12_leadsOf : ByteArray := prog_14_method_81_code
def yX12_leadsOf : MethodName := ⟨RX12, "leadsOf", "(II)I"⟩
abbrev cX12_keep : ByteArray := prog_14_method_82_code
def yX12_keep : MethodName := ⟨RX12, "keep", "()V"⟩
abbrev cX12_undo : ByteArray := prog_14_method_83_code
def yX12_undo : MethodName := ⟨RX12, "undo", "()I"⟩
abbrev cX12_isWalker : ByteArray := prog_14_method_84_code
def yX12_isWalker : MethodName := ⟨RX12, "isWalker", "()Z"⟩
abbrev cX12_startNow : ByteArray := prog_14_method_85_code
def yX12_startNow : MethodName := ⟨RX12, "startNow", "(II)V"⟩
abbrev cX12_start : ByteArray := prog_14_method_86_code
def yX12_start : MethodName := ⟨RX12, "start", "(II)Z"⟩
abbrev cX12_isAhead : ByteArray := prog_14_method_87_code
def yX12_isAhead : MethodName := ⟨RX12, "isAhead", "()Z"⟩
abbrev cX12_walkNow : ByteArray := prog_14_method_88_code
def yX12_walkNow : MethodName := ⟨RX12, "walkNow", "()V"⟩
abbrev cX12_walkable : ByteArray := prog_14_method_89_code
def yX12_walkable : MethodName := ⟨RX12, "walkable", "(I)I"⟩
abbrev cX12_walkSo : ByteArray := prog_14_method_90_code
def yX12_walkSo : MethodName := ⟨RX12, "walkSo", "(I)V"⟩
abbrev cX12_walk : ByteArray := prog_14_method_91_code
def yX12_walk : MethodName := ⟨RX12, "walk", "(I)I"⟩
abbrev cX12_turned : ByteArray := prog_14_method_92_code
def yX12_turned : MethodName := ⟨RX12, "turned", "(II)I"⟩
abbrev cX12_turn : ByteArray := prog_14_method_93_code
def yX12_turn : MethodName := ⟨RX12, "turn", "(I)I"⟩
abbrev cX12_askNow : ByteArray := prog_14_method_94_code
def yX12_askNow : MethodName := ⟨RX12, "askNow", "(I)V"⟩
abbrev cX12_ask : ByteArray := prog_14_method_95_code
def yX12_ask : MethodName := ⟨RX12, "ask", "(I)I"⟩
abbrev cX12_follow : ByteArray := prog_14_method_96_code
def yX12_follow : MethodName := ⟨RX12, "follow", "(I)I"⟩
abbrev cX12_isWalked : ByteArray := prog_14_method_97_code
def yX12_isWalked : MethodName := ⟨RX12, "isWalked", "(I)Z"⟩
abbrev cX12_isTaught : ByteArray := prog_14_method_98_code
def yX12_isTaught : MethodName := ⟨RX12, "isTaught", "(I)Z"⟩
abbrev cX12_isPlayed : ByteArray := prog_14_method_99_code
def yX12_isPlayed : MethodName := ⟨RX12, "isPlayed", "(I)Z"⟩
abbrev cX12_played : ByteArray := prog_14_method_100_code
def yX12_played : MethodName := ⟨RX12, "played", "(I)I"⟩
abbrev cX12_anew : ByteArray := prog_14_method_101_code
def yX12_anew : MethodName := ⟨RX12, "anew", "()V"⟩
abbrev cX12_oneOfDay : ByteArray := prog_14_method_102_code
def yX12_oneOfDay : MethodName := ⟨RX12, "oneOfDay", "()V"⟩
abbrev cX12_day : ByteArray := prog_14_method_103_code
def yX12_day : MethodName := ⟨RX12, "day", "(II)I"⟩
abbrev cX12_walker : ByteArray := prog_14_method_104_code
def yX12_walker : MethodName := ⟨RX12, "walker", "(I)I"⟩
abbrev cX12_ofCorner : ByteArray := prog_14_method_105_code
def yX12_ofCorner : MethodName := ⟨RX12, "ofCorner", "(II)I"⟩
abbrev cX12_ofTeller : ByteArray := prog_14_method_106_code
def yX12_ofTeller : MethodName := ⟨RX12, "ofTeller", "(II)I"⟩
abbrev cX12_ofTelling : ByteArray := prog_14_method_107_code
def yX12_ofTelling : MethodName := ⟨RX12, "ofTelling", "(II)I"⟩
abbrev cX12_leads : ByteArray := prog_14_method_108_code
def yX12_leads : MethodName := ⟨RX12, "leads", "(II)I"⟩
abbrev cX12_findWeights : ByteArray := prog_14_method_109_code
def yX12_findWeights : MethodName := ⟨RX12, "findWeights", "(I)V"⟩
abbrev cX12_findWays : ByteArray := prog_14_method_110_code
def yX12_findWays : MethodName := ⟨RX12, "findWays", "(I)V"⟩
abbrev cX12_weightTo : ByteArray := prog_14_method_111_code
def yX12_weightTo : MethodName := ⟨RX12, "weightTo", "(I)I"⟩
abbrev cX12_likely : ByteArray := prog_14_method_112_code
def yX12_likely : MethodName := ⟨RX12, "likely", "(II)I"⟩
abbrev cX12_common : ByteArray := prog_14_method_113_code
def yX12_common : MethodName := ⟨RX12, "common", "(JJ)J"⟩
abbrev cX12_part : ByteArray := prog_14_method_114_code
def yX12_part : MethodName := ⟨RX12, "part", "(JJZ)J"⟩
abbrev cX12_findProducts : ByteArray := prog_14_method_115_code
def yX12_findProducts : MethodName := ⟨RX12, "findProducts", "(I)Z"⟩
abbrev cX12_byAll : ByteArray := prog_14_method_116_code
def yX12_byAll : MethodName := ⟨RX12, "byAll", "(IIZ)J"⟩
abbrev cX12_findLeads : ByteArray := prog_14_method_117_code
def yX12_findLeads : MethodName := ⟨RX12, "findLeads", "()V"⟩
abbrev cX12_clash : ByteArray := prog_14_method_118_code
def yX12_clash : MethodName := ⟨RX12, "clash", "(I)I"⟩
abbrev cX12_wrong : ByteArray := prog_14_method_119_code
def yX12_wrong : MethodName := ⟨RX12, "wrong", "(IZ)I"⟩
abbrev cX12_heard : ByteArray := prog_14_method_120_code
def yX12_heard : MethodName := ⟨RX12, "heard", "(I)I"⟩
abbrev cX12_whose : ByteArray := prog_14_method_121_code
def yX12_whose : MethodName := ⟨RX12, "whose", "(IIIZ)I"⟩
abbrev cX12_nearest : ByteArray := prog_14_method_122_code
def yX12_nearest : MethodName := ⟨RX12, "nearest", "(I)I"⟩
abbrev cX12_findFar : ByteArray := prog_14_method_123_code
def yX12_findFar : MethodName := ⟨RX12, "findFar", "(I)V"⟩
abbrev cX12_far : ByteArray := prog_14_method_124_code
def yX12_far : MethodName := ⟨RX12, "far", "(II)I"⟩
abbrev cX12_timeOf : ByteArray := prog_14_method_125_code
def yX12_timeOf : MethodName := ⟨RX12, "timeOf", "()J"⟩
abbrev cX12_nextOrder : ByteArray := prog_14_method_126_code
def yX12_nextOrder : MethodName := ⟨RX12, "nextOrder", "()Z"⟩
abbrev cX12_findOrder : ByteArray := prog_14_method_127_code
def yX12_findOrder : MethodName := ⟨RX12, "findOrder", "(I)Z"⟩
abbrev cX12_see : ByteArray := prog_14_method_128_code
def yX12_see : MethodName := ⟨RX12, "see", "(II)J"⟩
abbrev cX12_timeByAsking : ByteArray := prog_14_method_129_code
def yX12_timeByAsking : MethodName := ⟨RX12, "timeByAsking", "(I)J"⟩
abbrev cX12_orAsk : ByteArray := prog_14_method_130_code
def yX12_orAsk : MethodName := ⟨RX12, "orAsk", "(I)I"⟩
abbrev cX12_stateOf : ByteArray := prog_14_method_131_code
def yX12_stateOf : MethodName := ⟨RX12, "stateOf", "(III)I"⟩
abbrev cX12_safeOf : ByteArray := prog_14_method_132_code
def yX12_safeOf : MethodName := ⟨RX12, "safeOf", "(II)I"⟩
abbrev cX12_safeSoFar : ByteArray := prog_14_method_133_code
def yX12_safeSoFar : MethodName := ⟨RX12, "safeSoFar", "(IIZ)I"⟩
abbrev cX12_howFar : ByteArray := prog_14_method_134_code
def yX12_howFar : MethodName := ⟨RX12, "howFar", "(II)I"⟩
abbrev cX12_lost : ByteArray := prog_14_method_135_code
def yX12_lost : MethodName := ⟨RX12, "lost", "(II)I"⟩
abbrev cX12_power : ByteArray := prog_14_method_136_code
def yX12_power : MethodName := ⟨RX12, "power", "(JI)J"⟩
abbrev cX12_listen : ByteArray := prog_14_method_137_code
def yX12_listen : MethodName := ⟨RX12, "listen", "(IIIIZ)J"⟩
abbrev cX12_turnOf : ByteArray := prog_14_method_138_code
def yX12_turnOf : MethodName := ⟨RX12, "turnOf", "(I)I"⟩
abbrev cX12_leadsToGoal : ByteArray := prog_14_method_139_code
def yX12_leadsToGoal : MethodName := ⟨RX12, "leadsToGoal", "(III)Z"⟩
abbrev cX12_findTelling : ByteArray := prog_14_method_140_code
def yX12_findTelling : MethodName := ⟨RX12, "findTelling", "(III)Z"⟩
abbrev cX12_tell : ByteArray := prog_14_method_141_code
def yX12_tell : MethodName := ⟨RX12, "tell", "(IIII)I"⟩
abbrev cX12_where : ByteArray := prog_14_method_142_code
def yX12_where : MethodName := ⟨RX12, "where", "(IZ)I"⟩
abbrev cX12_map : ByteArray := prog_14_method_143_code
def yX12_map : MethodName := ⟨RX12, "map", "(III)I"⟩
abbrev cX12_findShown : ByteArray := prog_14_method_144_code
def yX12_findShown : MethodName := ⟨RX12, "findShown", "()V"⟩
abbrev cX12_directionFrom : ByteArray := prog_14_method_145_code
def yX12_directionFrom : MethodName := ⟨RX12, "directionFrom", "(III)I"⟩
abbrev cX12_comesToGoal : ByteArray := prog_14_method_146_code
def yX12_comesToGoal : MethodName := ⟨RX12, "comesToGoal", "(III)Z"⟩
abbrev cX12_areEnough : ByteArray := prog_14_method_147_code
def yX12_areEnough : MethodName := ⟨RX12, "areEnough", "(I)Z"⟩
abbrev cX12_signs : ByteArray := prog_14_method_148_code
def yX12_signs : MethodName := ⟨RX12, "signs", "()I"⟩
abbrev cX12_image : ByteArray := prog_14_method_149_code
def yX12_image : MethodName := ⟨RX12, "image", "()I"⟩
abbrev cX12_back : ByteArray := prog_14_method_150_code
def yX12_back : MethodName := ⟨RX12, "back", "()I"⟩
abbrev cX12_about : ByteArray := prog_14_method_151_code
def yX12_about : MethodName := ⟨RX12, "about", "(I)I"⟩
def RJx145de : String := "java/io/Serializable"
def TJx145de : u_T := fun k => match k with
  | _ => ("", "", "", false)
def tyJx145de : Nat → FieldType := fun k => match k with
  | _ => .int
abbrev wsJx145de0 : List Cond := u_ws RJx145de TJx145de 0
theorem nmJx145de : ∀ a, a < 0 → ∀ b, b < 0 → a ≠ b → (TJx145de a).2.1 ≠ (TJx145de b).2.1 := by decide +kernel
theorem tyJx145de_ok : ∀ k, k < 0 → parseFieldDescriptor (TJx145de k).2.2.1 = some (tyJx145de k) := by decide +kernel
def RJx9f9b0 : String := "java/lang/CharSequence"
def TJx9f9b0 : u_T := fun k => match k with
  | _ => ("", "", "", false)
def tyJx9f9b0 : Nat → FieldType := fun k => match k with
  | _ => .int
abbrev wsJx9f9b00 : List Cond := u_ws RJx9f9b0 TJx9f9b0 0
theorem nmJx9f9b0 : ∀ a, a < 0 → ∀ b, b < 0 → a ≠ b → (TJx9f9b0 a).2.1 ≠ (TJx9f9b0 b).2.1 := by decide +kernel
theorem tyJx9f9b0_ok : ∀ k, k < 0 → parseFieldDescriptor (TJx9f9b0 k).2.2.1 = some (tyJx9f9b0 k) := by decide +kernel
def RJx8e188 : String := "java/lang/Cloneable"
def TJx8e188 : u_T := fun k => match k with
  | _ => ("", "", "", false)
def tyJx8e188 : Nat → FieldType := fun k => match k with
  | _ => .int
abbrev wsJx8e1880 : List Cond := u_ws RJx8e188 TJx8e188 0
theorem nmJx8e188 : ∀ a, a < 0 → ∀ b, b < 0 → a ≠ b → (TJx8e188 a).2.1 ≠ (TJx8e188 b).2.1 := by decide +kernel
theorem tyJx8e188_ok : ∀ k, k < 0 → parseFieldDescriptor (TJx8e188 k).2.2.1 = some (tyJx8e188 k) := by decide +kernel
def RJxb160c : String := "java/lang/Comparable"
def TJxb160c : u_T := fun k => match k with
  | _ => ("", "", "", false)
def tyJxb160c : Nat → FieldType := fun k => match k with
  | _ => .int
abbrev wsJxb160c0 : List Cond := u_ws RJxb160c TJxb160c 0
theorem nmJxb160c : ∀ a, a < 0 → ∀ b, b < 0 → a ≠ b → (TJxb160c a).2.1 ≠ (TJxb160c b).2.1 := by decide +kernel
theorem tyJxb160c_ok : ∀ k, k < 0 → parseFieldDescriptor (TJxb160c k).2.2.1 = some (tyJxb160c k) := by decide +kernel
def RJ6 : String := "java/lang/Integer"
def TJ6 : u_T := fun k => match k with
  | _ => ("", "", "", false)
def tyJ6 : Nat → FieldType := fun k => match k with
  | _ => .int
abbrev wsJ60 : List Cond := u_ws RJ6 TJ6 0
theorem nmJ6 : ∀ a, a < 0 → ∀ b, b < 0 → a ≠ b → (TJ6 a).2.1 ≠ (TJ6 b).2.1 := by decide +kernel
theorem tyJ6_ok : ∀ k, k < 0 → parseFieldDescriptor (TJ6 k).2.2.1 = some (tyJ6 k) := by decide +kernel
abbrev cJ6_bitCount_0f7a4 : ByteArray := prog_16_method_49_code
def yJ6_bitCount_0f7a4 : MethodName := ⟨RJ6, "bitCount", "(I)I"⟩
def RJ9 : String := "java/lang/Math"
def TJ9 : u_T := fun k => match k with
  | _ => ("", "", "", false)
def tyJ9 : Nat → FieldType := fun k => match k with
  | _ => .int
abbrev wsJ90 : List Cond := u_ws RJ9 TJ9 0
theorem nmJ9 : ∀ a, a < 0 → ∀ b, b < 0 → a ≠ b → (TJ9 a).2.1 ≠ (TJ9 b).2.1 := by decide +kernel
theorem tyJ9_ok : ∀ k, k < 0 → parseFieldDescriptor (TJ9 k).2.2.1 = some (tyJ9 k) := by decide +kernel
abbrev cJ9_max_7cf53 : ByteArray := prog_17_method_65_code
def yJ9_max_7cf53 : MethodName := ⟨RJ9, "max", "(II)I"⟩
abbrev cJ9_max_f86c9 : ByteArray := prog_17_method_66_code
def yJ9_max_f86c9 : MethodName := ⟨RJ9, "max", "(JJ)J"⟩
abbrev cJ9_min_7cf53 : ByteArray := prog_17_method_69_code
def yJ9_min_7cf53 : MethodName := ⟨RJ9, "min", "(II)I"⟩
abbrev cJ9_min_f86c9 : ByteArray := prog_17_method_70_code
def yJ9_min_f86c9 : MethodName := ⟨RJ9, "min", "(JJ)J"⟩
def RJ0 : String := "java/lang/String"
def TJ0 : u_T := fun k => match k with
  | _ => ("", "", "", false)
def tyJ0 : Nat → FieldType := fun k => match k with
  | _ => .int
abbrev wsJ00 : List Cond := u_ws RJ0 TJ0 0
theorem nmJ0 : ∀ a, a < 0 → ∀ b, b < 0 → a ≠ b → (TJ0 a).2.1 ≠ (TJ0 b).2.1 := by decide +kernel
theorem tyJ0_ok : ∀ k, k < 0 → parseFieldDescriptor (TJ0 k).2.2.1 = some (tyJ0 k) := by decide +kernel
abbrev cJ0_length_8abf5 : ByteArray := prog_18_method_54_code
def yJ0_length_8abf5 : MethodName := ⟨RJ0, "length", "()I"⟩
abbrev cJ0_charAt_5068e : ByteArray := prog_18_method_56_code
def yJ0_charAt_5068e : MethodName := ⟨RJ0, "charAt", "(I)C"⟩
abbrev cJ0_coder_7d493 : ByteArray := prog_18_method_152_code
def yJ0_coder_7d493 : MethodName := ⟨RJ0, "coder", "()B"⟩
abbrev cJ0_isLatin1_aae02 : ByteArray := prog_18_method_154_code
def yJ0_isLatin1_aae02 : MethodName := ⟨RJ0, "isLatin1", "()Z"⟩
abbrev cJ0_checkIndex_df160 : ByteArray := prog_18_method_155_code
def yJ0_checkIndex_df160 : MethodName := ⟨RJ0, "checkIndex", "(II)V"⟩
def RJ1 : String := "java/lang/StringLatin1"
def TJ1 : u_T := fun k => match k with
  | _ => ("", "", "", false)
def tyJ1 : Nat → FieldType := fun k => match k with
  | _ => .int
abbrev wsJ10 : List Cond := u_ws RJ1 TJ1 0
theorem nmJ1 : ∀ a, a < 0 → ∀ b, b < 0 → a ≠ b → (TJ1 a).2.1 ≠ (TJ1 b).2.1 := by decide +kernel
theorem tyJ1_ok : ∀ k, k < 0 → parseFieldDescriptor (TJ1 k).2.2.1 = some (tyJ1 k) := by decide +kernel
abbrev cJ1_charAt_3b067 : ByteArray := prog_19_method_2_code
def yJ1_charAt_3b067 : MethodName := ⟨RJ1, "charAt", "([BI)C"⟩
def RJ2 : String := "java/lang/StringUTF16"
def TJ2 : u_T := fun k => match k with
  | _ => ("", "", "", false)
def tyJ2 : Nat → FieldType := fun k => match k with
  | _ => .int
abbrev wsJ20 : List Cond := u_ws RJ2 TJ2 0
theorem nmJ2 : ∀ a, a < 0 → ∀ b, b < 0 → a ≠ b → (TJ2 a).2.1 ≠ (TJ2 b).2.1 := by decide +kernel
theorem tyJ2_ok : ∀ k, k < 0 → parseFieldDescriptor (TJ2 k).2.2.1 = some (tyJ2 k) := by decide +kernel
abbrev cJ2_getChar_3b067 : ByteArray := prog_20_method_5_code
def yJ2_getChar_3b067 : MethodName := ⟨RJ2, "getChar", "([BI)C"⟩
abbrev cJ2_length_9d52b : ByteArray := prog_20_method_6_code
def yJ2_length_9d52b : MethodName := ⟨RJ2, "length", "([B)I"⟩
abbrev cJ2_charAt_3b067 : ByteArray := prog_20_method_83_code
def yJ2_charAt_3b067 : MethodName := ⟨RJ2, "charAt", "([BI)C"⟩
abbrev cJ2_checkIndex_2214a : ByteArray := prog_20_method_91_code
def yJ2_checkIndex_2214a : MethodName := ⟨RJ2, "checkIndex", "(I[B)V"⟩
def RJ10 : String := "java/lang/System"
def TJ10 : u_T := fun k => match k with
  | _ => ("", "", "", false)
def tyJ10 : Nat → FieldType := fun k => match k with
  | _ => .int
abbrev wsJ100 : List Cond := u_ws RJ10 TJ10 0
theorem nmJ10 : ∀ a, a < 0 → ∀ b, b < 0 → a ≠ b → (TJ10 a).2.1 ≠ (TJ10 b).2.1 := by decide +kernel
theorem tyJ10_ok : ∀ k, k < 0 → parseFieldDescriptor (TJ10 k).2.2.1 = some (tyJ10 k) := by decide +kernel
def RJxfd54e : String := "java/lang/constant/Constable"
def TJxfd54e : u_T := fun k => match k with
  | _ => ("", "", "", false)
def tyJxfd54e : Nat → FieldType := fun k => match k with
  | _ => .int
abbrev wsJxfd54e0 : List Cond := u_ws RJxfd54e TJxfd54e 0
theorem nmJxfd54e : ∀ a, a < 0 → ∀ b, b < 0 → a ≠ b → (TJxfd54e a).2.1 ≠ (TJxfd54e b).2.1 := by decide +kernel
theorem tyJxfd54e_ok : ∀ k, k < 0 → parseFieldDescriptor (TJxfd54e k).2.2.1 = some (tyJxfd54e k) := by decide +kernel
def RJx3cf43 : String := "java/lang/constant/ConstantDesc"
def TJx3cf43 : u_T := fun k => match k with
  | _ => ("", "", "", false)
def tyJx3cf43 : Nat → FieldType := fun k => match k with
  | _ => .int
abbrev wsJx3cf430 : List Cond := u_ws RJx3cf43 TJx3cf43 0
theorem nmJx3cf43 : ∀ a, a < 0 → ∀ b, b < 0 → a ≠ b → (TJx3cf43 a).2.1 ≠ (TJx3cf43 b).2.1 := by decide +kernel
theorem tyJx3cf43_ok : ∀ k, k < 0 → parseFieldDescriptor (TJx3cf43 k).2.2.1 = some (tyJx3cf43 k) := by decide +kernel
def RJ7 : String := "java/util/Arrays"
def TJ7 : u_T := fun k => match k with
  | _ => ("", "", "", false)
def tyJ7 : Nat → FieldType := fun k => match k with
  | _ => .int
abbrev wsJ70 : List Cond := u_ws RJ7 TJ7 0
theorem nmJ7 : ∀ a, a < 0 → ∀ b, b < 0 → a ≠ b → (TJ7 a).2.1 ≠ (TJ7 b).2.1 := by decide +kernel
theorem tyJ7_ok : ∀ k, k < 0 → parseFieldDescriptor (TJ7 k).2.2.1 = some (tyJ7 k) := by decide +kernel
abbrev cJ7_fill_d0a16 : ByteArray := prog_22_method_101_code
def yJ7_fill_d0a16 : MethodName := ⟨RJ7, "fill", "([JJ)V"⟩
abbrev cJ7_fill_53178 : ByteArray := prog_22_method_103_code
def yJ7_fill_53178 : MethodName := ⟨RJ7, "fill", "([II)V"⟩
abbrev cJ7_copyOf_59c91 : ByteArray := prog_22_method_123_code
def yJ7_copyOf_59c91 : MethodName := ⟨RJ7, "copyOf", "([II)[I"⟩
def RJ3 : String := "jdk/internal/util/Preconditions"
def TJ3 : u_T := fun k => match k with
  | _ => ("", "", "", false)
def tyJ3 : Nat → FieldType := fun k => match k with
  | _ => .int
abbrev wsJ30 : List Cond := u_ws RJ3 TJ3 0
theorem nmJ3 : ∀ a, a < 0 → ∀ b, b < 0 → a ≠ b → (TJ3 a).2.1 ≠ (TJ3 b).2.1 := by decide +kernel
theorem tyJ3_ok : ∀ k, k < 0 → parseFieldDescriptor (TJ3 k).2.2.1 = some (tyJ3 k) := by decide +kernel
abbrev cJ3_checkIndex_8e157 : ByteArray := prog_23_method_11_code
def yJ3_checkIndex_8e157 : MethodName := ⟨RJ3, "checkIndex", "(IILjava/util/function/BiFunction;)I"⟩
def RL : String := "SecondLeftLaw"
abbrev cL_law : ByteArray := code
def yL_law : MethodName := ⟨RL, "law", "([I)Z"⟩
abbrev vwCl : List vw_C := [(RX0, TX0, 5), (RX1, TX1, 5), (RX2, TX2, 4), (RX3, TX3, 6), (RX4, TX4, 15), (RX5, TX5, 4), (RX6, TX6, 12), (RX7, TX7, 11), (RX8, TX8, 4), (RX9, TX9, 4), (RX10, TX10, 8), (RX11, TX11, 16), (RX12, TX12, 47)]
end
section
/-! THE ABSTRACT MACHINE: values are whole numbers (Int) or cells by their number; memory is shapes and three tables. -/
abbrev AV : Type := Int ⊕ (Int ⊕ Option Nat)
abbrev aI (x : Int) : AV := .inl x
abbrev aL (x : Int) : AV := .inr (.inl x)
abbrev aR (k : Nat) : AV := .inr (.inr (some k))
abbrev aN : AV := .inr (.inr none)
abbrev Sh : Type := Nat ⊕ (Nat × Nat)
abbrev Mem : Type := List Sh × (Nat → Nat → Int) × (Nat → Nat → Int) × (Nat → Nat → Option Nat)
def inI (x : Int) : Prop := -2147483648 ≤ x ∧ x < 2147483648
def inL (x : Int) : Prop := -9223372036854775808 ≤ x ∧ x < 9223372036854775808
def wI (x : Int) : Int := x.bmod 4294967296
def wL (x : Int) : Int := x.bmod 18446744073709551616
def mI (M : Mem) (k j : Nat) : Int := M.2.1 k j
def mJ (M : Mem) (k j : Nat) : Int := M.2.2.1 k j
def mR (M : Mem) (k j : Nat) : Option Nat := M.2.2.2 k j
def up2 {α : Type} (f : Nat → Nat → α) (k j : Nat) (v : α) : Nat → Nat → α := fun a b => if a = k ∧ b = j then v else f a b
def sI (M : Mem) (k j : Nat) (v : Int) : Mem := (M.1, up2 M.2.1 k j v, M.2.2)
def sJ (M : Mem) (k j : Nat) (v : Int) : Mem := (M.1, M.2.1, up2 M.2.2.1 k j v, M.2.2.2)
def sR (M : Mem) (k j : Nat) (v : Option Nat) : Mem := (M.1, M.2.1, M.2.2.1, up2 M.2.2.2 k j v)
theorem inI_wI (x : Int) : inI (wI x) := by
  unfold inI wI
  have h1 := Int.le_bmod (x := x) (m := 4294967296) (by decide)
  have h2 := Int.bmod_lt (x := x) (m := 4294967296) (by decide)
  omega
theorem inL_wL (x : Int) : inL (wL x) := by
  unfold inL wL
  have h1 := Int.le_bmod (x := x) (m := 18446744073709551616) (by decide)
  have h2 := Int.bmod_lt (x := x) (m := 18446744073709551616) (by decide)
  omega
theorem wI_id {x : Int} (h1 : -2147483648 ≤ x) (h2 : x < 2147483648) : wI x = x := by
  unfold wI
  exact Int.bmod_eq_of_le_mul_two (by omega) (by omega)
theorem wL_id {x : Int} (h1 : -9223372036854775808 ≤ x) (h2 : x < 9223372036854775808) : wL x = x := by
  unfold wL
  exact Int.bmod_eq_of_le_mul_two (by omega) (by omega)
theorem oI (x : Int) : (Int32.ofInt x).toInt = wI x := Int32.toInt_ofInt
theorem oL (x : Int) : (Int64.ofInt x).toInt = wL x := Int64.toInt_ofInt
theorem oI_id {x : Int} (h : inI x) : (Int32.ofInt x).toInt = x := (oI x).trans (wI_id h.1 h.2)
theorem oL_id {x : Int} (h : inL x) : (Int64.ofInt x).toInt = x := (oL x).trans (wL_id h.1 h.2)
theorem oI_to (x : Int32) : Int32.ofInt x.toInt = x := Int32.ofInt_toInt x
theorem oL_to (x : Int64) : Int64.ofInt x.toInt = x := Int64.ofInt_toInt x
theorem oI_w (x : Int) : Int32.ofInt (wI x) = Int32.ofInt x := by rw [← oI, oI_to]
theorem oL_w (x : Int) : Int64.ofInt (wL x) = Int64.ofInt x := by rw [← oL, oL_to]
theorem inI_to (x : Int32) : inI x.toInt := ⟨x.le_toInt, x.toInt_lt⟩
theorem inL_to (x : Int64) : inL x.toInt := ⟨x.le_toInt, x.toInt_lt⟩
theorem oI_add (x y : Int) : Int32.ofInt x + Int32.ofInt y = Int32.ofInt (wI (x + y)) := by rw [oI_w, Int32.ofInt_add]
theorem oI_sub (x y : Int) : Int32.ofInt x - Int32.ofInt y = Int32.ofInt (wI (x - y)) := by rw [oI_w, Int32.ofInt_sub]
theorem oI_mul (x y : Int) : Int32.ofInt x * Int32.ofInt y = Int32.ofInt (wI (x * y)) := by rw [oI_w, Int32.ofInt_mul]
theorem oI_neg (x : Int) : - Int32.ofInt x = Int32.ofInt (wI (-x)) := by rw [oI_w, Int32.ofInt_neg]
theorem oL_add (x y : Int) : Int64.ofInt x + Int64.ofInt y = Int64.ofInt (wL (x + y)) := by rw [oL_w, Int64.ofInt_add]
theorem oL_sub (x y : Int) : Int64.ofInt x - Int64.ofInt y = Int64.ofInt (wL (x - y)) := by rw [oL_w, Int64.ofInt_sub]
theorem oL_mul (x y : Int) : Int64.ofInt x * Int64.ofInt y = Int64.ofInt (wL (x * y)) := by rw [oL_w, Int64.ofInt_mul]
theorem oL_neg (x : Int) : - Int64.ofInt x = Int64.ofInt (wL (-x)) := by rw [oL_w, Int64.ofInt_neg]
theorem oI_eq {x y : Int} (hx : inI x) (hy : inI y) : Int32.ofInt x = Int32.ofInt y ↔ x = y := by
  rw [← Int32.toInt_inj, oI_id hx, oI_id hy]
theorem oI_lt {x y : Int} (hx : inI x) (hy : inI y) : Int32.ofInt x < Int32.ofInt y ↔ x < y := by
  rw [Int32.lt_iff_toInt_lt, oI_id hx, oI_id hy]
theorem oI_le {x y : Int} (hx : inI x) (hy : inI y) : Int32.ofInt x ≤ Int32.ofInt y ↔ x ≤ y := by
  rw [Int32.le_iff_toInt_le, oI_id hx, oI_id hy]
theorem oL_eq {x y : Int} (hx : inL x) (hy : inL y) : Int64.ofInt x = Int64.ofInt y ↔ x = y := by
  rw [← Int64.toInt_inj, oL_id hx, oL_id hy]
theorem oL_lt {x y : Int} (hx : inL x) (hy : inL y) : Int64.ofInt x < Int64.ofInt y ↔ x < y := by
  rw [Int64.lt_iff_toInt_lt, oL_id hx, oL_id hy]
theorem oI_0 : (0 : Int32) = Int32.ofInt 0 := rfl
theorem inI_0 : inI 0 := ⟨by decide, by decide⟩
def dvI (x y : Int) : Int := wI (x.tdiv y)
def rmI (x y : Int) : Int := x.tmod y
def dvL (x y : Int) : Int := wL (x.tdiv y)
def rmL (x y : Int) : Int := x.tmod y
theorem oI_div {x y : Int} (hx : inI x) (hy : inI y) : Int32.ofInt x / Int32.ofInt y = Int32.ofInt (dvI x y) := by
  apply Int32.toInt_inj.mp
  show _ = (Int32.ofInt (wI _)).toInt
  rw [Int32.toInt_div, oI_id hx, oI_id hy, oI_id (inI_wI _)]
  rfl
theorem oI_rem {x y : Int} (hx : inI x) (hy : inI y) : Int32.ofInt x - Int32.ofInt x / Int32.ofInt y * Int32.ofInt y = Int32.ofInt (rmI x y) := by
  rw [oI_div hx hy]
  unfold dvI rmI
  rw [oI_w, ← Int32.ofInt_mul, ← Int32.ofInt_sub, Int.tmod_def, Int.mul_comm]
theorem inI_rm {x y : Int} (hx : inI x) (hy : ¬ y = 0) : inI (rmI x y) := by
  unfold rmI
  unfold inI at *
  have h1 := Int.natAbs_tmod x y
  have h2 : x.natAbs % y.natAbs ≤ x.natAbs := Nat.mod_le _ _
  have h3 : 0 ≤ x → 0 ≤ x.tmod y := fun h => Int.tmod_nonneg y h
  have h4 : x ≤ 0 → x.tmod y ≤ 0 := fun h => by
    have := Int.tmod_nonneg y (a := -x) (by omega)
    rw [Int.neg_tmod] at this
    omega
  omega
theorem oL_div {x y : Int} (hx : inL x) (hy : inL y) : Int64.ofInt x / Int64.ofInt y = Int64.ofInt (dvL x y) := by
  apply Int64.toInt_inj.mp
  show _ = (Int64.ofInt (wL _)).toInt
  rw [Int64.toInt_div, oL_id hx, oL_id hy, oL_id (inL_wL _)]
  rfl
theorem oL_rem {x y : Int} (hx : inL x) (hy : inL y) : Int64.ofInt x - Int64.ofInt x / Int64.ofInt y * Int64.ofInt y = Int64.ofInt (rmL x y) := by
  rw [oL_div hx hy]
  unfold dvL rmL
  rw [oL_w, ← Int64.ofInt_mul, ← Int64.ofInt_sub, Int.tmod_def, Int.mul_comm]
theorem inL_rm {x y : Int} (hx : inL x) (hy : ¬ y = 0) : inL (rmL x y) := by
  unfold rmL
  unfold inL at *
  have h1 := Int.natAbs_tmod x y
  have h2 : x.natAbs % y.natAbs ≤ x.natAbs := Nat.mod_le _ _
  have h3 : 0 ≤ x → 0 ≤ x.tmod y := fun h => Int.tmod_nonneg y h
  have h4 : x ≤ 0 → x.tmod y ≤ 0 := fun h => by
    have := Int.tmod_nonneg y (a := -x) (by omega)
    rw [Int.neg_tmod] at this
    omega
  omega
def andI (x y : Int) : Int := (Int32.ofInt x &&& Int32.ofInt y).toInt
def orI (x y : Int) : Int := (Int32.ofInt x ||| Int32.ofInt y).toInt
def xorI (x y : Int) : Int := (Int32.ofInt x ^^^ Int32.ofInt y).toInt
def shlI (x y : Int) : Int := (Int32.ofInt x <<< (Int32.ofInt y &&& 31)).toInt
def shrI (x y : Int) : Int := (Int32.ofInt x >>> (Int32.ofInt y &&& 31)).toInt
def ushrI (x y : Int) : Int := ((Int32.ofInt x).toUInt32 >>> ((Int32.ofInt y).toUInt32 &&& Int32.toUInt32 31)).toInt32.toInt
def andL (x y : Int) : Int := (Int64.ofInt x &&& Int64.ofInt y).toInt
def orL (x y : Int) : Int := (Int64.ofInt x ||| Int64.ofInt y).toInt
def shlL (x y : Int) : Int := (Int64.ofInt x <<< ((Int32.ofInt y).toInt64 &&& 63)).toInt
def shrL (x y : Int) : Int := (Int64.ofInt x >>> ((Int32.ofInt y).toInt64 &&& 63)).toInt
def cmpL (x y : Int) : Int := if y < x then 1 else if x = y then 0 else -1
end
section
/-! THE WORLD that a memory stands for, and the judgement VC: from this abstract state the method comes to its end with Q. -/
def aV (ad : Nat → Nat) : AV → Value
  | .inl x => .int (Int32.ofInt x)
  | .inr (.inl x) => .long (Int64.ofInt x)
  | .inr (.inr r) => va_rf (r.map ad)
def tyC (ci : Nat) : Nat → FieldType := match ci with
  | 0 => tyX0 | 1 => tyX1 | 2 => tyX2 | 3 => tyX3 | 4 => tyX4 | 5 => tyX5 | 6 => tyX6 | 7 => tyX7 | 8 => tyX8 | 9 => tyX9 | 10 => tyX10 | 11 => tyX11 | _ => tyX12
def nFC (ci : Nat) : Nat := match vwCl[ci]? with
  | some q => q.2.2
  | none => 0
/-- what a place of a cell holds, by its type -/
def fV (ad : Nat → Nat) (M : Mem) (k j : Nat) (ty : FieldType) : Value := match ty with
  | .long => .long (Int64.ofInt (mJ M k j))
  | .object _ => va_rf ((mR M k j).map ad)
  | .array _ => va_rf ((mR M k j).map ad)
  | _ => .int (Int32.ofInt (mI M k j))
def tyA (t : Nat) : FieldType := match t with
  | 0 => .int
  | 1 => .long
  | 2 => .boolean
  | _ => .object "SecondLeft$Text"
def arA (ad : Nat → Nat) (M : Mem) (k t : Nat) : (Nat → Int32) ⊕ (Nat → Int64) ⊕ (Nat → UInt32) ⊕ (Nat → UInt64) ⊕ (Nat → Option Nat) := match t with
  | 0 => .inl (fun i => Int32.ofInt (mI M k i))
  | 1 => .inr (.inl (fun i => Int64.ofInt (mJ M k i)))
  | 2 => .inl (fun i => Int32.ofInt (mI M k i))
  | _ => .inr (.inr (.inr (.inr (fun i => (mR M k i).map ad))))
def flC (ad : Nat → Nat) (M : Mem) (k ci : Nat) : List Value := (List.range (nFC ci)).map (fun j => fV ad M k j (tyC ci j))
def cellW (dA : Nat → ClassId) (ad : Nat → Nat) (M : Mem) (k : Nat) (sh : Sh) : va_E := match sh with
  | .inl ci => .inr (ci, flC ad M k ci)
  | .inr (t, n) => .inl (dA t, n, arA ad M k t)
def wld (dA : Nat → ClassId) (ad : Nat → Nat) (M : Mem) : va_W := M.1.mapIdx (fun k sh => (ad k, cellW dA ad M k sh))
def tysA (dA : Nat → ClassId) : List (ClassId × FieldType) := [(dA 0, tyA 0), (dA 1, tyA 1), (dA 2, tyA 2), (dA 3, tyA 3)]
theorem wld_at {dA : Nat → ClassId} {ad : Nat → Nat} {M : Mem} {k : Nat} {sh : Sh} (h : M.1[k]? = some sh) : (wld dA ad M)[k]? = some (ad k, cellW dA ad M k sh) := by
  unfold wld
  rw [List.getElem?_mapIdx, h]
  rfl
theorem wld_get {dA : Nat → ClassId} {ad : Nat → Nat} {M : Mem} {k : Nat} {q : Nat × va_E} (h : (wld dA ad M)[k]? = some q) : ∃ sh, M.1[k]? = some sh ∧ q = (ad k, cellW dA ad M k sh) := by
  unfold wld at h
  rw [List.getElem?_mapIdx] at h
  cases hs : M.1[k]? with
  | none => rw [hs] at h; cases h
  | some sh => rw [hs] at h; exact ⟨sh, rfl, (Option.some.inj h).symm⟩
theorem wld_len {dA : Nat → ClassId} {ad : Nat → Nat} {M : Mem} : (wld dA ad M).length = M.1.length := by unfold wld; simp
/-- a value is in its range, a cell's number is one of the memory's -/
def okV (S : List Sh) : AV → Prop
  | .inl x => inI x
  | .inr (.inl x) => inL x
  | .inr (.inr none) => True
  | .inr (.inr (some k)) => k < S.length
def okM (M : Mem) : Prop := ∀ k j, inI (mI M k j) ∧ inL (mJ M k j) ∧ ∀ r, mR M k j = some r → r < M.1.length
def okS (S : List Sh) (st : List AV) : Prop := ∀ v ∈ st, okV S v
def okL (S : List Sh) (L : List (Option AV)) : Prop := ∀ (i : Nat) (v : AV), L[i]? = some (some v) → okV S v
def lvL (ad : Nat → Nat) (L : List (Option AV)) : List (Nat × Value) := (List.range L.length).filterMap (fun i => (L[i]?.join).map (fun v => (i, aV ad v)))
theorem lvL_mem {ad : Nat → Nat} {L : List (Option AV)} {q : Nat × Value} : q ∈ lvL ad L ↔ ∃ v, L[q.1]? = some (some v) ∧ q.2 = aV ad v := by
  unfold lvL
  rw [List.mem_filterMap]
  constructor
  · rintro ⟨i, -, h⟩
    cases h2 : L[i]? with
    | none => rw [h2] at h; cases h
    | some o =>
      cases o with
      | none => rw [h2] at h; cases h
      | some v =>
        rw [h2] at h
        have e := (Option.some.inj h).symm
        subst e
        exact ⟨v, h2, rfl⟩
  · rintro ⟨v, h1, h2⟩
    refine ⟨q.1, List.mem_range.mpr (List.getElem?_eq_some_iff.mp h1).1, ?_⟩
    rw [h1]
    show some (q.1, aV ad v) = some q
    rw [← h2]
theorem lvL_at {ad : Nat → Nat} {L : List (Option AV)} {ls : Array Slot} {nL i : Nat} {v : AV} (h : lv_has ls nL (lvL ad L)) (hi : L[i]? = some (some v)) : ls[i]? = some (.val (aV ad v)) := h.2.2 (i, aV ad v) (lvL_mem.mpr ⟨v, hi, rfl⟩)
theorem aV_ext {ad ad' : Nat → Nat} {S : List Sh} {v : AV} (hv : okV S v) (h : ∀ k, k < S.length → ad' k = ad k) : aV ad' v = aV ad v := by
  rcases v with x | x | r
  · rfl
  · rfl
  · cases r with
    | none => rfl
    | some k => show va_rf (some (ad' k)) = va_rf (some (ad k)); rw [h k hv]
theorem lvL_ext {ad ad' : Nat → Nat} {S : List Sh} {L : List (Option AV)} (hv : okL S L) (h : ∀ k, k < S.length → ad' k = ad k) {ls : Array Slot} {nL : Nat} (hl : lv_has ls nL (lvL ad L)) : lv_has ls nL (lvL ad' L) := by
  refine ⟨hl.1, hl.2.1, fun q hq => ?_⟩
  obtain ⟨v, h1, h2⟩ := lvL_mem.mp hq
  rw [h2, aV_ext (hv _ _ h1) h]
  exact lvL_at hl h1
theorem stk_ext {ad ad' : Nat → Nat} {S : List Sh} {st : List AV} (hv : okS S st) (h : ∀ k, k < S.length → ad' k = ad k) : st.map (aV ad') = st.map (aV ad) := List.map_congr_left fun v hm => aV_ext (hv v hm) h
theorem okS_cons {S : List Sh} {v : AV} {st : List AV} : okS S (v :: st) ↔ okV S v ∧ okS S st := List.forall_mem_cons
/-- fewer places known -/
def lessL (L' L : List (Option AV)) : Prop := ∀ (i : Nat) (v : AV), L'[i]? = some (some v) → L[i]? = some (some v)
theorem lvL_less {ad : Nat → Nat} {L L' : List (Option AV)} {ls : Array Slot} {nL : Nat} (hl : lv_has ls nL (lvL ad L)) (h : lessL L' L) : lv_has ls nL (lvL ad L') := by
  refine ⟨hl.1, hl.2.1, fun q hq => ?_⟩
  obtain ⟨v, h1, h2⟩ := lvL_mem.mp hq
  rw [h2]
  exact lvL_at hl (h _ _ h1)
def catA : AV → Nat
  | .inr (.inl _) => 2
  | _ => 1
theorem aV_cat (ad : Nat → Nat) (v : AV) : (aV ad v).category = catA v := by
  rcases v with x | x | r
  · rfl
  · rfl
  · cases r <;> rfl
/-- the place ahead holds no long: a store here spoils nothing -/
def freeB (L : List (Option AV)) (i : Nat) : Bool := match i with
  | 0 => true
  | j + 1 => match L[j]? with
    | some (some v) => catA v == 1
    | _ => true
theorem freeB_spec {L : List (Option AV)} {i j : Nat} {v : AV} (h : freeB L i = true) (hj : j + 1 = i) (hv : L[j]? = some (some v)) : catA v = 1 := by
  subst hj
  simp only [freeB, hv] at h
  simpa using h
theorem lvL_set1 {ad : Nat → Nat} {L : List (Option AV)} {ls' : Array Slot} {nL i : Nat} {v : AV} (hf : freeB L i = true) (h : lv_has ls' nL ((i, aV ad v) :: (lvL ad L).filter (fun q => !(q.1 == i) && !(q.1 + 1 == i && q.2.category == 2)))) : lv_has ls' nL (lvL ad (L.set i (some v))) := by
  refine ⟨h.1, h.2.1, fun q hq => ?_⟩
  obtain ⟨w, h1, h2⟩ := lvL_mem.mp hq
  by_cases hi : q.1 = i
  · have hlt : i < L.length := by
      have := (List.getElem?_eq_some_iff.mp h1).1
      rw [List.length_set] at this
      omega
    rw [hi, List.getElem?_set_self hlt] at h1
    cases h1
    exact h.2.2 q (by rw [List.mem_cons]; left; exact Prod.ext hi h2)
  · rw [List.getElem?_set_ne (Ne.symm hi)] at h1
    refine h.2.2 q (List.mem_cons_of_mem _ (List.mem_filter.mpr ⟨lvL_mem.mpr ⟨w, h1, h2⟩, ?_⟩))
    have e2 : q.2.category = catA w := by rw [h2, aV_cat]
    by_cases hj : q.1 + 1 = i
    · have e3 := freeB_spec hf hj h1
      simp [hi, e2, e3]
    · simp [hi, hj]
theorem lvL_set2 {ad : Nat → Nat} {L : List (Option AV)} {ls' : Array Slot} {nL i : Nat} {v : AV} (hf : freeB L i = true) (hn : (L.set (i + 1) none)[i + 1]? = some none) (h : lv_has ls' nL ((i, aV ad v) :: (lvL ad L).filter (fun q => !(q.1 == i) && (!(q.1 == i + 1) && !(q.1 + 1 == i && q.2.category == 2))))) : lv_has ls' nL (lvL ad ((L.set (i + 1) none).set i (some v))) := by
  refine ⟨h.1, h.2.1, fun q hq => ?_⟩
  obtain ⟨w, h1, h2⟩ := lvL_mem.mp hq
  by_cases hi : q.1 = i
  · have hlt : i < (L.set (i + 1) none).length := by
      have := (List.getElem?_eq_some_iff.mp h1).1
      rw [List.length_set] at this
      omega
    rw [hi, List.getElem?_set_self hlt] at h1
    cases h1
    exact h.2.2 q (by rw [List.mem_cons]; left; exact Prod.ext hi h2)
  · rw [List.getElem?_set_ne (Ne.symm hi)] at h1
    have hi1 : ¬ q.1 = i + 1 := fun e => by rw [e, hn] at h1; cases h1
    rw [List.getElem?_set_ne (fun e => hi1 e.symm)] at h1
    refine h.2.2 q (List.mem_cons_of_mem _ (List.mem_filter.mpr ⟨lvL_mem.mpr ⟨w, h1, h2⟩, ?_⟩))
    have e2 : q.2.category = catA w := by rw [h2, aV_cat]
    by_cases hj : q.1 + 1 = i
    · have e3 := freeB_spec hf hj h1
      simp [hi, hi1, e2, e3]
    · simp [hi, hi1, hj]
theorem okL_set {S : List Sh} {L : List (Option AV)} {i : Nat} {v : AV} (h : okL S L) (hv : okV S v) : okL S (L.set i (some v)) := by
  intro j w hj
  by_cases hi : j = i
  · subst hi
    have hlt : j < L.length := by
      have := (List.getElem?_eq_some_iff.mp hj).1
      rwa [List.length_set] at this
    rw [List.getElem?_set_self hlt] at hj
    cases hj
    exact hv
  · rw [List.getElem?_set_ne (Ne.symm hi)] at hj
    exact h j w hj
theorem okL_clr {S : List Sh} {L : List (Option AV)} {i : Nat} (h : okL S L) : okL S (L.set i none) := by
  intro j w hj
  by_cases hi : j = i
  · subst hi
    have hlt : j < L.length := by
      have := (List.getElem?_eq_some_iff.mp hj).1
      rwa [List.length_set] at this
    rw [List.getElem?_set_self hlt] at hj
    cases hj
  · rw [List.getElem?_set_ne (Ne.symm hi)] at hj
    exact h j w hj
end
section
/-! OUTSIDE THE WORLD (written by wip/whole/gen_ext.py) -/
def wTxt : String := "swaps leaves mixes pace asks corner street lane goal teller telling start walk turn ask follow to facing at of end least most left right on back who here asked turns face told narrow sight way "
def wByt : List Int32 := [115, 119, 97, 112, 115, 32, 108, 101, 97, 118, 101, 115, 32, 109, 105, 120, 101, 115, 32, 112, 97, 99, 101, 32, 97, 115, 107, 115, 32, 99, 111, 114, 110, 101, 114, 32, 115, 116, 114, 101, 101, 116, 32, 108, 97, 110, 101, 32, 103, 111, 97, 108, 32, 116, 101, 108, 108, 101, 114, 32, 116, 101, 108, 108, 105, 110, 103, 32, 115, 116, 97, 114, 116, 32, 119, 97, 108, 107, 32, 116, 117, 114, 110, 32, 97, 115, 107, 32, 102, 111, 108, 108, 111, 119, 32, 116, 111, 32, 102, 97, 99, 105, 110, 103, 32, 97, 116, 32, 111, 102, 32, 101, 110, 100, 32, 108, 101, 97, 115, 116, 32, 109, 111, 115, 116, 32, 108, 101, 102, 116, 32, 114, 105, 103, 104, 116, 32, 111, 110, 32, 98, 97, 99, 107, 32, 119, 104, 111, 32, 104, 101, 114, 101, 32, 97, 115, 107, 101, 100, 32, 116, 117, 114, 110, 115, 32, 102, 97, 99, 101, 32, 116, 111, 108, 100, 32, 110, 97, 114, 114, 111, 119, 32, 115, 105, 103, 104, 116, 32, 119, 97, 121, 32]
def wLen : Nat := 193
def nw0 : Cond := .methodLinkNest RX6 81 yX11_isDirection "SecondLeft"
def nw1 : Cond := .methodLinkNest RX6 84 yX11_isSlip "SecondLeft"
def nw2 : Cond := .methodLinkNest RX9 39 yX11_isDirection "SecondLeft"
def nw3 : Cond := .methodLinkNest RX2 57 yX11_held "SecondLeft"
def Ext (A : Nat → Prop) (U : State) (H : Heap) : Prop := (va_Nw nw0 U ∧ va_Nw nw1 U ∧ va_Nw nw2 U ∧ va_Nw nw3 U) ∧ va_AO "SecondLeft$Text" U ∧ (∃ adK adV : Nat → Nat, vk_S 1 [wLen] [wByt] adK adV A U H ∧ vk_R "SecondLeft$Reader" 107 wTxt (adK 0) U) ∧ va_Z "java/lang/String" "COMPACT_STRINGS" "Z" (.int 1) A U H ∧ va_Zq "jdk/internal/util/Preconditions" "SIOOBE_FORMATTER" "Ljava/util/function/BiFunction;" A U H
theorem Ext.same {A : Nat → Prop} {u U : State} {H : Heap} (hv : u.vm = U.vm) (h : Ext A u H) : Ext A U H := by
  obtain ⟨⟨n0, n1, n2, n3⟩, h2, ⟨adK, adV, h3, h4⟩, h5, h6⟩ := h
  have ha : u.vm.Alike U.vm := by rw [hv]; exact Vm.Alike.refl _
  exact ⟨⟨va_Nw.same rfl hv n0, va_Nw.same rfl hv n1, va_Nw.same rfl hv n2, va_Nw.same rfl hv n3⟩, h2.moved ha, ⟨adK, adV, h3.moved ha, vk_R.same hv.symm h4⟩, h5.moved ha, h6.moved ha⟩
theorem Ext.warm {A : Nat → Prop} {u U : State} {H : Heap} (hv : u.WarmedH U.vm) (h : Ext A u H) : Ext A U H := by
  obtain ⟨⟨n0, n1, n2, n3⟩, h2, ⟨adK, adV, h3, h4⟩, h5, h6⟩ := h
  have ha : u.vm.Alike U.vm := hv.alike
  exact ⟨⟨va_Nw.warmM hv n0, va_Nw.warmM hv n1, va_Nw.warmM hv n2, va_Nw.warmM hv n3⟩, h2.moved ha, ⟨adK, adV, h3.moved ha, vk_R.warm hv h4⟩, h5.moved ha, h6.moved ha⟩
theorem Ext.kept {A : Nat → Prop} {U : State} {H H1 : Heap} (h : Ext A U H) (hq : ∀ a : Nat, a < H.size → ¬ A a → H1[a]? = H[a]?) : Ext A U H1 := by
  obtain ⟨h1, h2, ⟨adK, adV, h3, h4⟩, h5, h6⟩ := h
  exact ⟨h1, h2, ⟨adK, adV, h3.kept hq, h4⟩, h5.kept hq, h6.kept hq⟩
theorem Ext.narrow {A B : Nat → Prop} {U : State} {H : Heap} (h : Ext A U H) (hAB : ∀ q, B q → A q) : Ext B U H := by
  obtain ⟨h1, h2, ⟨adK, adV, h3, h4⟩, h5, h6⟩ := h
  exact ⟨h1, h2, ⟨adK, adV, h3.narrow hAB, h4⟩, h5.narrow hAB, h6.narrow hAB⟩
end
section
def tblG : List Cond := lw_tbl.filter goodWord
theorem tblG_good {w : Cond} (h : w ∈ tblG) : (w.onTables && w.keeps) = true ∨ ∃ ty, w = .arrayClass ty := good_of_word (List.mem_filter.mp h).2
theorem tblG_in {w : Cond} (h : w ∈ tblG) : w ∈ lw_tbl := (List.mem_filter.mp h).1
/-- a method: its name, its bytes, its locals, what it answers; its level (room), the cells and slots that it may make -/
abbrev MD : Type := MethodName × ByteArray × Nat × Option FieldType × Nat × Nat × Nat
abbrev mY (D : MD) : MethodName := D.1
abbrev mB (D : MD) : ByteArray := D.2.1
abbrev mN (D : MD) : Nat := D.2.2.1
abbrev mT (D : MD) : Option FieldType := D.2.2.2.1
abbrev mV (D : MD) : Nat := D.2.2.2.2.1
abbrev mC (D : MD) : Nat := D.2.2.2.2.2.1
abbrev mS (D : MD) : Nat := D.2.2.2.2.2.2
def rmD (D : MD) : Room := { frames := mV D + 1, cells := mC D, slots := mS D, locals := 64 * mV D + 64 }
def wsD (D : MD) : List Cond := .code (mY D) (mB D) (mN D) (mT D) :: tblG
/-- what stays fixed while a method is walked -/
def Cx (D : MD) (p : Program) (s : State) (m : MethodId) (args : Array Value) (meth : Method) (c : Code) (dC : Nat → ClassId) (dI : Nat → Nat → Nat) (dA : Nat → ClassId) (A : Nat → Prop) : Prop :=
  p.tables.exec = Jvm.exec ∧ c.code = mB D ∧ meth.sig.returnType = mT D ∧ meth.locks = false ∧ c.maxLocals = mN D ∧ s.vm.findClass (mY D).cls = some m.cls ∧ (∀ w ∈ tblG, w.before args s = true) ∧ va_K (dC, dI) vwCl (tysA dA) s ∧ meth.name = (mY D).name ∧ Ext A s s.heap
/-- a memory stands in a heap -/
def Wd (dC : Nat → ClassId) (dI : Nat → Nat → Nat) (dA : Nat → ClassId) (ad : Nat → Nat) (A : Nat → Prop) (M : Mem) (H : Heap) : Prop :=
  okM M ∧ va_P (dC, dI) vwCl (wld dA ad M) H ∧ va_D A (wld dA ad M)
def okO (S : List Sh) : Option AV → Prop
  | none => True
  | some v => okV S v
def QcA (dC : Nat → ClassId) (dI : Nat → Nat → Nat) (dA : Nat → ClassId) (ad0 : Nat → Nat) (n0 : Nat) (A : Nat → Prop) (Q : Option AV → Mem → Prop) : Array Value → State → Outcome → State → Prop := fun _ st o t =>
  ∃ (r : Option AV) (M : Mem) (ad : Nat → Nat), o = .returned (r.map (aV ad)) ∧ Q r M ∧ okO M.1 r ∧ (∀ k, k < n0 → ad k = ad0 k) ∧ n0 ≤ M.1.length ∧ Wd dC dI dA ad A M t.heap ∧ va_K (dC, dI) vwCl (tysA dA) t ∧ va_F A st t
def VC (l : Launch) (D : MD) (pc : Nat) (L : List (Option AV)) (st : List AV) (M : Mem) (kc ks : Nat) (Q : Option AV → Mem → Prop) : Prop :=
  ∀ (p : Program) (e : Env) (s : State) (m : MethodId) (args : Array Value) (below : List Frame) (meth : Method) (c : Code) (dC : Nat → ClassId) (dI : Nat → Nat → Nat) (dA : Nat → ClassId) (ad0 : Nat → Nat) (n0 : Nat) (A : Nat → Prop) (ad : Nat → Nat) (H : Heap) (locs : List Loc) (ls : Array Slot),
    Cx D p s m args meth c dC dI dA A → (∀ q, s.heap.size ≤ q → A q) → (∀ k, k < n0 → ad k = ad0 k) → n0 ≤ M.1.length → okS M.1 st → okL M.1 L → Wd dC dI dA ad A M H → va_S A s.heap H locs → lv_has ls (mN D) (lvL ad L) →
    W p l e (rmD D) s m args below meth c H locs kc ks (MQ below (QcA dC dI dA ad0 n0 A Q) args s (mC D) (mS D) A) (F0 m pc ls (st.map (aV ad)))
def PcA (dC : Nat → ClassId) (dI : Nat → Nat → Nat) (dA : Nat → ClassId) (ad : Nat → Nat) (sz : Nat) (as : List AV) (M : Mem) : Array Value → State → Prop :=
  va_Pc (as.map (aV ad)) (fun U => U.heap.size = sz ∧ Wd dC dI dA ad (fun _ => True) M U.heap ∧ va_K (dC, dI) vwCl (tysA dA) U ∧ Ext (va_A (wld dA ad M) sz) U U.heap)
/-- a call of D with these answers and this memory behind it -/
def Call (l : Launch) (D : MD) (as : List AV) (M : Mem) (Q : Option AV → Mem → Prop) : Prop :=
  ∀ (dC : Nat → ClassId) (dI : Nat → Nat → Nat) (dA : Nat → ClassId) (ad : Nat → Nat) (sz : Nat), okS M.1 as →
    Met l (mY D) (wsD D) (rmD D) (PcA dC dI dA ad sz as M) (QcA dC dI dA ad M.1.length (va_A (wld dA ad M) sz) Q) (mC D) (mS D) (va_A (wld dA ad M) sz)
def slA : List AV → List (Option AV)
  | [] => []
  | v :: vs => (if catA v = 2 then [some v, none] else [some v]) ++ slA vs
def entA (as : List AV) (n : Nat) : List (Option AV) := slA as ++ List.replicate (n - (slA as).length) none
theorem slA_len (ad : Nat → Nat) (as : List AV) : (lg_sl (as.map (aV ad))).length = (slA as).length := by
  induction as with
  | nil => rfl
  | cons v vs ih =>
    simp only [lg_sl, List.map_cons, List.flatMap_cons, List.length_append, slA] at ih ⊢
    rw [ih, aV_cat]
    by_cases h : catA v = 2 <;> simp [h]
theorem slA_at (ad : Nat → Nat) : ∀ (as : List AV) (b i : Nat) (v : AV), (slA as)[i]? = some (some v) → (b + i, aV ad v) ∈ lv_args b (as.map (aV ad))
  | [], b, i, v, h => by simp [slA] at h
  | w :: vs, b, i, v, h => by
    simp only [slA] at h
    simp only [List.map_cons, lv_args, aV_cat]
    by_cases hc : catA w = 2
    · rw [if_pos hc] at h ⊢
      match i, h with
      | 0, h => cases h; exact List.mem_cons_self
      | 1, h => cases h
      | i + 2, h =>
        have := slA_at ad vs (b + 2) i v (by simpa using h)
        rw [show b + (i + 2) = b + 2 + i by omega]
        exact List.mem_cons_of_mem _ this
    · rw [if_neg hc] at h ⊢
      match i, h with
      | 0, h => cases h; exact List.mem_cons_self
      | i + 1, h =>
        have := slA_at ad vs (b + 1) i v (by simpa using h)
        rw [show b + (i + 1) = b + 1 + i by omega]
        exact List.mem_cons_of_mem _ this
theorem entA_at {as : List AV} {n i : Nat} {v : AV} (h : (entA as n)[i]? = some (some v)) : (slA as)[i]? = some (some v) := by
  unfold entA at h
  by_cases hl : i < (slA as).length
  · rwa [List.getElem?_append_left hl] at h
  · rw [List.getElem?_append_right (by omega), List.getElem?_replicate] at h
    split at h <;> cases h
theorem slA_mem : ∀ (as : List AV) (i : Nat) (v : AV), (slA as)[i]? = some (some v) → v ∈ as
  | [], i, v, h => by simp [slA] at h
  | w :: vs, i, v, h => by
    simp only [slA] at h
    by_cases hc : catA w = 2
    · rw [if_pos hc] at h
      match i, h with
      | 0, h => cases h; exact List.mem_cons_self
      | 1, h => cases h
      | i + 2, h => exact List.mem_cons_of_mem _ (slA_mem vs i v (by simpa using h))
    · rw [if_neg hc] at h
      match i, h with
      | 0, h => cases h; exact List.mem_cons_self
      | i + 1, h => exact List.mem_cons_of_mem _ (slA_mem vs i v (by simpa using h))
theorem Call.of {l : Launch} {D : MD} {as : List AV} {M : Mem} {Q : Option AV → Mem → Prop} (L : List (Option AV)) (hy : plainName (mY D).cls = true) (hn : (slA as).length ≤ mN D) (hL : entA as (mN D) = L) (h : VC l D 0 L [] M 0 0 Q) : Call l D as M Q := by
  intro dC dI dA ad sz hok
  refine Met.ofW (cc := mB D) (maxL := mN D) (ret := mT D) hy rfl ?_
  intro p e s m args below meth c s₁ B hml hv
  obtain ⟨rfl, hsz, ⟨hM, hP, hD⟩, hK, hE⟩ := hv
  have hts : ∀ w ∈ wsD D, w.before _ s = true := atoms_spec (ws := wsD D) B.pre
  subst hsz
  have hcx : Cx D p s m (as.map (aV ad)).toArray meth c dC dI dA (va_A (wld dA ad M) s.heap.size) := ⟨B.exec, B.bytes, B.returns, B.notSynchronized, hml, findClass_of_methodNamed B.named, fun w hw => hts w (List.mem_cons_of_mem _ hw), hK, (name_of_methodNamed B.named B.method).1, hE⟩
  have hlv : lv_has ((lg_sl (as.map (aV ad)) ++ List.replicate (mN D - (lg_sl (as.map (aV ad))).length) Slot.unset).toArray) (mN D) (lvL ad L) := by
    have h1 := lv_entry (as.map (aV ad)) (n := mN D) (by rw [slA_len]; exact hn)
    refine ⟨h1.1, h1.2.1, fun q hq => ?_⟩
    obtain ⟨v, h2, h3⟩ := lvL_mem.mp hq
    rw [← hL] at h2
    have h4 := slA_at ad as 0 q.1 v (entA_at h2)
    rw [h3]
    have h5 := h1.2.2 _ h4
    simpa using h5
  rw [lg_entry_eq]
  exact h p e s m _ below meth c dC dI dA ad M.1.length (va_A (wld dA ad M) s.heap.size) ad s.heap [] _ hcx (fun q hq => Or.inr hq) (fun _ _ => rfl) (Nat.le_refl _) (fun v hv => by cases hv) (fun i v hv => by rw [← hL] at hv; exact hok v (slA_mem as i v (entA_at hv))) ⟨hM, hP, hD.self⟩ va_S.rf hlv
end
section
/-! VC ROWS of instructions that touch no heap (written by wip/whole/gen_rows.py) -/
def At (cc : ByteArray) (pc : Nat) (i : Instr) (len pc' : Nat) : Prop := decode cc pc = .ok (i, len) ∧ pc + len = pc'
def AtB (cc : ByteArray) (pc : Nat) (i : Instr) (off : Int) (pc' tgt : Nat) : Prop := decode cc pc = .ok (i, 3) ∧ pc + 3 = pc' ∧ (pc : Int) + off = (tgt : Int)
def inB (n : Int) : Bool := decide (-2147483648 ≤ n) && decide (n < 2147483648)
theorem inB_ok {n : Int} (h : inB n = true) : inI n := by
  unfold inB at h
  simp only [Bool.and_eq_true, decide_eq_true_eq] at h
  exact h
theorem i8_ok {n : Int} (h : (decide (-128 ≤ n) && decide (n < 128)) = true) : (Int8.ofInt n).toInt32 = Int32.ofInt n := by
  simp only [Bool.and_eq_true, decide_eq_true_eq] at h
  apply Int32.toInt_inj.mp
  rw [Int8.toInt_toInt32, Int8.toInt_ofInt, oI_id ⟨by omega, by omega⟩]
  have e : ((Int8.size : Nat) : Int) = 256 := rfl
  exact Int.bmod_eq_of_le_mul_two (by omega) (by omega)
theorem i16_ok {n : Int} (h : (decide (-32768 ≤ n) && decide (n < 32768)) = true) : (Int16.ofInt n).toInt32 = Int32.ofInt n := by
  simp only [Bool.and_eq_true, decide_eq_true_eq] at h
  apply Int32.toInt_inj.mp
  rw [Int16.toInt_toInt32, Int16.toInt_ofInt, oI_id ⟨by omega, by omega⟩]
  have e : ((Int16.size : Nat) : Int) = 65536 := rfl
  exact Int.bmod_eq_of_le_mul_two (by omega) (by omega)
section VCR
variable {l : Launch} {D : MD} {pc pc' tgt : Nat} {L L' : List (Option AV)} {st : List AV} {M : Mem} {kc ks : Nat} {Q : Option AV → Mem → Prop}
theorem VC.mono {Q' : Option AV → Mem → Prop} (h : VC l D pc L st M kc ks Q) (hq : ∀ r M', Q r M' → Q' r M') : VC l D pc L st M kc ks Q' := by
  intro p e s m args below meth c dC dI dA ad0 n0 A ad H locs ls C hA h0 hn hst hL hW hS hl T hT X
  obtain ⟨t, h1, o, h2, h3, ⟨r, M', ad', q1, q2, q3⟩, h5⟩ := h p e s m args below meth c dC dI dA ad0 n0 A ad H locs ls C hA h0 hn hst hL hW hS hl T hT X
  exact ⟨t, h1, o, h2, h3, ⟨r, M', ad', q1, hq r M' q2, q3⟩, h5⟩
/-- what is known of the values may be used -/
theorem vc_ok (k : okM M → okS M.1 st → okL M.1 L → VC l D pc L st M kc ks Q) : VC l D pc L st M kc ks Q := by
  intro p e s m args below meth c dC dI dA ad0 n0 A ad H locs ls C hA h0 hn hst hL hW hS hl
  exact k hW.1 hst hL p e s m args below meth c dC dI dA ad0 n0 A ad H locs ls C hA h0 hn hst hL hW hS hl
/-- fewer locals known -/
theorem vc_less (L' : List (Option AV)) (h : lessL L' L) (k : VC l D pc L' st M kc ks Q) : VC l D pc L st M kc ks Q := by
  intro p e s m args below meth c dC dI dA ad0 n0 A ad H locs ls C hA h0 hn hst hL hW hS hl
  exact k p e s m args below meth c dC dI dA ad0 n0 A ad H locs ls C hA h0 hn hst (fun i v hv => hL i v (h i v hv)) hW hS (lvL_less hl h)
theorem vc_wide (kc' ks' : Nat) (h1 : kc ≤ kc') (h2 : ks ≤ ks') (k : VC l D pc L st M kc' ks' Q) : VC l D pc L st M kc ks Q := by
  intro p e s m args below meth c dC dI dA ad0 n0 A ad H locs ls C hA h0 hn hst hL hW hS hl
  exact W.widen h1 h2 (k p e s m args below meth c dC dI dA ad0 n0 A ad H locs ls C hA h0 hn hst hL hW hS hl)
/-- a value gets a name -/
theorem vc_nameI {x : Int} (k : ∀ y : Int, y = x → VC l D pc L (aI y :: st) M kc ks Q) : VC l D pc L (aI x :: st) M kc ks Q := k x rfl
theorem vc_nameL {x : Int} (k : ∀ y : Int, y = x → VC l D pc L (aL y :: st) M kc ks Q) : VC l D pc L (aL x :: st) M kc ks Q := k x rfl
theorem vc_eq {pc2 : Nat} {L2 : List (Option AV)} {st2 : List AV} {M2 : Mem} (e1 : pc = pc2) (e2 : L = L2) (e3 : st = st2) (e4 : M = M2) (k : VC l D pc2 L2 st2 M2 kc ks Q) : VC l D pc L st M kc ks Q := by
  subst e1; subst e2; subst e3; subst e4; exact k

theorem vc_iconst {n : Int} (h : inB n = true) (hd : At (mB D) pc (.iconst n) 1 pc') (k : VC l D pc' L (aI n :: st) M kc ks Q) : VC l D pc L st M kc ks Q := by
  intro p e s m args below meth c dC dI dA ad0 n0 A ad H locs ls C hA h0 hn hst hL hW hS hl
  obtain ⟨hd, rfl⟩ := hd
  refine lv_iconst C.1 C.2.1 hd rfl ?_
  exact k p e s m args below meth c dC dI dA ad0 n0 A ad H locs ls C hA h0 hn (okS_cons.mpr ⟨inB_ok h, hst⟩) hL hW hS hl

theorem vc_bipush {n : Int} (h : (decide (-128 ≤ n) && decide (n < 128)) = true) (hd : At (mB D) pc (.bipush n) 2 pc') (k : VC l D pc' L (aI n :: st) M kc ks Q) : VC l D pc L st M kc ks Q := by
  intro p e s m args below meth c dC dI dA ad0 n0 A ad H locs ls C hA h0 hn hst hL hW hS hl
  obtain ⟨hd, rfl⟩ := hd
  refine lv_bipush C.1 C.2.1 hd (i8_ok h) ?_
  exact k p e s m args below meth c dC dI dA ad0 n0 A ad H locs ls C hA h0 hn (okS_cons.mpr ⟨by simp only [Bool.and_eq_true, decide_eq_true_eq] at h; exact ⟨by omega, by omega⟩, hst⟩) hL hW hS hl

theorem vc_sipush {n : Int} (h : (decide (-32768 ≤ n) && decide (n < 32768)) = true) (hd : At (mB D) pc (.sipush n) 3 pc') (k : VC l D pc' L (aI n :: st) M kc ks Q) : VC l D pc L st M kc ks Q := by
  intro p e s m args below meth c dC dI dA ad0 n0 A ad H locs ls C hA h0 hn hst hL hW hS hl
  obtain ⟨hd, rfl⟩ := hd
  refine lv_sipush C.1 C.2.1 hd (i16_ok h) ?_
  exact k p e s m args below meth c dC dI dA ad0 n0 A ad H locs ls C hA h0 hn (okS_cons.mpr ⟨by simp only [Bool.and_eq_true, decide_eq_true_eq] at h; exact ⟨by omega, by omega⟩, hst⟩) hL hW hS hl

theorem vc_lconst {n : Fin 2} (hd : At (mB D) pc (.lconst n) 1 pc') (k : VC l D pc' L (aL (n : Nat) :: st) M kc ks Q) : VC l D pc L st M kc ks Q := by
  intro p e s m args below meth c dC dI dA ad0 n0 A ad H locs ls C hA h0 hn hst hL hW hS hl
  obtain ⟨hd, rfl⟩ := hd
  refine lv_lconst (v := Int64.ofInt ((n : Nat) : Int)) C.1 C.2.1 hd (by match n with | 0 => rfl | 1 => rfl) ?_
  exact k p e s m args below meth c dC dI dA ad0 n0 A ad H locs ls C hA h0 hn (okS_cons.mpr ⟨(by match n with | 0 => exact ⟨by decide, by decide⟩ | 1 => exact ⟨by decide, by decide⟩ : inL ((n : Nat) : Int)), hst⟩) hL hW hS hl

theorem vc_ldc {idx : Nat} {n : Int} (h : inB n = true) (hc : Cond.constant (mY D).cls idx (Int32.ofInt n) ∈ tblG) (hd : At (mB D) pc (.ldc idx) 2 pc') (k : VC l D pc' L (aI n :: st) M kc ks Q) : VC l D pc L st M kc ks Q := by
  intro p e s m args below meth c dC dI dA ad0 n0 A ad H locs ls C hA h0 hn hst hL hW hS hl
  obtain ⟨hd, rfl⟩ := hd
  refine lv_ldc C.1 C.2.1 C.2.2.2.2.2.1 (C.2.2.2.2.2.2.1 _ hc) hd ?_
  exact k p e s m args below meth c dC dI dA ad0 n0 A ad H locs ls C hA h0 hn (okS_cons.mpr ⟨inB_ok h, hst⟩) hL hW hS hl

theorem vc_ldc2 {idx : Nat} {n : Int} (h : (decide (-9223372036854775808 ≤ n) && decide (n < 9223372036854775808)) = true) (hc : Cond.constantLong (mY D).cls idx (Int64.ofInt n) ∈ tblG) (hd : At (mB D) pc (.ldc2_w idx) 3 pc') (k : VC l D pc' L (aL n :: st) M kc ks Q) : VC l D pc L st M kc ks Q := by
  intro p e s m args below meth c dC dI dA ad0 n0 A ad H locs ls C hA h0 hn hst hL hW hS hl
  obtain ⟨hd, rfl⟩ := hd
  refine lv_ldc2 C.1 C.2.1 C.2.2.2.2.2.1 (C.2.2.2.2.2.2.1 _ hc) hd ?_
  exact k p e s m args below meth c dC dI dA ad0 n0 A ad H locs ls C hA h0 hn (okS_cons.mpr ⟨by simp only [Bool.and_eq_true, decide_eq_true_eq] at h; exact h, hst⟩) hL hW hS hl

theorem vc_null  (hd : At (mB D) pc .aconst_null 1 pc') (k : VC l D pc' L (aN :: st) M kc ks Q) : VC l D pc L st M kc ks Q := by
  intro p e s m args below meth c dC dI dA ad0 n0 A ad H locs ls C hA h0 hn hst hL hW hS hl
  obtain ⟨hd, rfl⟩ := hd
  refine lv_null C.1 C.2.1 hd ?_
  exact k p e s m args below meth c dC dI dA ad0 n0 A ad H locs ls C hA h0 hn (okS_cons.mpr ⟨trivial, hst⟩) hL hW hS hl

theorem vc_iload_n {i : Fin 4} {x : Int} (hi : L[(i : Nat)]? = some (some (aI x))) (hd : At (mB D) pc (.iload_n i) 1 pc') (k : VC l D pc' L (aI x :: st) M kc ks Q) : VC l D pc L st M kc ks Q := by
  intro p e s m args below meth c dC dI dA ad0 n0 A ad H locs ls C hA h0 hn hst hL hW hS hl
  obtain ⟨hd, rfl⟩ := hd
  refine lv_iload_n C.1 C.2.1 hd rfl (lvL_at hl hi) ?_
  exact k p e s m args below meth c dC dI dA ad0 n0 A ad H locs ls C hA h0 hn (okS_cons.mpr ⟨hL _ _ hi, hst⟩) hL hW hS hl

theorem vc_iload {i : Nat} {x : Int} (hi : L[i]? = some (some (aI x))) (hd : At (mB D) pc (.iload i) 2 pc') (k : VC l D pc' L (aI x :: st) M kc ks Q) : VC l D pc L st M kc ks Q := by
  intro p e s m args below meth c dC dI dA ad0 n0 A ad H locs ls C hA h0 hn hst hL hW hS hl
  obtain ⟨hd, rfl⟩ := hd
  refine lv_iload C.1 C.2.1 hd (lvL_at hl hi) ?_
  exact k p e s m args below meth c dC dI dA ad0 n0 A ad H locs ls C hA h0 hn (okS_cons.mpr ⟨hL _ _ hi, hst⟩) hL hW hS hl

theorem vc_lload_n {i : Fin 4} {x : Int} (hi : L[(i : Nat)]? = some (some (aL x))) (hd : At (mB D) pc (.lload_n i) 1 pc') (k : VC l D pc' L (aL x :: st) M kc ks Q) : VC l D pc L st M kc ks Q := by
  intro p e s m args below meth c dC dI dA ad0 n0 A ad H locs ls C hA h0 hn hst hL hW hS hl
  obtain ⟨hd, rfl⟩ := hd
  refine lv_lload_n C.1 C.2.1 hd rfl (lvL_at hl hi) ?_
  exact k p e s m args below meth c dC dI dA ad0 n0 A ad H locs ls C hA h0 hn (okS_cons.mpr ⟨hL _ _ hi, hst⟩) hL hW hS hl

theorem vc_lload {i : Nat} {x : Int} (hi : L[i]? = some (some (aL x))) (hd : At (mB D) pc (.lload i) 2 pc') (k : VC l D pc' L (aL x :: st) M kc ks Q) : VC l D pc L st M kc ks Q := by
  intro p e s m args below meth c dC dI dA ad0 n0 A ad H locs ls C hA h0 hn hst hL hW hS hl
  obtain ⟨hd, rfl⟩ := hd
  refine lv_lload C.1 C.2.1 hd (lvL_at hl hi) ?_
  exact k p e s m args below meth c dC dI dA ad0 n0 A ad H locs ls C hA h0 hn (okS_cons.mpr ⟨hL _ _ hi, hst⟩) hL hW hS hl

theorem vc_aload_n {i : Fin 4} {r : Option Nat} (hi : L[(i : Nat)]? = some (some (.inr (.inr r)))) (hd : At (mB D) pc (.aload_n i) 1 pc') (k : VC l D pc' L (.inr (.inr r) :: st) M kc ks Q) : VC l D pc L st M kc ks Q := by
  intro p e s m args below meth c dC dI dA ad0 n0 A ad H locs ls C hA h0 hn hst hL hW hS hl
  obtain ⟨hd, rfl⟩ := hd
  have hl2 := lvL_at hl hi
  have k2 := k p e s m args below meth c dC dI dA ad0 n0 A ad H locs ls C hA h0 hn (okS_cons.mpr ⟨hL _ _ hi, hst⟩) hL hW hS hl
  cases r with
  | none => exact lv_aload_nN C.1 C.2.1 hd rfl hl2 k2
  | some x => exact lv_aload_n C.1 C.2.1 hd rfl hl2 k2
--  exact k p e s m args below meth c dC dI dA ad0 n0 A ad H locs ls C hA h0 hn (okS_cons.mpr ⟨hL _ _ hi, hst⟩) hL hW hS hl

theorem vc_aload {i : Nat} {r : Option Nat} (hi : L[i]? = some (some (.inr (.inr r)))) (hd : At (mB D) pc (.aload i) 2 pc') (k : VC l D pc' L (.inr (.inr r) :: st) M kc ks Q) : VC l D pc L st M kc ks Q := by
  intro p e s m args below meth c dC dI dA ad0 n0 A ad H locs ls C hA h0 hn hst hL hW hS hl
  obtain ⟨hd, rfl⟩ := hd
  have hl2 := lvL_at hl hi
  have k2 := k p e s m args below meth c dC dI dA ad0 n0 A ad H locs ls C hA h0 hn (okS_cons.mpr ⟨hL _ _ hi, hst⟩) hL hW hS hl
  cases r with
  | none => exact lv_aloadN C.1 C.2.1 hd hl2 k2
  | some x => exact lv_aload C.1 C.2.1 hd hl2 k2
--  exact k p e s m args below meth c dC dI dA ad0 n0 A ad H locs ls C hA h0 hn (okS_cons.mpr ⟨hL _ _ hi, hst⟩) hL hW hS hl

theorem vc_iadd {x y : Int}  (hd : At (mB D) pc .iadd 1 pc') (k : VC l D pc' L (aI (wI (x + y)) :: st) M kc ks Q) : VC l D pc L (aI y :: aI x :: st) M kc ks Q := by
  intro p e s m args below meth c dC dI dA ad0 n0 A ad H locs ls C hA h0 hn hst hL hW hS hl
  obtain ⟨hd, rfl⟩ := hd
  obtain ⟨hy, hst⟩ := okS_cons.mp hst
  obtain ⟨hx, hst⟩ := okS_cons.mp hst
  have k2 := k p e s m args below meth c dC dI dA ad0 n0 A ad H locs ls C hA h0 hn (okS_cons.mpr ⟨inI_wI _, hst⟩) hL hW hS hl
  refine lv_iadd C.1 C.2.1 hd ?_
  rw [oI_add]
  exact k2

theorem vc_isub {x y : Int}  (hd : At (mB D) pc .isub 1 pc') (k : VC l D pc' L (aI (wI (x - y)) :: st) M kc ks Q) : VC l D pc L (aI y :: aI x :: st) M kc ks Q := by
  intro p e s m args below meth c dC dI dA ad0 n0 A ad H locs ls C hA h0 hn hst hL hW hS hl
  obtain ⟨hd, rfl⟩ := hd
  obtain ⟨hy, hst⟩ := okS_cons.mp hst
  obtain ⟨hx, hst⟩ := okS_cons.mp hst
  have k2 := k p e s m args below meth c dC dI dA ad0 n0 A ad H locs ls C hA h0 hn (okS_cons.mpr ⟨inI_wI _, hst⟩) hL hW hS hl
  refine lv_isub C.1 C.2.1 hd ?_
  rw [oI_sub]
  exact k2

theorem vc_imul {x y : Int}  (hd : At (mB D) pc .imul 1 pc') (k : VC l D pc' L (aI (wI (x * y)) :: st) M kc ks Q) : VC l D pc L (aI y :: aI x :: st) M kc ks Q := by
  intro p e s m args below meth c dC dI dA ad0 n0 A ad H locs ls C hA h0 hn hst hL hW hS hl
  obtain ⟨hd, rfl⟩ := hd
  obtain ⟨hy, hst⟩ := okS_cons.mp hst
  obtain ⟨hx, hst⟩ := okS_cons.mp hst
  have k2 := k p e s m args below meth c dC dI dA ad0 n0 A ad H locs ls C hA h0 hn (okS_cons.mpr ⟨inI_wI _, hst⟩) hL hW hS hl
  refine lv_imul C.1 C.2.1 hd ?_
  rw [oI_mul]
  exact k2

theorem vc_ladd {x y : Int}  (hd : At (mB D) pc .ladd 1 pc') (k : VC l D pc' L (aL (wL (x + y)) :: st) M kc ks Q) : VC l D pc L (aL y :: aL x :: st) M kc ks Q := by
  intro p e s m args below meth c dC dI dA ad0 n0 A ad H locs ls C hA h0 hn hst hL hW hS hl
  obtain ⟨hd, rfl⟩ := hd
  obtain ⟨hy, hst⟩ := okS_cons.mp hst
  obtain ⟨hx, hst⟩ := okS_cons.mp hst
  have k2 := k p e s m args below meth c dC dI dA ad0 n0 A ad H locs ls C hA h0 hn (okS_cons.mpr ⟨inL_wL _, hst⟩) hL hW hS hl
  refine lv_ladd C.1 C.2.1 hd ?_
  rw [oL_add]
  exact k2

theorem vc_lsub {x y : Int}  (hd : At (mB D) pc .lsub 1 pc') (k : VC l D pc' L (aL (wL (x - y)) :: st) M kc ks Q) : VC l D pc L (aL y :: aL x :: st) M kc ks Q := by
  intro p e s m args below meth c dC dI dA ad0 n0 A ad H locs ls C hA h0 hn hst hL hW hS hl
  obtain ⟨hd, rfl⟩ := hd
  obtain ⟨hy, hst⟩ := okS_cons.mp hst
  obtain ⟨hx, hst⟩ := okS_cons.mp hst
  have k2 := k p e s m args below meth c dC dI dA ad0 n0 A ad H locs ls C hA h0 hn (okS_cons.mpr ⟨inL_wL _, hst⟩) hL hW hS hl
  refine lv_lsub C.1 C.2.1 hd ?_
  rw [oL_sub]
  exact k2

theorem vc_lmul {x y : Int}  (hd : At (mB D) pc .lmul 1 pc') (k : VC l D pc' L (aL (wL (x * y)) :: st) M kc ks Q) : VC l D pc L (aL y :: aL x :: st) M kc ks Q := by
  intro p e s m args below meth c dC dI dA ad0 n0 A ad H locs ls C hA h0 hn hst hL hW hS hl
  obtain ⟨hd, rfl⟩ := hd
  obtain ⟨hy, hst⟩ := okS_cons.mp hst
  obtain ⟨hx, hst⟩ := okS_cons.mp hst
  have k2 := k p e s m args below meth c dC dI dA ad0 n0 A ad H locs ls C hA h0 hn (okS_cons.mpr ⟨inL_wL _, hst⟩) hL hW hS hl
  refine lv_lmul C.1 C.2.1 hd ?_
  rw [oL_mul]
  exact k2

theorem vc_idiv {x y : Int} (hne : ¬ y = 0) (hd : At (mB D) pc .idiv 1 pc') (k : VC l D pc' L (aI (dvI x y) :: st) M kc ks Q) : VC l D pc L (aI y :: aI x :: st) M kc ks Q := by
  intro p e s m args below meth c dC dI dA ad0 n0 A ad H locs ls C hA h0 hn hst hL hW hS hl
  obtain ⟨hd, rfl⟩ := hd
  obtain ⟨hy, hst⟩ := okS_cons.mp hst
  obtain ⟨hx, hst⟩ := okS_cons.mp hst
  have k2 := k p e s m args below meth c dC dI dA ad0 n0 A ad H locs ls C hA h0 hn (okS_cons.mpr ⟨inI_wI _, hst⟩) hL hW hS hl
  refine lv_idiv C.1 C.2.1 hd (fun h => hne ((oI_eq hy inI_0).mp h)) ?_
  rw [oI_div hx hy]
  exact k2

theorem vc_irem {x y : Int} (hne : ¬ y = 0) (hd : At (mB D) pc .irem 1 pc') (k : VC l D pc' L (aI (rmI x y) :: st) M kc ks Q) : VC l D pc L (aI y :: aI x :: st) M kc ks Q := by
  intro p e s m args below meth c dC dI dA ad0 n0 A ad H locs ls C hA h0 hn hst hL hW hS hl
  obtain ⟨hd, rfl⟩ := hd
  obtain ⟨hy, hst⟩ := okS_cons.mp hst
  obtain ⟨hx, hst⟩ := okS_cons.mp hst
  have k2 := k p e s m args below meth c dC dI dA ad0 n0 A ad H locs ls C hA h0 hn (okS_cons.mpr ⟨inI_rm hx hne, hst⟩) hL hW hS hl
  refine lv_irem C.1 C.2.1 hd (fun h => hne ((oI_eq hy inI_0).mp h)) ?_
  rw [oI_rem hx hy]
  exact k2

theorem vc_ldiv {x y : Int} (hne : ¬ y = 0) (hd : At (mB D) pc .ldiv 1 pc') (k : VC l D pc' L (aL (dvL x y) :: st) M kc ks Q) : VC l D pc L (aL y :: aL x :: st) M kc ks Q := by
  intro p e s m args below meth c dC dI dA ad0 n0 A ad H locs ls C hA h0 hn hst hL hW hS hl
  obtain ⟨hd, rfl⟩ := hd
  obtain ⟨hy, hst⟩ := okS_cons.mp hst
  obtain ⟨hx, hst⟩ := okS_cons.mp hst
  have k2 := k p e s m args below meth c dC dI dA ad0 n0 A ad H locs ls C hA h0 hn (okS_cons.mpr ⟨inL_wL _, hst⟩) hL hW hS hl
  refine lv_ldiv C.1 C.2.1 hd (fun h => hne ((oL_eq hy ⟨by decide, by decide⟩).mp h)) ?_
  rw [oL_div hx hy]
  exact k2

theorem vc_lrem {x y : Int} (hne : ¬ y = 0) (hd : At (mB D) pc .lrem 1 pc') (k : VC l D pc' L (aL (rmL x y) :: st) M kc ks Q) : VC l D pc L (aL y :: aL x :: st) M kc ks Q := by
  intro p e s m args below meth c dC dI dA ad0 n0 A ad H locs ls C hA h0 hn hst hL hW hS hl
  obtain ⟨hd, rfl⟩ := hd
  obtain ⟨hy, hst⟩ := okS_cons.mp hst
  obtain ⟨hx, hst⟩ := okS_cons.mp hst
  have k2 := k p e s m args below meth c dC dI dA ad0 n0 A ad H locs ls C hA h0 hn (okS_cons.mpr ⟨inL_rm hx hne, hst⟩) hL hW hS hl
  refine lv_lrem C.1 C.2.1 hd (fun h => hne ((oL_eq hy ⟨by decide, by decide⟩).mp h)) ?_
  rw [oL_rem hx hy]
  exact k2

theorem vc_iand {x y : Int}  (hd : At (mB D) pc .iand 1 pc') (k : VC l D pc' L (aI (andI x y) :: st) M kc ks Q) : VC l D pc L (aI y :: aI x :: st) M kc ks Q := by
  intro p e s m args below meth c dC dI dA ad0 n0 A ad H locs ls C hA h0 hn hst hL hW hS hl
  obtain ⟨hd, rfl⟩ := hd
  obtain ⟨hy, hst⟩ := okS_cons.mp hst
  obtain ⟨hx, hst⟩ := okS_cons.mp hst
  have k2 := k p e s m args below meth c dC dI dA ad0 n0 A ad H locs ls C hA h0 hn (okS_cons.mpr ⟨inI_to _, hst⟩) hL hW hS hl
  refine lv_iand C.1 C.2.1 hd ?_
  simp only [List.map_cons, aV, andI, oI_to] at k2
  exact k2

theorem vc_ior {x y : Int}  (hd : At (mB D) pc .ior 1 pc') (k : VC l D pc' L (aI (orI x y) :: st) M kc ks Q) : VC l D pc L (aI y :: aI x :: st) M kc ks Q := by
  intro p e s m args below meth c dC dI dA ad0 n0 A ad H locs ls C hA h0 hn hst hL hW hS hl
  obtain ⟨hd, rfl⟩ := hd
  obtain ⟨hy, hst⟩ := okS_cons.mp hst
  obtain ⟨hx, hst⟩ := okS_cons.mp hst
  have k2 := k p e s m args below meth c dC dI dA ad0 n0 A ad H locs ls C hA h0 hn (okS_cons.mpr ⟨inI_to _, hst⟩) hL hW hS hl
  refine lv_ior C.1 C.2.1 hd ?_
  simp only [List.map_cons, aV, orI, oI_to] at k2
  exact k2

theorem vc_ixor {x y : Int}  (hd : At (mB D) pc .ixor 1 pc') (k : VC l D pc' L (aI (xorI x y) :: st) M kc ks Q) : VC l D pc L (aI y :: aI x :: st) M kc ks Q := by
  intro p e s m args below meth c dC dI dA ad0 n0 A ad H locs ls C hA h0 hn hst hL hW hS hl
  obtain ⟨hd, rfl⟩ := hd
  obtain ⟨hy, hst⟩ := okS_cons.mp hst
  obtain ⟨hx, hst⟩ := okS_cons.mp hst
  have k2 := k p e s m args below meth c dC dI dA ad0 n0 A ad H locs ls C hA h0 hn (okS_cons.mpr ⟨inI_to _, hst⟩) hL hW hS hl
  refine lv_ixor C.1 C.2.1 hd ?_
  simp only [List.map_cons, aV, xorI, oI_to] at k2
  exact k2

theorem vc_ishl {x y : Int}  (hd : At (mB D) pc .ishl 1 pc') (k : VC l D pc' L (aI (shlI x y) :: st) M kc ks Q) : VC l D pc L (aI y :: aI x :: st) M kc ks Q := by
  intro p e s m args below meth c dC dI dA ad0 n0 A ad H locs ls C hA h0 hn hst hL hW hS hl
  obtain ⟨hd, rfl⟩ := hd
  obtain ⟨hy, hst⟩ := okS_cons.mp hst
  obtain ⟨hx, hst⟩ := okS_cons.mp hst
  have k2 := k p e s m args below meth c dC dI dA ad0 n0 A ad H locs ls C hA h0 hn (okS_cons.mpr ⟨inI_to _, hst⟩) hL hW hS hl
  refine lv_ishl C.1 C.2.1 hd ?_
  simp only [List.map_cons, aV, shlI, oI_to] at k2
  exact k2

theorem vc_ishr {x y : Int}  (hd : At (mB D) pc .ishr 1 pc') (k : VC l D pc' L (aI (shrI x y) :: st) M kc ks Q) : VC l D pc L (aI y :: aI x :: st) M kc ks Q := by
  intro p e s m args below meth c dC dI dA ad0 n0 A ad H locs ls C hA h0 hn hst hL hW hS hl
  obtain ⟨hd, rfl⟩ := hd
  obtain ⟨hy, hst⟩ := okS_cons.mp hst
  obtain ⟨hx, hst⟩ := okS_cons.mp hst
  have k2 := k p e s m args below meth c dC dI dA ad0 n0 A ad H locs ls C hA h0 hn (okS_cons.mpr ⟨inI_to _, hst⟩) hL hW hS hl
  refine lv_ishr C.1 C.2.1 hd ?_
  simp only [List.map_cons, aV, shrI, oI_to] at k2
  exact k2

theorem vc_land {x y : Int}  (hd : At (mB D) pc .land 1 pc') (k : VC l D pc' L (aL (andL x y) :: st) M kc ks Q) : VC l D pc L (aL y :: aL x :: st) M kc ks Q := by
  intro p e s m args below meth c dC dI dA ad0 n0 A ad H locs ls C hA h0 hn hst hL hW hS hl
  obtain ⟨hd, rfl⟩ := hd
  obtain ⟨hy, hst⟩ := okS_cons.mp hst
  obtain ⟨hx, hst⟩ := okS_cons.mp hst
  have k2 := k p e s m args below meth c dC dI dA ad0 n0 A ad H locs ls C hA h0 hn (okS_cons.mpr ⟨inL_to _, hst⟩) hL hW hS hl
  refine lv_land C.1 C.2.1 hd ?_
  simp only [List.map_cons, aV, andL, oL_to] at k2
  exact k2

theorem vc_lor {x y : Int}  (hd : At (mB D) pc .lor 1 pc') (k : VC l D pc' L (aL (orL x y) :: st) M kc ks Q) : VC l D pc L (aL y :: aL x :: st) M kc ks Q := by
  intro p e s m args below meth c dC dI dA ad0 n0 A ad H locs ls C hA h0 hn hst hL hW hS hl
  obtain ⟨hd, rfl⟩ := hd
  obtain ⟨hy, hst⟩ := okS_cons.mp hst
  obtain ⟨hx, hst⟩ := okS_cons.mp hst
  have k2 := k p e s m args below meth c dC dI dA ad0 n0 A ad H locs ls C hA h0 hn (okS_cons.mpr ⟨inL_to _, hst⟩) hL hW hS hl
  refine lv_lor C.1 C.2.1 hd ?_
  simp only [List.map_cons, aV, orL, oL_to] at k2
  exact k2

theorem vc_iushr {x y : Int} (hd : At (mB D) pc .iushr 1 pc') (k : VC l D pc' L (aI (ushrI x y) :: st) M kc ks Q) : VC l D pc L (aI y :: aI x :: st) M kc ks Q := by
  intro p e s m args below meth c dC dI dA ad0 n0 A ad H locs ls C hA h0 hn hst hL hW hS hl
  obtain ⟨hd, rfl⟩ := hd
  obtain ⟨hy, hst⟩ := okS_cons.mp hst
  obtain ⟨hx, hst⟩ := okS_cons.mp hst
  have k2 := k p e s m args below meth c dC dI dA ad0 n0 A ad H locs ls C hA h0 hn (okS_cons.mpr ⟨inI_to _, hst⟩) hL hW hS hl
  simp only [List.map_cons, aV, ushrI, oI_to] at k2
  exact lv_iushr C.1 C.2.1 hd rfl k2

theorem vc_lshl {x y : Int} (hd : At (mB D) pc .lshl 1 pc') (k : VC l D pc' L (aL (shlL x y) :: st) M kc ks Q) : VC l D pc L (aI y :: aL x :: st) M kc ks Q := by
  intro p e s m args below meth c dC dI dA ad0 n0 A ad H locs ls C hA h0 hn hst hL hW hS hl
  obtain ⟨hd, rfl⟩ := hd
  obtain ⟨hy, hst⟩ := okS_cons.mp hst
  obtain ⟨hx, hst⟩ := okS_cons.mp hst
  have k2 := k p e s m args below meth c dC dI dA ad0 n0 A ad H locs ls C hA h0 hn (okS_cons.mpr ⟨inL_to _, hst⟩) hL hW hS hl
  simp only [List.map_cons, aV, shlL, oL_to] at k2
  exact lv_lshl C.1 C.2.1 hd rfl k2

theorem vc_lshr {x y : Int} (hd : At (mB D) pc .lshr 1 pc') (k : VC l D pc' L (aL (shrL x y) :: st) M kc ks Q) : VC l D pc L (aI y :: aL x :: st) M kc ks Q := by
  intro p e s m args below meth c dC dI dA ad0 n0 A ad H locs ls C hA h0 hn hst hL hW hS hl
  obtain ⟨hd, rfl⟩ := hd
  obtain ⟨hy, hst⟩ := okS_cons.mp hst
  obtain ⟨hx, hst⟩ := okS_cons.mp hst
  have k2 := k p e s m args below meth c dC dI dA ad0 n0 A ad H locs ls C hA h0 hn (okS_cons.mpr ⟨inL_to _, hst⟩) hL hW hS hl
  simp only [List.map_cons, aV, shrL, oL_to] at k2
  exact lv_lshr C.1 C.2.1 hd rfl k2

theorem vc_ineg {x : Int} (hd : At (mB D) pc .ineg 1 pc') (k : VC l D pc' L (aI (wI (-x)) :: st) M kc ks Q) : VC l D pc L (aI x :: st) M kc ks Q := by
  intro p e s m args below meth c dC dI dA ad0 n0 A ad H locs ls C hA h0 hn hst hL hW hS hl
  obtain ⟨hd, rfl⟩ := hd
  obtain ⟨hx, hst⟩ := okS_cons.mp hst
  have k2 := k p e s m args below meth c dC dI dA ad0 n0 A ad H locs ls C hA h0 hn (okS_cons.mpr ⟨inI_wI _, hst⟩) hL hW hS hl
  refine lv_ineg C.1 C.2.1 hd ?_
  rw [oI_neg]
  exact k2

theorem vc_lneg {x : Int} (hd : At (mB D) pc .lneg 1 pc') (k : VC l D pc' L (aL (wL (-x)) :: st) M kc ks Q) : VC l D pc L (aL x :: st) M kc ks Q := by
  intro p e s m args below meth c dC dI dA ad0 n0 A ad H locs ls C hA h0 hn hst hL hW hS hl
  obtain ⟨hd, rfl⟩ := hd
  obtain ⟨hx, hst⟩ := okS_cons.mp hst
  have k2 := k p e s m args below meth c dC dI dA ad0 n0 A ad H locs ls C hA h0 hn (okS_cons.mpr ⟨inL_wL _, hst⟩) hL hW hS hl
  refine lv_lneg C.1 C.2.1 hd ?_
  rw [oL_neg]
  exact k2

theorem vc_i2l {x : Int} (hd : At (mB D) pc .i2l 1 pc') (k : VC l D pc' L (aL x :: st) M kc ks Q) : VC l D pc L (aI x :: st) M kc ks Q := by
  intro p e s m args below meth c dC dI dA ad0 n0 A ad H locs ls C hA h0 hn hst hL hW hS hl
  obtain ⟨hd, rfl⟩ := hd
  obtain ⟨hx, hst⟩ := okS_cons.mp hst
  have k2 := k p e s m args below meth c dC dI dA ad0 n0 A ad H locs ls C hA h0 hn (okS_cons.mpr ⟨(show inL x from ⟨by have := hx.1; omega, by have := hx.2; omega⟩), hst⟩) hL hW hS hl
  exact lv_i2l C.1 C.2.1 hd (Int64.toInt_inj.mp (by rw [Int32.toInt_toInt64, oI_id hx, oL_id ⟨by have := hx.1; omega, by have := hx.2; omega⟩])) k2

theorem vc_l2i {x : Int} (hd : At (mB D) pc .l2i 1 pc') (k : VC l D pc' L (aI (wI x) :: st) M kc ks Q) : VC l D pc L (aL x :: st) M kc ks Q := by
  intro p e s m args below meth c dC dI dA ad0 n0 A ad H locs ls C hA h0 hn hst hL hW hS hl
  obtain ⟨hd, rfl⟩ := hd
  obtain ⟨hx, hst⟩ := okS_cons.mp hst
  have k2 := k p e s m args below meth c dC dI dA ad0 n0 A ad H locs ls C hA h0 hn (okS_cons.mpr ⟨inI_wI _, hst⟩) hL hW hS hl
  exact lv_l2i C.1 C.2.1 hd (Int32.toInt_inj.mp (by rw [Int64.toInt_toInt32, oL_id hx, oI_id (inI_wI x)]; rfl)) k2

theorem vc_lcmp {x y : Int} (hd : At (mB D) pc .lcmp 1 pc') (k : VC l D pc' L (aI (cmpL x y) :: st) M kc ks Q) : VC l D pc L (aL y :: aL x :: st) M kc ks Q := by
  intro p e s m args below meth c dC dI dA ad0 n0 A ad H locs ls C hA h0 hn hst hL hW hS hl
  obtain ⟨hd, rfl⟩ := hd
  obtain ⟨hy, hst⟩ := okS_cons.mp hst
  obtain ⟨hx, hst⟩ := okS_cons.mp hst
  have hr : inI (cmpL x y) := by unfold cmpL; split; exact ⟨by decide, by decide⟩; split <;> exact ⟨by decide, by decide⟩
  have k2 := k p e s m args below meth c dC dI dA ad0 n0 A ad H locs ls C hA h0 hn (okS_cons.mpr ⟨hr, hst⟩) hL hW hS hl
  have e : lg_cmp (Int64.ofInt x) (Int64.ofInt y) = Int32.ofInt (cmpL x y) := by
    unfold lg_cmp cmpL
    simp only [GT.gt, oL_lt hy hx, oL_eq hx hy]
    split
    · rfl
    · split <;> rfl
  refine W.lcmp C.1 C.2.1 hd ?_
  rw [e]
  exact k2

theorem vc_dup {v : AV} (hv : catA v = 1) (hd : At (mB D) pc .dup 1 pc') (k : VC l D pc' L (v :: v :: st) M kc ks Q) : VC l D pc L (v :: st) M kc ks Q := by
  intro p e s m args below meth c dC dI dA ad0 n0 A ad H locs ls C hA h0 hn hst hL hW hS hl
  obtain ⟨hd, rfl⟩ := hd
  obtain ⟨hv2, hst⟩ := okS_cons.mp hst
  exact lv_dup C.1 C.2.1 hd (by rw [aV_cat]; exact hv) (k p e s m args below meth c dC dI dA ad0 n0 A ad H locs ls C hA h0 hn (okS_cons.mpr ⟨hv2, okS_cons.mpr ⟨hv2, hst⟩⟩) hL hW hS hl)

theorem vc_pop {v : AV} (hv : catA v = 1) (hd : At (mB D) pc .pop 1 pc') (k : VC l D pc' L (st) M kc ks Q) : VC l D pc L (v :: st) M kc ks Q := by
  intro p e s m args below meth c dC dI dA ad0 n0 A ad H locs ls C hA h0 hn hst hL hW hS hl
  obtain ⟨hd, rfl⟩ := hd
  obtain ⟨hv2, hst⟩ := okS_cons.mp hst
  exact lv_pop C.1 C.2.1 hd (by rw [aV_cat]; exact hv) (k p e s m args below meth c dC dI dA ad0 n0 A ad H locs ls C hA h0 hn hst hL hW hS hl)

theorem vc_dup2 {v w : AV} (hv : catA v = 1) (hw : catA w = 1) (hd : At (mB D) pc .dup2 1 pc') (k : VC l D pc' L (v :: w :: v :: w :: st) M kc ks Q) : VC l D pc L (v :: w :: st) M kc ks Q := by
  intro p e s m args below meth c dC dI dA ad0 n0 A ad H locs ls C hA h0 hn hst hL hW hS hl
  obtain ⟨hd, rfl⟩ := hd
  obtain ⟨hv2, hst⟩ := okS_cons.mp hst
  obtain ⟨hw2, hst⟩ := okS_cons.mp hst
  exact lv_dup2_11 C.1 C.2.1 hd (by rw [aV_cat]; exact hv) (by rw [aV_cat]; exact hw) (k p e s m args below meth c dC dI dA ad0 n0 A ad H locs ls C hA h0 hn (okS_cons.mpr ⟨hv2, okS_cons.mpr ⟨hw2, okS_cons.mpr ⟨hv2, okS_cons.mpr ⟨hw2, hst⟩⟩⟩⟩) hL hW hS hl)

theorem vc_istore_n {i : Fin 4} {x : Int} (hn2 : (i : Nat) < mN D) (hf : freeB L (i : Nat) = true) (hL2 : L.set (i : Nat) (some (aI x)) = L') (hd : At (mB D) pc (.istore_n i) 1 pc') (k : VC l D pc' L' st M kc ks Q) : VC l D pc L (aI x :: st) M kc ks Q := by
  intro p e s m args below meth c dC dI dA ad0 n0 A ad H locs ls C hA h0 hn hst hL hW hS hl
  obtain ⟨hd, rfl⟩ := hd
  obtain ⟨hx, hst⟩ := okS_cons.mp hst
  subst hL2
  exact lv_istore_n C.1 C.2.1 hd rfl hl hn2 rfl (fun ls2 hl2 => k p e s m args below meth c dC dI dA ad0 n0 A ad H locs ls2 C hA h0 hn hst (okL_set hL hx) hW hS (lvL_set1 hf hl2))

theorem vc_istore {i : Nat} {x : Int} (hn2 : i < mN D) (hf : freeB L i = true) (hL2 : L.set i (some (aI x)) = L') (hd : At (mB D) pc (.istore i) 2 pc') (k : VC l D pc' L' st M kc ks Q) : VC l D pc L (aI x :: st) M kc ks Q := by
  intro p e s m args below meth c dC dI dA ad0 n0 A ad H locs ls C hA h0 hn hst hL hW hS hl
  obtain ⟨hd, rfl⟩ := hd
  obtain ⟨hx, hst⟩ := okS_cons.mp hst
  subst hL2
  exact lv_istore C.1 C.2.1 hd hl hn2 rfl (fun ls2 hl2 => k p e s m args below meth c dC dI dA ad0 n0 A ad H locs ls2 C hA h0 hn hst (okL_set hL hx) hW hS (lvL_set1 hf hl2))

theorem vc_lstore_n {i : Fin 4} {x : Int} (hn2 : (i : Nat) + 1 < mN D) (hf : freeB L (i : Nat) = true) (hn3 : (L.set ((i : Nat) + 1) none)[(i : Nat) + 1]? = some none) (hL2 : (L.set ((i : Nat) + 1) none).set (i : Nat) (some (aL x)) = L') (hd : At (mB D) pc (.lstore_n i) 1 pc') (k : VC l D pc' L' st M kc ks Q) : VC l D pc L (aL x :: st) M kc ks Q := by
  intro p e s m args below meth c dC dI dA ad0 n0 A ad H locs ls C hA h0 hn hst hL hW hS hl
  obtain ⟨hd, rfl⟩ := hd
  obtain ⟨hx, hst⟩ := okS_cons.mp hst
  subst hL2
  exact lv_lstore_n C.1 C.2.1 hd rfl hl hn2 rfl (fun ls2 hl2 => k p e s m args below meth c dC dI dA ad0 n0 A ad H locs ls2 C hA h0 hn hst (okL_set (okL_clr hL) hx) hW hS (lvL_set2 hf hn3 hl2))

theorem vc_lstore {i : Nat} {x : Int} (hn2 : i + 1 < mN D) (hf : freeB L i = true) (hn3 : (L.set (i + 1) none)[i + 1]? = some none) (hL2 : (L.set (i + 1) none).set i (some (aL x)) = L') (hd : At (mB D) pc (.lstore i) 2 pc') (k : VC l D pc' L' st M kc ks Q) : VC l D pc L (aL x :: st) M kc ks Q := by
  intro p e s m args below meth c dC dI dA ad0 n0 A ad H locs ls C hA h0 hn hst hL hW hS hl
  obtain ⟨hd, rfl⟩ := hd
  obtain ⟨hx, hst⟩ := okS_cons.mp hst
  subst hL2
  exact lv_lstore C.1 C.2.1 hd hl hn2 rfl (fun ls2 hl2 => k p e s m args below meth c dC dI dA ad0 n0 A ad H locs ls2 C hA h0 hn hst (okL_set (okL_clr hL) hx) hW hS (lvL_set2 hf hn3 hl2))

theorem vc_astore_n {i : Fin 4} {r : Option Nat} (hn2 : (i : Nat) < mN D) (hf : freeB L (i : Nat) = true) (hL2 : L.set (i : Nat) (some (.inr (.inr r))) = L') (hd : At (mB D) pc (.astore_n i) 1 pc') (k : VC l D pc' L' st M kc ks Q) : VC l D pc L (.inr (.inr r) :: st) M kc ks Q := by
  intro p e s m args below meth c dC dI dA ad0 n0 A ad H locs ls C hA h0 hn hst hL hW hS hl
  obtain ⟨hd, rfl⟩ := hd
  obtain ⟨hx, hst⟩ := okS_cons.mp hst
  subst hL2
  have k2 := fun ls2 hl2 => k p e s m args below meth c dC dI dA ad0 n0 A ad H locs ls2 C hA h0 hn hst (okL_set hL hx) hW hS (lvL_set1 hf hl2)
  cases r with
  | none => exact lv_astore_nN C.1 C.2.1 hd rfl hl hn2 rfl k2
  | some x => exact lv_astore_n C.1 C.2.1 hd rfl hl hn2 rfl k2

theorem vc_astore {i : Nat} {r : Option Nat} (hn2 : i < mN D) (hf : freeB L i = true) (hL2 : L.set i (some (.inr (.inr r))) = L') (hd : At (mB D) pc (.astore i) 2 pc') (k : VC l D pc' L' st M kc ks Q) : VC l D pc L (.inr (.inr r) :: st) M kc ks Q := by
  intro p e s m args below meth c dC dI dA ad0 n0 A ad H locs ls C hA h0 hn hst hL hW hS hl
  obtain ⟨hd, rfl⟩ := hd
  obtain ⟨hx, hst⟩ := okS_cons.mp hst
  subst hL2
  have k2 := fun ls2 hl2 => k p e s m args below meth c dC dI dA ad0 n0 A ad H locs ls2 C hA h0 hn hst (okL_set hL hx) hW hS (lvL_set1 hf hl2)
  cases r with
  | none => exact lv_astoreN C.1 C.2.1 hd hl hn2 rfl k2
  | some x => exact lv_astore C.1 C.2.1 hd hl hn2 rfl k2

theorem vc_iinc {i : Nat} {n x : Int} (hi : L[i]? = some (some (aI x))) (hn2 : i < mN D) (hf : freeB L i = true) (hL2 : L.set i (some (aI (wI (x + n)))) = L') (hd : At (mB D) pc (.iinc i n) 3 pc') (k : VC l D pc' L' st M kc ks Q) : VC l D pc L st M kc ks Q := by
  intro p e s m args below meth c dC dI dA ad0 n0 A ad H locs ls C hA h0 hn hst hL hW hS hl
  obtain ⟨hd, rfl⟩ := hd
  subst hL2
  have hm : (i, Value.int (Int32.ofInt x)) ∈ lvL ad L := lvL_mem.mpr ⟨aI x, hi, rfl⟩
  obtain ⟨j, hj⟩ := List.getElem?_of_mem hm
  refine lv_iinc (v := Int32.ofInt (wI (x + n))) C.1 C.2.1 hd hl hj (by rw [oI_add]) hn2 rfl (fun ls2 hl2 => ?_)
  exact k p e s m args below meth c dC dI dA ad0 n0 A ad H locs ls2 C hA h0 hn hst (okL_set hL (inI_wI _ : okV M.1 (aI (wI (x + n))))) hW hS (lvL_set1 (v := aI (wI (x + n))) hf hl2)

theorem vc_icmp_eq {x y off : Int} (hd : AtB (mB D) pc (.if_icmp .eq off) off pc' tgt) (kt : x = y → VC l D tgt L st M kc ks Q) (kf : ¬ (x = y) → VC l D pc' L st M kc ks Q) : VC l D pc L (aI y :: aI x :: st) M kc ks Q := by
  intro p e s m args below meth c dC dI dA ad0 n0 A ad H locs ls C hA h0 hn hst hL hW hS hl
  obtain ⟨hd, rfl, ht⟩ := hd
  obtain ⟨hy, hst⟩ := okS_cons.mp hst
  obtain ⟨hx, hst⟩ := okS_cons.mp hst
  have hh := oI_eq hx hy
  exact lv_icmp_eq C.1 C.2.1 hd ht (fun h => kt (hh.mp h) p e s m args below meth c dC dI dA ad0 n0 A ad H locs ls C hA h0 hn hst hL hW hS hl) (fun h => kf (fun h2 => h (hh.mpr h2)) p e s m args below meth c dC dI dA ad0 n0 A ad H locs ls C hA h0 hn hst hL hW hS hl)

theorem vc_if_eq {x off : Int} (hd : AtB (mB D) pc (.ifCond .eq off) off pc' tgt) (kt : x = 0 → VC l D tgt L st M kc ks Q) (kf : ¬ (x = 0) → VC l D pc' L st M kc ks Q) : VC l D pc L (aI x :: st) M kc ks Q := by
  intro p e s m args below meth c dC dI dA ad0 n0 A ad H locs ls C hA h0 hn hst hL hW hS hl
  obtain ⟨hd, rfl, ht⟩ := hd
  obtain ⟨hx, hst⟩ := okS_cons.mp hst
  have hh := oI_eq hx inI_0
  exact lv_if_eq C.1 C.2.1 hd ht (fun h => kt (hh.mp h) p e s m args below meth c dC dI dA ad0 n0 A ad H locs ls C hA h0 hn hst hL hW hS hl) (fun h => kf (fun h2 => h (hh.mpr h2)) p e s m args below meth c dC dI dA ad0 n0 A ad H locs ls C hA h0 hn hst hL hW hS hl)

theorem vc_icmp_ne {x y off : Int} (hd : AtB (mB D) pc (.if_icmp .ne off) off pc' tgt) (kt : ¬ x = y → VC l D tgt L st M kc ks Q) (kf : x = y → VC l D pc' L st M kc ks Q) : VC l D pc L (aI y :: aI x :: st) M kc ks Q := by
  intro p e s m args below meth c dC dI dA ad0 n0 A ad H locs ls C hA h0 hn hst hL hW hS hl
  obtain ⟨hd, rfl, ht⟩ := hd
  obtain ⟨hy, hst⟩ := okS_cons.mp hst
  obtain ⟨hx, hst⟩ := okS_cons.mp hst
  have hh := not_congr (oI_eq hx hy)
  exact lv_icmp_ne C.1 C.2.1 hd ht (fun h => kt (hh.mp h) p e s m args below meth c dC dI dA ad0 n0 A ad H locs ls C hA h0 hn hst hL hW hS hl) (fun h => kf ((oI_eq hx hy).mp h) p e s m args below meth c dC dI dA ad0 n0 A ad H locs ls C hA h0 hn hst hL hW hS hl)

theorem vc_if_ne {x off : Int} (hd : AtB (mB D) pc (.ifCond .ne off) off pc' tgt) (kt : ¬ x = 0 → VC l D tgt L st M kc ks Q) (kf : x = 0 → VC l D pc' L st M kc ks Q) : VC l D pc L (aI x :: st) M kc ks Q := by
  intro p e s m args below meth c dC dI dA ad0 n0 A ad H locs ls C hA h0 hn hst hL hW hS hl
  obtain ⟨hd, rfl, ht⟩ := hd
  obtain ⟨hx, hst⟩ := okS_cons.mp hst
  have hh := not_congr (oI_eq hx inI_0)
  exact lv_if_ne C.1 C.2.1 hd ht (fun h => kt (hh.mp h) p e s m args below meth c dC dI dA ad0 n0 A ad H locs ls C hA h0 hn hst hL hW hS hl) (fun h => kf ((oI_eq hx inI_0).mp h) p e s m args below meth c dC dI dA ad0 n0 A ad H locs ls C hA h0 hn hst hL hW hS hl)

theorem vc_icmp_lt {x y off : Int} (hd : AtB (mB D) pc (.if_icmp .lt off) off pc' tgt) (kt : x < y → VC l D tgt L st M kc ks Q) (kf : ¬ (x < y) → VC l D pc' L st M kc ks Q) : VC l D pc L (aI y :: aI x :: st) M kc ks Q := by
  intro p e s m args below meth c dC dI dA ad0 n0 A ad H locs ls C hA h0 hn hst hL hW hS hl
  obtain ⟨hd, rfl, ht⟩ := hd
  obtain ⟨hy, hst⟩ := okS_cons.mp hst
  obtain ⟨hx, hst⟩ := okS_cons.mp hst
  have hh := oI_lt hx hy
  exact lv_icmp_lt C.1 C.2.1 hd ht (fun h => kt (hh.mp h) p e s m args below meth c dC dI dA ad0 n0 A ad H locs ls C hA h0 hn hst hL hW hS hl) (fun h => kf (fun h2 => h (hh.mpr h2)) p e s m args below meth c dC dI dA ad0 n0 A ad H locs ls C hA h0 hn hst hL hW hS hl)

theorem vc_if_lt {x off : Int} (hd : AtB (mB D) pc (.ifCond .lt off) off pc' tgt) (kt : x < 0 → VC l D tgt L st M kc ks Q) (kf : ¬ (x < 0) → VC l D pc' L st M kc ks Q) : VC l D pc L (aI x :: st) M kc ks Q := by
  intro p e s m args below meth c dC dI dA ad0 n0 A ad H locs ls C hA h0 hn hst hL hW hS hl
  obtain ⟨hd, rfl, ht⟩ := hd
  obtain ⟨hx, hst⟩ := okS_cons.mp hst
  have hh := oI_lt hx inI_0
  exact lv_if_lt C.1 C.2.1 hd ht (fun h => kt (hh.mp h) p e s m args below meth c dC dI dA ad0 n0 A ad H locs ls C hA h0 hn hst hL hW hS hl) (fun h => kf (fun h2 => h (hh.mpr h2)) p e s m args below meth c dC dI dA ad0 n0 A ad H locs ls C hA h0 hn hst hL hW hS hl)

theorem vc_icmp_ge {x y off : Int} (hd : AtB (mB D) pc (.if_icmp .ge off) off pc' tgt) (kt : y ≤ x → VC l D tgt L st M kc ks Q) (kf : ¬ (y ≤ x) → VC l D pc' L st M kc ks Q) : VC l D pc L (aI y :: aI x :: st) M kc ks Q := by
  intro p e s m args below meth c dC dI dA ad0 n0 A ad H locs ls C hA h0 hn hst hL hW hS hl
  obtain ⟨hd, rfl, ht⟩ := hd
  obtain ⟨hy, hst⟩ := okS_cons.mp hst
  obtain ⟨hx, hst⟩ := okS_cons.mp hst
  have hh := oI_le hy hx
  exact lv_icmp_ge C.1 C.2.1 hd ht (fun h => kt (hh.mp h) p e s m args below meth c dC dI dA ad0 n0 A ad H locs ls C hA h0 hn hst hL hW hS hl) (fun h => kf (fun h2 => h (hh.mpr h2)) p e s m args below meth c dC dI dA ad0 n0 A ad H locs ls C hA h0 hn hst hL hW hS hl)

theorem vc_if_ge {x off : Int} (hd : AtB (mB D) pc (.ifCond .ge off) off pc' tgt) (kt : 0 ≤ x → VC l D tgt L st M kc ks Q) (kf : ¬ (0 ≤ x) → VC l D pc' L st M kc ks Q) : VC l D pc L (aI x :: st) M kc ks Q := by
  intro p e s m args below meth c dC dI dA ad0 n0 A ad H locs ls C hA h0 hn hst hL hW hS hl
  obtain ⟨hd, rfl, ht⟩ := hd
  obtain ⟨hx, hst⟩ := okS_cons.mp hst
  have hh := oI_le inI_0 hx
  exact lv_if_ge C.1 C.2.1 hd ht (fun h => kt (hh.mp h) p e s m args below meth c dC dI dA ad0 n0 A ad H locs ls C hA h0 hn hst hL hW hS hl) (fun h => kf (fun h2 => h (hh.mpr h2)) p e s m args below meth c dC dI dA ad0 n0 A ad H locs ls C hA h0 hn hst hL hW hS hl)

theorem vc_icmp_gt {x y off : Int} (hd : AtB (mB D) pc (.if_icmp .gt off) off pc' tgt) (kt : y < x → VC l D tgt L st M kc ks Q) (kf : ¬ (y < x) → VC l D pc' L st M kc ks Q) : VC l D pc L (aI y :: aI x :: st) M kc ks Q := by
  intro p e s m args below meth c dC dI dA ad0 n0 A ad H locs ls C hA h0 hn hst hL hW hS hl
  obtain ⟨hd, rfl, ht⟩ := hd
  obtain ⟨hy, hst⟩ := okS_cons.mp hst
  obtain ⟨hx, hst⟩ := okS_cons.mp hst
  have hh := oI_lt hy hx
  exact lv_icmp_gt C.1 C.2.1 hd ht (fun h => kt (hh.mp h) p e s m args below meth c dC dI dA ad0 n0 A ad H locs ls C hA h0 hn hst hL hW hS hl) (fun h => kf (fun h2 => h (hh.mpr h2)) p e s m args below meth c dC dI dA ad0 n0 A ad H locs ls C hA h0 hn hst hL hW hS hl)

theorem vc_if_gt {x off : Int} (hd : AtB (mB D) pc (.ifCond .gt off) off pc' tgt) (kt : 0 < x → VC l D tgt L st M kc ks Q) (kf : ¬ (0 < x) → VC l D pc' L st M kc ks Q) : VC l D pc L (aI x :: st) M kc ks Q := by
  intro p e s m args below meth c dC dI dA ad0 n0 A ad H locs ls C hA h0 hn hst hL hW hS hl
  obtain ⟨hd, rfl, ht⟩ := hd
  obtain ⟨hx, hst⟩ := okS_cons.mp hst
  have hh := oI_lt inI_0 hx
  exact lv_if_gt C.1 C.2.1 hd ht (fun h => kt (hh.mp h) p e s m args below meth c dC dI dA ad0 n0 A ad H locs ls C hA h0 hn hst hL hW hS hl) (fun h => kf (fun h2 => h (hh.mpr h2)) p e s m args below meth c dC dI dA ad0 n0 A ad H locs ls C hA h0 hn hst hL hW hS hl)

theorem vc_icmp_le {x y off : Int} (hd : AtB (mB D) pc (.if_icmp .le off) off pc' tgt) (kt : x ≤ y → VC l D tgt L st M kc ks Q) (kf : ¬ (x ≤ y) → VC l D pc' L st M kc ks Q) : VC l D pc L (aI y :: aI x :: st) M kc ks Q := by
  intro p e s m args below meth c dC dI dA ad0 n0 A ad H locs ls C hA h0 hn hst hL hW hS hl
  obtain ⟨hd, rfl, ht⟩ := hd
  obtain ⟨hy, hst⟩ := okS_cons.mp hst
  obtain ⟨hx, hst⟩ := okS_cons.mp hst
  have hh := oI_le hx hy
  exact lv_icmp_le C.1 C.2.1 hd ht (fun h => kt (hh.mp h) p e s m args below meth c dC dI dA ad0 n0 A ad H locs ls C hA h0 hn hst hL hW hS hl) (fun h => kf (fun h2 => h (hh.mpr h2)) p e s m args below meth c dC dI dA ad0 n0 A ad H locs ls C hA h0 hn hst hL hW hS hl)

theorem vc_if_le {x off : Int} (hd : AtB (mB D) pc (.ifCond .le off) off pc' tgt) (kt : x ≤ 0 → VC l D tgt L st M kc ks Q) (kf : ¬ (x ≤ 0) → VC l D pc' L st M kc ks Q) : VC l D pc L (aI x :: st) M kc ks Q := by
  intro p e s m args below meth c dC dI dA ad0 n0 A ad H locs ls C hA h0 hn hst hL hW hS hl
  obtain ⟨hd, rfl, ht⟩ := hd
  obtain ⟨hx, hst⟩ := okS_cons.mp hst
  have hh := oI_le hx inI_0
  exact lv_if_le C.1 C.2.1 hd ht (fun h => kt (hh.mp h) p e s m args below meth c dC dI dA ad0 n0 A ad H locs ls C hA h0 hn hst hL hW hS hl) (fun h => kf (fun h2 => h (hh.mpr h2)) p e s m args below meth c dC dI dA ad0 n0 A ad H locs ls C hA h0 hn hst hL hW hS hl)

theorem vc_goto {off : Int} (hd : AtB (mB D) pc (.goto off) off pc' tgt) (k : VC l D tgt L st M kc ks Q) : VC l D pc L st M kc ks Q := by
  intro p e s m args below meth c dC dI dA ad0 n0 A ad H locs ls C hA h0 hn hst hL hW hS hl
  obtain ⟨hd, rfl, ht⟩ := hd
  exact lv_goto C.1 C.2.1 hd ht (k p e s m args below meth c dC dI dA ad0 n0 A ad H locs ls C hA h0 hn hst hL hW hS hl)

theorem vc_ifnull {r : Option Nat} {off : Int} (hd : AtB (mB D) pc (.ifnull off) off pc' tgt) (kt : r = none → VC l D tgt L st M kc ks Q) (kf : ¬ (r = none) → VC l D pc' L st M kc ks Q) : VC l D pc L (.inr (.inr r) :: st) M kc ks Q := by
  intro p e s m args below meth c dC dI dA ad0 n0 A ad H locs ls C hA h0 hn hst hL hW hS hl
  obtain ⟨hd, rfl, ht⟩ := hd
  have hst2 := (okS_cons.mp hst).2
  cases r with
  | none => exact lv_ifnullN C.1 C.2.1 hd ht (kt rfl p e s m args below meth c dC dI dA ad0 n0 A ad H locs ls C hA h0 hn hst2 hL hW hS hl)
  | some x => exact lv_ifnull C.1 C.2.1 hd (kf (fun h => by cases h) p e s m args below meth c dC dI dA ad0 n0 A ad H locs ls C hA h0 hn hst2 hL hW hS hl)

theorem vc_ifnonnull {r : Option Nat} {off : Int} (hd : AtB (mB D) pc (.ifnonnull off) off pc' tgt) (kt : ¬ r = none → VC l D tgt L st M kc ks Q) (kf : ¬ (¬ r = none) → VC l D pc' L st M kc ks Q) : VC l D pc L (.inr (.inr r) :: st) M kc ks Q := by
  intro p e s m args below meth c dC dI dA ad0 n0 A ad H locs ls C hA h0 hn hst hL hW hS hl
  obtain ⟨hd, rfl, ht⟩ := hd
  have hst2 := (okS_cons.mp hst).2
  cases r with
  | none => exact lv_ifnonnullN C.1 C.2.1 hd (kf (fun h => h rfl) p e s m args below meth c dC dI dA ad0 n0 A ad H locs ls C hA h0 hn hst2 hL hW hS hl)
  | some x => exact lv_ifnonnull C.1 C.2.1 hd ht (kt (fun h => by cases h) p e s m args below meth c dC dI dA ad0 n0 A ad H locs ls C hA h0 hn hst2 hL hW hS hl)

theorem vc_iret {x : Int} (hr : mT D = some .int) (h1 : kc ≤ mC D) (h2 : ks ≤ mS D) (hd : At (mB D) pc .ireturn 1 pc') (hq : Q (some (aI x)) M) : VC l D pc L [aI x] M kc ks Q := by
  intro p e s m args below meth c dC dI dA ad0 n0 A ad H locs ls C hA h0 hn hst hL hW hS hl
  obtain ⟨hd, rfl⟩ := hd
  obtain ⟨hx, hst⟩ := okS_cons.mp hst
  refine W.widen h1 h2 ?_
  exact W.iret C.1 C.2.1 (C.2.2.1.trans hr) (fun t ht hw => ⟨some (aI x), M, ad, rfl, hq, hx, h0, hn, by rw [ht]; exact hW, va_K.moved hw.alike C.2.2.2.2.2.2.2.1, hS.F ht⟩) hS.2.2 hd C.2.2.2.1

theorem vc_zret {x : Int} (hr : mT D = some .boolean) (hb : x = 0 ∨ x = 1) (h1 : kc ≤ mC D) (h2 : ks ≤ mS D) (hd : At (mB D) pc .ireturn 1 pc') (hq : Q (some (aI x)) M) : VC l D pc L [aI x] M kc ks Q := by
  intro p e s m args below meth c dC dI dA ad0 n0 A ad H locs ls C hA h0 hn hst hL hW hS hl
  obtain ⟨hd, rfl⟩ := hd
  obtain ⟨hx, hst⟩ := okS_cons.mp hst
  refine W.widen h1 h2 ?_
  exact W.zret C.1 C.2.1 (C.2.2.1.trans hr) (by rcases hb with rfl | rfl <;> rfl) (fun t ht hw => ⟨some (aI x), M, ad, rfl, hq, hx, h0, hn, by rw [ht]; exact hW, va_K.moved hw.alike C.2.2.2.2.2.2.2.1, hS.F ht⟩) hS.2.2 hd C.2.2.2.1

theorem vc_lret {x : Int} (hr : mT D = some .long) (h1 : kc ≤ mC D) (h2 : ks ≤ mS D) (hd : At (mB D) pc .lreturn 1 pc') (hq : Q (some (aL x)) M) : VC l D pc L [aL x] M kc ks Q := by
  intro p e s m args below meth c dC dI dA ad0 n0 A ad H locs ls C hA h0 hn hst hL hW hS hl
  obtain ⟨hd, rfl⟩ := hd
  obtain ⟨hx, hst⟩ := okS_cons.mp hst
  refine W.widen h1 h2 ?_
  exact W.lret C.1 C.2.1 (C.2.2.1.trans hr) (fun t ht hw => ⟨some (aL x), M, ad, rfl, hq, hx, h0, hn, by rw [ht]; exact hW, va_K.moved hw.alike C.2.2.2.2.2.2.2.1, hS.F ht⟩) hS.2.2 hd C.2.2.2.1

theorem vc_vret (hr : mT D = none) (h1 : kc ≤ mC D) (h2 : ks ≤ mS D) (hd : At (mB D) pc .return_ 1 pc') (hq : Q none M) : VC l D pc L [] M kc ks Q := by
  intro p e s m args below meth c dC dI dA ad0 n0 A ad H locs ls C hA h0 hn hst hL hW hS hl
  obtain ⟨hd, rfl⟩ := hd
  refine W.widen h1 h2 ?_
  exact W.vret C.1 C.2.1 (C.2.2.1.trans hr) (fun t ht hw => ⟨none, M, ad, rfl, hq, trivial, h0, hn, by rw [ht]; exact hW, va_K.moved hw.alike C.2.2.2.2.2.2.2.1, hS.F ht⟩) hS.2.2 hd C.2.2.2.1

theorem vc_aret {r : Option Nat} {C2 : String} (hr : mT D = some (.object C2)) (h1 : kc ≤ mC D) (h2 : ks ≤ mS D) (hd : At (mB D) pc .areturn 1 pc') (hq : Q (some (.inr (.inr r))) M) : VC l D pc L [.inr (.inr r)] M kc ks Q := by
  intro p e s m args below meth c dC dI dA ad0 n0 A ad H locs ls C hA h0 hn hst hL hW hS hl
  obtain ⟨hd, rfl⟩ := hd
  obtain ⟨hx, hst⟩ := okS_cons.mp hst
  refine W.widen h1 h2 ?_
  exact W.aret (v := va_rf (r.map ad)) C.1 C.2.1 (C.2.2.1.trans hr) (Or.inl ⟨_, rfl⟩) (by cases r with | none => exact Or.inl rfl | some x => exact Or.inr ⟨_, rfl⟩) (fun t ht hw => ⟨some (.inr (.inr r)), M, ad, rfl, hq, hx, h0, hn, by rw [ht]; exact hW, va_K.moved hw.alike C.2.2.2.2.2.2.2.1, hS.F ht⟩) hS.2.2 hd C.2.2.2.1

end VCR
end
section
/-! The classes: their words are among tblG. -/
theorem inG0 : ∀ w ∈ u_ws RX0 TX0 5, w ∈ tblG := by decide +kernel
theorem inG1 : ∀ w ∈ u_ws RX1 TX1 5, w ∈ tblG := by decide +kernel
theorem inG2 : ∀ w ∈ u_ws RX2 TX2 4, w ∈ tblG := by decide +kernel
theorem inG3 : ∀ w ∈ u_ws RX3 TX3 6, w ∈ tblG := by decide +kernel
theorem inG4 : ∀ w ∈ u_ws RX4 TX4 15, w ∈ tblG := by decide +kernel
theorem inG5 : ∀ w ∈ u_ws RX5 TX5 4, w ∈ tblG := by decide +kernel
theorem inG6 : ∀ w ∈ u_ws RX6 TX6 12, w ∈ tblG := by decide +kernel
theorem inG7 : ∀ w ∈ u_ws RX7 TX7 11, w ∈ tblG := by decide +kernel
theorem inG8 : ∀ w ∈ u_ws RX8 TX8 4, w ∈ tblG := by decide +kernel
theorem inG9 : ∀ w ∈ u_ws RX9 TX9 4, w ∈ tblG := by decide +kernel
theorem inG10 : ∀ w ∈ u_ws RX10 TX10 8, w ∈ tblG := by decide +kernel
theorem inG11 : ∀ w ∈ u_ws RX11 TX11 16, w ∈ tblG := by decide +kernel
theorem inG12 : ∀ w ∈ u_ws RX12 TX12 47, w ∈ tblG := by decide +kernel
def clsP (ci : Nat) (q : vw_C) : Prop := (∀ w ∈ u_ws q.1 q.2.1 q.2.2, w ∈ tblG) ∧ (∀ k, k < q.2.2 → parseFieldDescriptor (q.2.1 k).2.2.1 = some (tyC ci k)) ∧ nFC ci = q.2.2 ∧ (∀ a, a < q.2.2 → ∀ b, b < q.2.2 → a ≠ b → (q.2.1 a).2.1 ≠ (q.2.1 b).2.1)
theorem clsOk (ci : Nat) (q : vw_C) (h : vwCl[ci]? = some q) : clsP ci q := by
  match ci, h with
  | 0, h => cases h; exact ⟨inG0, tyX0_ok, rfl, nmX0⟩
  | 1, h => cases h; exact ⟨inG1, tyX1_ok, rfl, nmX1⟩
  | 2, h => cases h; exact ⟨inG2, tyX2_ok, rfl, nmX2⟩
  | 3, h => cases h; exact ⟨inG3, tyX3_ok, rfl, nmX3⟩
  | 4, h => cases h; exact ⟨inG4, tyX4_ok, rfl, nmX4⟩
  | 5, h => cases h; exact ⟨inG5, tyX5_ok, rfl, nmX5⟩
  | 6, h => cases h; exact ⟨inG6, tyX6_ok, rfl, nmX6⟩
  | 7, h => cases h; exact ⟨inG7, tyX7_ok, rfl, nmX7⟩
  | 8, h => cases h; exact ⟨inG8, tyX8_ok, rfl, nmX8⟩
  | 9, h => cases h; exact ⟨inG9, tyX9_ok, rfl, nmX9⟩
  | 10, h => cases h; exact ⟨inG10, tyX10_ok, rfl, nmX10⟩
  | 11, h => cases h; exact ⟨inG11, tyX11_ok, rfl, nmX11⟩
  | 12, h => cases h; exact ⟨inG12, tyX12_ok, rfl, nmX12⟩
  | n + 13, h => simp at h
end
section
/-! VC ROWS that touch the heap. -/
theorem mI_sI (M : Mem) (k j : Nat) (v : Int) (a b : Nat) : mI (sI M k j v) a b = if a = k ∧ b = j then v else mI M a b := rfl
theorem mJ_sI (M : Mem) (k j : Nat) (v : Int) (a b : Nat) : mJ (sI M k j v) a b = mJ M a b := rfl
theorem mR_sI (M : Mem) (k j : Nat) (v : Int) (a b : Nat) : mR (sI M k j v) a b = mR M a b := rfl
theorem mI_sJ (M : Mem) (k j : Nat) (v : Int) (a b : Nat) : mI (sJ M k j v) a b = mI M a b := rfl
theorem mJ_sJ (M : Mem) (k j : Nat) (v : Int) (a b : Nat) : mJ (sJ M k j v) a b = if a = k ∧ b = j then v else mJ M a b := rfl
theorem mR_sJ (M : Mem) (k j : Nat) (v : Int) (a b : Nat) : mR (sJ M k j v) a b = mR M a b := rfl
theorem mI_sR (M : Mem) (k j : Nat) (v : Option Nat) (a b : Nat) : mI (sR M k j v) a b = mI M a b := rfl
theorem mJ_sR (M : Mem) (k j : Nat) (v : Option Nat) (a b : Nat) : mJ (sR M k j v) a b = mJ M a b := rfl
theorem mR_sR (M : Mem) (k j : Nat) (v : Option Nat) (a b : Nat) : mR (sR M k j v) a b = if a = k ∧ b = j then v else mR M a b := rfl
theorem okM_sI {M : Mem} {k j : Nat} {v : Int} (h : okM M) (hv : inI v) : okM (sI M k j v) := by
  intro a b
  refine ⟨?_, (h a b).2.1, (h a b).2.2⟩
  rw [mI_sI]
  split
  · exact hv
  · exact (h a b).1
theorem okM_sJ {M : Mem} {k j : Nat} {v : Int} (h : okM M) (hv : inL v) : okM (sJ M k j v) := by
  intro a b
  refine ⟨(h a b).1, ?_, (h a b).2.2⟩
  rw [mJ_sJ]
  split
  · exact hv
  · exact (h a b).2.1
theorem okM_sR {M : Mem} {k j : Nat} {v : Option Nat} (h : okM M) (hv : ∀ r, v = some r → r < M.1.length) : okM (sR M k j v) := by
  intro a b
  refine ⟨(h a b).1, (h a b).2.1, fun r hr => ?_⟩
  rw [mR_sR] at hr
  split at hr
  · exact hv r hr
  · exact (h a b).2.2 r hr
theorem fV_cong {ad : Nat → Nat} {M M' : Mem} {k j : Nat} (h1 : mI M' k j = mI M k j) (h2 : mJ M' k j = mJ M k j) (h3 : mR M' k j = mR M k j) (ty : FieldType) : fV ad M' k j ty = fV ad M k j ty := by
  unfold fV
  rw [h1, h2, h3]
theorem cellW_cong {dA : Nat → ClassId} {ad : Nat → Nat} {M M' : Mem} {k : Nat} (h1 : ∀ j, mI M' k j = mI M k j) (h2 : ∀ j, mJ M' k j = mJ M k j) (h3 : ∀ j, mR M' k j = mR M k j) (sh : Sh) : cellW dA ad M' k sh = cellW dA ad M k sh := by
  rcases sh with ci | ⟨t, n⟩
  · show Sum.inr (ci, flC ad M' k ci) = Sum.inr (ci, flC ad M k ci)
    unfold flC
    rw [List.map_congr_left (fun j _ => fV_cong (h1 j) (h2 j) (h3 j) (tyC ci j))]
  · show Sum.inl (dA t, n, arA ad M' k t) = Sum.inl (dA t, n, arA ad M k t)
    unfold arA
    simp only [h1, h2, h3]
theorem wld_upd {dA : Nat → ClassId} {ad : Nat → Nat} {M M' : Mem} {k : Nat} {sh : Sh} {e : va_E} (hS : M'.1 = M.1) (hs : M.1[k]? = some sh) (h1 : ∀ i j, i ≠ k → mI M' i j = mI M i j) (h2 : ∀ i j, i ≠ k → mJ M' i j = mJ M i j) (h3 : ∀ i j, i ≠ k → mR M' i j = mR M i j) (he : cellW dA ad M' k sh = e) : wld dA ad M' = (wld dA ad M).set k (ad k, e) := by
  apply List.ext_getElem?
  intro i
  have hlt : k < (wld dA ad M).length := by rw [wld_len]; exact (List.getElem?_eq_some_iff.mp hs).1
  by_cases hi : i = k
  · subst hi
    rw [List.getElem?_set_self hlt, wld_at (by rw [hS]; exact hs), he]
  · rw [List.getElem?_set_ne (Ne.symm hi)]
    unfold wld
    rw [List.getElem?_mapIdx, List.getElem?_mapIdx, hS]
    cases M.1[i]? with
    | none => rfl
    | some sh2 =>
      show some (ad i, cellW dA ad M' i sh2) = some (ad i, cellW dA ad M i sh2)
      rw [cellW_cong (fun j => h1 i j hi) (fun j => h2 i j hi) (fun j => h3 i j hi)]
theorem flC_at {ad : Nat → Nat} {M : Mem} {k ci j : Nat} (hj : j < nFC ci) : (flC ad M k ci)[j]? = some (fV ad M k j (tyC ci j)) := by
  unfold flC
  rw [List.getElem?_map, List.getElem?_range hj]
  rfl
theorem flC_len {ad : Nat → Nat} {M : Mem} {k ci : Nat} : (flC ad M k ci).length = nFC ci := by unfold flC; simp
theorem flC_set {ad : Nat → Nat} {M M' : Mem} {k ci j : Nat} {v : Value} (hj : j < nFC ci) (h1 : fV ad M' k j (tyC ci j) = v) (h2 : ∀ i, i ≠ j → mI M' k i = mI M k i ∧ mJ M' k i = mJ M k i ∧ mR M' k i = mR M k i) : flC ad M' k ci = (flC ad M k ci).set j v := by
  apply List.ext_getElem?
  intro i
  by_cases hi : i = j
  · subst hi
    rw [List.getElem?_set_self (by rw [flC_len]; exact hj), flC_at hj, h1]
  · rw [List.getElem?_set_ne (Ne.symm hi)]
    unfold flC
    rw [List.getElem?_map, List.getElem?_map]
    by_cases hl : i < nFC ci
    · rw [List.getElem?_range hl]
      show some (fV ad M' k i (tyC ci i)) = some (fV ad M k i (tyC ci i))
      rw [fV_cong (h2 i hi).1 (h2 i hi).2.1 (h2 i hi).2.2]
    · rw [List.getElem?_eq_none (by simpa using hl)]
      rfl
theorem ne_and {a k b j : Nat} (h : a ≠ k) : ¬ (a = k ∧ b = j) := fun q => h q.1
theorem ne_and2 {a k b j : Nat} (h : b ≠ j) : ¬ (a = k ∧ b = j) := fun q => h q.2
def kindT : FieldType → Nat
  | .long => 1
  | .object _ => 2
  | .array _ => 2
  | .int => 0
  | .boolean => 3
  | _ => 4
theorem fV_I {ad : Nat → Nat} {M : Mem} {k j : Nat} {ty : FieldType} (h : kindT ty = 0 ∨ kindT ty = 3) : fV ad M k j ty = .int (Int32.ofInt (mI M k j)) := by cases ty <;> first | rfl | (simp [kindT] at h)
theorem fV_J {ad : Nat → Nat} {M : Mem} {k j : Nat} {ty : FieldType} (h : kindT ty = 1) : fV ad M k j ty = .long (Int64.ofInt (mJ M k j)) := by cases ty <;> first | rfl | (simp [kindT] at h)
theorem fV_R {ad : Nat → Nat} {M : Mem} {k j : Nat} {ty : FieldType} (h : kindT ty = 2) : fV ad M k j ty = va_rf ((mR M k j).map ad) := by cases ty <;> first | rfl | (simp [kindT] at h)
/-- the pool's entry idx of the class own is the j-th field of the class ci -/
def FLk (own : String) (idx ci j : Nat) : Prop := ∃ (C : String) (T : u_T) (N : Nat), vwCl[ci]? = some (C, T, N) ∧ j < N ∧ (T j).1 = C ∧ Cond.fieldLink own idx C (T j).2.1 (T j).2.2.1 ∈ tblG
section VCH
variable {l : Launch} {D : MD} {pc pc' tgt : Nat} {L L' : List (Option AV)} {st : List AV} {M : Mem} {kc ks : Nat} {Q : Option AV → Mem → Prop}
theorem vc_getV {idx ci j k : Nat} {v : AV} (fl : FLk (mY D).cls idx ci j) (hs : M.1[k]? = some (.inl ci)) (hv : ∀ ad, fV ad M k j (tyC ci j) = aV ad v) (hok : okM M → okV M.1 v) (hd : At (mB D) pc (.getfield idx) 3 pc') (kk : VC l D pc' L (v :: st) M kc ks Q) : VC l D pc L (aR k :: st) M kc ks Q := by
  intro p e s m args below meth c dC dI dA ad0 n0 A ad H locs ls C hA h0 hn hst hL hW hS hl
  obtain ⟨hd, rfl⟩ := hd
  obtain ⟨hx, hst⟩ := okS_cons.mp hst
  obtain ⟨CC, T, N, q1, q2, q3, q4⟩ := fl
  obtain ⟨c1, c2, c3, c4⟩ := clsOk ci _ q1
  have hts := C.2.2.2.2.2.2.1
  refine va_get C.1 C.2.1 hts c1 C.2.2.2.2.2.1 C.2.2.2.2.2.2.2.1 hW.2.1 k (wld_at hs) q1 j q2 (hts _ q4) (fun x hx => by rw [q3] at hx; exact hx) (v := aV ad v) ?_ hd ?_
  · rw [flC_at (by rw [c3]; exact q2), hv ad]
  · exact kk p e s m args below meth c dC dI dA ad0 n0 A ad H locs ls C hA h0 hn (okS_cons.mpr ⟨hok hW.1, hst⟩) hL hW hS hl
theorem vc_getI {idx ci j k : Nat} (fl : FLk (mY D).cls idx ci j) (hs : M.1[k]? = some (.inl ci)) (ht : kindT (tyC ci j) = 0) (hd : At (mB D) pc (.getfield idx) 3 pc') (kk : VC l D pc' L (aI (mI M k j) :: st) M kc ks Q) : VC l D pc L (aR k :: st) M kc ks Q :=
  vc_getV (v := aI (mI M k j)) fl hs (fun _ => fV_I (Or.inl ht)) (fun h => (h k j).1) hd kk
theorem vc_getZ {idx ci j k : Nat} (fl : FLk (mY D).cls idx ci j) (hs : M.1[k]? = some (.inl ci)) (ht : kindT (tyC ci j) = 3) (hd : At (mB D) pc (.getfield idx) 3 pc') (kk : VC l D pc' L (aI (mI M k j) :: st) M kc ks Q) : VC l D pc L (aR k :: st) M kc ks Q :=
  vc_getV (v := aI (mI M k j)) fl hs (fun _ => fV_I (Or.inr ht)) (fun h => (h k j).1) hd kk
theorem vc_getJ {idx ci j k : Nat} (fl : FLk (mY D).cls idx ci j) (hs : M.1[k]? = some (.inl ci)) (ht : kindT (tyC ci j) = 1) (hd : At (mB D) pc (.getfield idx) 3 pc') (kk : VC l D pc' L (aL (mJ M k j) :: st) M kc ks Q) : VC l D pc L (aR k :: st) M kc ks Q :=
  vc_getV (v := aL (mJ M k j)) fl hs (fun _ => fV_J ht) (fun h => (h k j).2.1) hd kk
theorem vc_getRo {idx ci j k : Nat} (fl : FLk (mY D).cls idx ci j) (hs : M.1[k]? = some (.inl ci)) (ht : kindT (tyC ci j) = 2) (hd : At (mB D) pc (.getfield idx) 3 pc') (kk : VC l D pc' L (.inr (.inr (mR M k j)) :: st) M kc ks Q) : VC l D pc L (aR k :: st) M kc ks Q :=
  vc_getV (v := .inr (.inr (mR M k j))) fl hs (fun _ => fV_R ht) (fun h => by have h3 := (h k j).2.2; cases hr : mR M k j with | none => trivial | some r => exact h3 r hr) hd kk
theorem vc_getR {idx ci j k r : Nat} (fl : FLk (mY D).cls idx ci j) (hs : M.1[k]? = some (.inl ci)) (ht : kindT (tyC ci j) = 2) (hr : mR M k j = some r) (hd : At (mB D) pc (.getfield idx) 3 pc') (kk : VC l D pc' L (aR r :: st) M kc ks Q) : VC l D pc L (aR k :: st) M kc ks Q :=
  vc_getRo fl hs ht hd (by rw [hr]; exact kk)
/-- a write of a field, in any memory M' that differs there alone -/
theorem vc_putV {idx ci j k : Nat} {v : AV} {M' : Mem} {T : u_T} {N : Nat} {CC : String} (q1 : vwCl[ci]? = some (CC, T, N)) (q2 : j < N) (q3 : (T j).1 = CC) (q4 : Cond.fieldLink (mY D).cls idx CC (T j).2.1 (T j).2.2.1 ∈ tblG) (hfin : (T j).2.2.2 = false ∨ ((T j).2.2.2 = true ∧ (mY D).name = "<init>" ∧ CC = (mY D).cls)) (hs : M.1[k]? = some (.inl ci)) (hS1 : M'.1 = M.1)
    (hn2 : ∀ ad, narrow (tyC ci j) (aV ad v) = aV ad v) (hfit : ∀ ad, fits (tyC ci j) (aV ad v) = true) (h1 : ∀ a b, a ≠ k ∨ b ≠ j → mI M' a b = mI M a b ∧ mJ M' a b = mJ M a b ∧ mR M' a b = mR M a b) (hv : ∀ ad, fV ad M' k j (tyC ci j) = aV ad v) (hok : okM M → okV M.1 v → okM M') (hd : At (mB D) pc (.putfield idx) 3 pc') (kk : VC l D pc' L st M' kc ks Q) : VC l D pc L (v :: aR k :: st) M kc ks Q := by
  intro p e s m args below meth c dC dI dA ad0 n0 A ad H locs ls C hA h0 hn hst hL hW hS hl
  obtain ⟨hd, rfl⟩ := hd
  obtain ⟨hv2, hst⟩ := okS_cons.mp hst
  obtain ⟨hx, hst⟩ := okS_cons.mp hst
  obtain ⟨c1, c2, c3, c4⟩ := clsOk ci _ q1
  have hts := C.2.2.2.2.2.2.1
  have ew : wld dA ad M' = (wld dA ad M).set k (ad k, .inr (ci, (flC ad M k ci).set j (aV ad v))) := by
    refine wld_upd hS1 hs (fun i b h => (h1 i b (Or.inl h)).1) (fun i b h => (h1 i b (Or.inl h)).2.1) (fun i b h => (h1 i b (Or.inl h)).2.2) ?_
    show Sum.inr (ci, flC ad M' k ci) = _
    rw [flC_set (M := M) (by rw [c3]; exact q2) (hv ad) (fun i h => h1 k i (Or.inr h))]
  have k2 : ∀ (H1 : Heap) (locs1 : List Loc), va_P (dC, dI) vwCl ((wld dA ad M).set k (ad k, .inr (ci, (flC ad M k ci).set j (aV ad v)))) H1 → va_D A ((wld dA ad M).set k (ad k, .inr (ci, (flC ad M k ci).set j (aV ad v)))) → va_S A s.heap H1 locs1 → W p l e (rmD D) s m args below meth c H1 locs1 kc ks (MQ below (QcA dC dI dA ad0 n0 A Q) args s (mC D) (mS D) A) (F0 m (pc + 3) ls (st.map (aV ad))) := by
    intro H1 locs1 hP1 hD1 hS2
    rw [← ew] at hP1 hD1
    exact kk p e s m args below meth c dC dI dA ad0 n0 A ad H1 locs1 ls C hA h0 (by rw [hS1]; exact hn) (by rw [hS1]; exact hst) (by rw [hS1]; exact hL) ⟨hok hW.1 hv2, hP1, hD1⟩ hS2 hl
  rcases hfin with hf | ⟨hf, hi, ho⟩
  · exact va_put C.1 C.2.1 hts c1 (tyC ci) c2 c4 C.2.2.2.2.2.1 C.2.2.2.2.2.2.2.1 hW.2.1 hW.2.2 hS k (wld_at hs) q1 j q2 (hts _ q4) (fun x hx => by rw [q3] at hx; exact hx) hf (c2 j q2) (hn2 ad) (hfit ad) (by rw [flC_len, c3]; exact q2) hd k2
  · exact va_putF C.1 C.2.1 hts c1 (tyC ci) c2 c4 C.2.2.2.2.2.1 C.2.2.2.2.2.2.2.1 hW.2.1 hW.2.2 hS k (wld_at hs) q1 j q2 (hts _ q4) (fun x hx => by rw [q3] at hx; exact hx) hf (C.2.2.2.2.2.2.2.2.1.trans hi) (q3.trans ho) (c2 j q2) (hn2 ad) (hfit ad) (by rw [flC_len, c3]; exact q2) hd k2
/-- as FLk, for writes: not final, or written by the class's own constructor -/
def PLk (D : MD) (idx ci j : Nat) : Prop := ∃ (C : String) (T : u_T) (N : Nat), vwCl[ci]? = some (C, T, N) ∧ j < N ∧ (T j).1 = C ∧ Cond.fieldLink (mY D).cls idx C (T j).2.1 (T j).2.2.1 ∈ tblG ∧ ((T j).2.2.2 = false ∨ ((T j).2.2.2 = true ∧ (mY D).name = "<init>" ∧ C = (mY D).cls))
theorem ty0 {t : FieldType} (h : kindT t = 0) : t = .int := by cases t <;> first | rfl | (simp [kindT] at h)
theorem ty1 {t : FieldType} (h : kindT t = 1) : t = .long := by cases t <;> first | rfl | (simp [kindT] at h)
theorem ty3 {t : FieldType} (h : kindT t = 3) : t = .boolean := by cases t <;> first | rfl | (simp [kindT] at h)
theorem vc_putI {idx ci j k : Nat} {x : Int} (fl : PLk D idx ci j) (hs : M.1[k]? = some (.inl ci)) (ht : kindT (tyC ci j) = 0) (hd : At (mB D) pc (.putfield idx) 3 pc') (kk : VC l D pc' L st (sI M k j x) kc ks Q) : VC l D pc L (aI x :: aR k :: st) M kc ks Q := by
  obtain ⟨C, T, N, q1, q2, q3, q4, q5⟩ := fl
  refine vc_putV (M' := (sI M k j x)) q1 q2 q3 q4 q5 hs rfl (fun ad => by rw [ty0 ht]; rfl) (fun ad => by rw [ty0 ht]; rfl) (fun a b h => ⟨?_, rfl, rfl⟩) (fun ad => ?_) (fun h1 h2 => okM_sI h1 h2) hd kk
  · rw [mI_sI, if_neg]
    rcases h with h | h
    · exact ne_and h
    · exact ne_and2 h
  · rw [fV_I (Or.inl ht), mI_sI, if_pos ⟨rfl, rfl⟩]; rfl
theorem vc_putZ {idx ci j k : Nat} {x : Int} (fl : PLk D idx ci j) (hs : M.1[k]? = some (.inl ci)) (ht : kindT (tyC ci j) = 3) (hb : x = 0 ∨ x = 1) (hd : At (mB D) pc (.putfield idx) 3 pc') (kk : VC l D pc' L st (sI M k j x) kc ks Q) : VC l D pc L (aI x :: aR k :: st) M kc ks Q := by
  obtain ⟨C, T, N, q1, q2, q3, q4, q5⟩ := fl
  refine vc_putV (M' := (sI M k j x)) q1 q2 q3 q4 q5 hs rfl (fun ad => by rw [ty3 ht]; rcases hb with rfl | rfl <;> rfl) (fun ad => by rw [ty3 ht]; rcases hb with rfl | rfl <;> rfl) (fun a b h => ⟨?_, rfl, rfl⟩) (fun ad => ?_) (fun h1 h2 => okM_sI h1 h2) hd kk
  · rw [mI_sI, if_neg]
    rcases h with h | h
    · exact ne_and h
    · exact ne_and2 h
  · rw [fV_I (Or.inr ht), mI_sI, if_pos ⟨rfl, rfl⟩]; rfl
theorem vc_putJ {idx ci j k : Nat} {x : Int} (fl : PLk D idx ci j) (hs : M.1[k]? = some (.inl ci)) (ht : kindT (tyC ci j) = 1) (hd : At (mB D) pc (.putfield idx) 3 pc') (kk : VC l D pc' L st (sJ M k j x) kc ks Q) : VC l D pc L (aL x :: aR k :: st) M kc ks Q := by
  obtain ⟨C, T, N, q1, q2, q3, q4, q5⟩ := fl
  refine vc_putV (M' := (sJ M k j x)) q1 q2 q3 q4 q5 hs rfl (fun ad => by rw [ty1 ht]; rfl) (fun ad => by rw [ty1 ht]; rfl) (fun a b h => ⟨rfl, ?_, rfl⟩) (fun ad => ?_) (fun h1 h2 => okM_sJ h1 h2) hd kk
  · rw [mJ_sJ, if_neg]
    rcases h with h | h
    · exact ne_and h
    · exact ne_and2 h
  · rw [fV_J ht, mJ_sJ, if_pos ⟨rfl, rfl⟩]; rfl
theorem vc_putR {idx ci j k r : Nat} (fl : PLk D idx ci j) (hs : M.1[k]? = some (.inl ci)) (ht : kindT (tyC ci j) = 2) (hd : At (mB D) pc (.putfield idx) 3 pc') (kk : VC l D pc' L st (sR M k j (some r)) kc ks Q) : VC l D pc L (aR r :: aR k :: st) M kc ks Q := by
  obtain ⟨C, T, N, q1, q2, q3, q4, q5⟩ := fl
  refine vc_putV (M' := (sR M k j (some r))) q1 q2 q3 q4 q5 hs rfl (fun ad => ?_) (fun ad => ?_) (fun a b h => ⟨rfl, rfl, ?_⟩) (fun ad => ?_) (fun h1 h2 => okM_sR h1 (fun r2 e => by cases e; exact h2)) hd kk
  · cases hh : tyC ci j <;> first | rfl | (rw [hh] at ht; simp [kindT] at ht)
  · cases hh : tyC ci j <;> first | rfl | (rw [hh] at ht; simp [kindT] at ht)
  · rw [mR_sR, if_neg]
    rcases h with h | h
    · exact ne_and h
    · exact ne_and2 h
  · rw [fV_R ht, mR_sR, if_pos ⟨rfl, rfl⟩]; rfl
theorem oI_nat {x : Int} (h : inI x) (h0 : 0 ≤ x) : (Int32.ofInt x).toNatClampNeg = x.toNat := by
  show (Int32.ofInt x).toInt.toNat = x.toNat
  rw [oI_id h]
theorem oI_in {x : Int} {n : Nat} (h : inI x) (h0 : 0 ≤ x) (h1 : x < n) : vp_in (Int32.ofInt x) n := by
  rw [vp_in_iff, oI_id h]
  exact ⟨h0, h1⟩
theorem vc_iaload {k n : Nat} {i : Int} (hs : M.1[k]? = some (.inr (0, n))) (h0 : 0 ≤ i) (h1 : i < n) (hd : At (mB D) pc .iaload 1 pc') (kk : VC l D pc' L (aI (mI M k i.toNat) :: st) M kc ks Q) : VC l D pc L (aI i :: aR k :: st) M kc ks Q := by
  intro p e s m args below meth c dC dI dA ad0 n0 A ad H locs ls C hA h0' hn hst hL hW hS hl
  obtain ⟨hd, rfl⟩ := hd
  obtain ⟨hi, hst⟩ := okS_cons.mp hst
  obtain ⟨hx, hst⟩ := okS_cons.mp hst
  refine va_iald C.1 C.2.1 C.2.2.2.2.2.2.2.1 hW.2.1 k 0 (wld_at hs) rfl (oI_in hi h0 h1) hd ?_
  rw [oI_nat hi h0]
  exact kk p e s m args below meth c dC dI dA ad0 n0 A ad H locs ls C hA h0' hn (okS_cons.mpr ⟨(hW.1 k i.toNat).1, hst⟩) hL hW hS hl
theorem vc_laload {k n : Nat} {i : Int} (hs : M.1[k]? = some (.inr (1, n))) (h0 : 0 ≤ i) (h1 : i < n) (hd : At (mB D) pc .laload 1 pc') (kk : VC l D pc' L (aL (mJ M k i.toNat) :: st) M kc ks Q) : VC l D pc L (aI i :: aR k :: st) M kc ks Q := by
  intro p e s m args below meth c dC dI dA ad0 n0 A ad H locs ls C hA h0' hn hst hL hW hS hl
  obtain ⟨hd, rfl⟩ := hd
  obtain ⟨hi, hst⟩ := okS_cons.mp hst
  obtain ⟨hx, hst⟩ := okS_cons.mp hst
  refine va_lald C.1 C.2.1 C.2.2.2.2.2.2.2.1 hW.2.1 k 1 (wld_at hs) rfl (oI_in hi h0 h1) hd ?_
  rw [oI_nat hi h0]
  exact kk p e s m args below meth c dC dI dA ad0 n0 A ad H locs ls C hA h0' hn (okS_cons.mpr ⟨(hW.1 k i.toNat).2.1, hst⟩) hL hW hS hl
theorem vc_baload {k n : Nat} {i : Int} (hs : M.1[k]? = some (.inr (2, n))) (h0 : 0 ≤ i) (h1 : i < n) (hd : At (mB D) pc .baload 1 pc') (kk : VC l D pc' L (aI (mI M k i.toNat) :: st) M kc ks Q) : VC l D pc L (aI i :: aR k :: st) M kc ks Q := by
  intro p e s m args below meth c dC dI dA ad0 n0 A ad H locs ls C hA h0' hn hst hL hW hS hl
  obtain ⟨hd, rfl⟩ := hd
  obtain ⟨hi, hst⟩ := okS_cons.mp hst
  obtain ⟨hx, hst⟩ := okS_cons.mp hst
  refine va_zald C.1 C.2.1 C.2.2.2.2.2.2.2.1 hW.2.1 k 2 (wld_at hs) rfl (oI_in hi h0 h1) hd ?_
  rw [oI_nat hi h0]
  exact kk p e s m args below meth c dC dI dA ad0 n0 A ad H locs ls C hA h0' hn (okS_cons.mpr ⟨(hW.1 k i.toNat).1, hst⟩) hL hW hS hl
theorem vc_aaload {k n : Nat} {i : Int} (hs : M.1[k]? = some (.inr (3, n))) (h0 : 0 ≤ i) (h1 : i < n) (hd : At (mB D) pc .aaload 1 pc') (kk : VC l D pc' L (.inr (.inr (mR M k i.toNat)) :: st) M kc ks Q) : VC l D pc L (aI i :: aR k :: st) M kc ks Q := by
  intro p e s m args below meth c dC dI dA ad0 n0 A ad H locs ls C hA h0' hn hst hL hW hS hl
  obtain ⟨hd, rfl⟩ := hd
  obtain ⟨hi, hst⟩ := okS_cons.mp hst
  obtain ⟨hx, hst⟩ := okS_cons.mp hst
  refine va_aldq C.1 C.2.1 C.2.2.2.2.2.2.2.1 hW.2.1 k 3 (wld_at hs) rfl (oI_in hi h0 h1) hd ?_
  rw [oI_nat hi h0]
  refine kk p e s m args below meth c dC dI dA ad0 n0 A ad H locs ls C hA h0' hn (okS_cons.mpr ⟨?_, hst⟩) hL hW hS hl
  have h3 := (hW.1 k i.toNat).2.2
  cases hr : mR M k i.toNat with
  | none => trivial
  | some r => exact h3 r hr
theorem upd_oI (M : Mem) (k : Nat) (i : Nat) (x : Int) : (fun j => Int32.ofInt (mI (sI M k i x) k j)) = upd (fun j => Int32.ofInt (mI M k j)) i (Int32.ofInt x) := by
  funext j
  unfold upd
  rw [mI_sI]
  by_cases h : j = i
  · rw [if_pos ⟨rfl, h⟩, if_pos h]
  · rw [if_neg (ne_and2 h), if_neg h]
theorem upd_oJ (M : Mem) (k : Nat) (i : Nat) (x : Int) : (fun j => Int64.ofInt (mJ (sJ M k i x) k j)) = vp_updL (fun j => Int64.ofInt (mJ M k j)) i (Int64.ofInt x) := by
  funext j
  unfold vp_updL
  rw [mJ_sJ]
  by_cases h : j = i
  · rw [if_pos ⟨rfl, h⟩, if_pos h]
  · rw [if_neg (ne_and2 h), if_neg h]
theorem upd_oR (ad : Nat → Nat) (M : Mem) (k : Nat) (i : Nat) (x : Option Nat) : (fun j => (mR (sR M k i x) k j).map ad) = va_up (fun j => (mR M k j).map ad) i (x.map ad) := by
  funext j
  unfold va_up
  rw [mR_sR]
  by_cases h : j = i
  · rw [if_pos ⟨rfl, h⟩, if_pos h]
  · rw [if_neg (ne_and2 h), if_neg h]
theorem vc_iastore {k n : Nat} {i x : Int} (hs : M.1[k]? = some (.inr (0, n))) (h0 : 0 ≤ i) (h1 : i < n) (hd : At (mB D) pc .iastore 1 pc') (kk : VC l D pc' L st (sI M k i.toNat x) kc ks Q) : VC l D pc L (aI x :: aI i :: aR k :: st) M kc ks Q := by
  intro p e s m args below meth c dC dI dA ad0 n0 A ad H locs ls C hA h0' hn hst hL hW hS hl
  obtain ⟨hd, rfl⟩ := hd
  obtain ⟨hx, hst⟩ := okS_cons.mp hst
  obtain ⟨hi, hst⟩ := okS_cons.mp hst
  obtain ⟨_, hst⟩ := okS_cons.mp hst
  refine va_iast C.1 C.2.1 C.2.2.2.2.2.2.2.1 hW.2.1 hW.2.2 hS k 0 (wld_at hs) rfl (oI_in hi h0 h1) hd ?_
  rw [oI_nat hi h0, ← upd_oI]
  intro H1 locs1 hP1 hD1 hS1
  have ew : wld dA ad (sI M k i.toNat x) = (wld dA ad M).set k (ad k, .inl (dA 0, n, .inl (fun j => Int32.ofInt (mI (sI M k i.toNat x) k j)))) := wld_upd rfl hs (fun a b h => by rw [mI_sI, if_neg (ne_and h)]) (fun _ _ _ => rfl) (fun _ _ _ => rfl) rfl
  rw [← ew] at hP1 hD1
  exact kk p e s m args below meth c dC dI dA ad0 n0 A ad H1 locs1 ls C hA h0' hn hst hL ⟨okM_sI hW.1 hx, hP1, hD1⟩ hS1 hl
theorem vc_bastore {k n : Nat} {i x : Int} (hs : M.1[k]? = some (.inr (2, n))) (h0 : 0 ≤ i) (h1 : i < n) (hb : x = 0 ∨ x = 1) (hd : At (mB D) pc .bastore 1 pc') (kk : VC l D pc' L st (sI M k i.toNat x) kc ks Q) : VC l D pc L (aI x :: aI i :: aR k :: st) M kc ks Q := by
  intro p e s m args below meth c dC dI dA ad0 n0 A ad H locs ls C hA h0' hn hst hL hW hS hl
  obtain ⟨hd, rfl⟩ := hd
  obtain ⟨hx, hst⟩ := okS_cons.mp hst
  obtain ⟨hi, hst⟩ := okS_cons.mp hst
  obtain ⟨_, hst⟩ := okS_cons.mp hst
  refine va_zast C.1 C.2.1 C.2.2.2.2.2.2.2.1 hW.2.1 hW.2.2 hS k 2 (wld_at hs) rfl (oI_in hi h0 h1) hd ?_
  have en : vp_nar .boolean (Int32.ofInt x) = Int32.ofInt x := by rcases hb with rfl | rfl <;> rfl
  rw [en, oI_nat hi h0, ← upd_oI]
  intro H1 locs1 hP1 hD1 hS1
  have ew : wld dA ad (sI M k i.toNat x) = (wld dA ad M).set k (ad k, .inl (dA 2, n, .inl (fun j => Int32.ofInt (mI (sI M k i.toNat x) k j)))) := wld_upd rfl hs (fun a b h => by rw [mI_sI, if_neg (ne_and h)]) (fun _ _ _ => rfl) (fun _ _ _ => rfl) rfl
  rw [← ew] at hP1 hD1
  exact kk p e s m args below meth c dC dI dA ad0 n0 A ad H1 locs1 ls C hA h0' hn hst hL ⟨okM_sI hW.1 hx, hP1, hD1⟩ hS1 hl
theorem vc_lastore {k n : Nat} {i x : Int} (hs : M.1[k]? = some (.inr (1, n))) (h0 : 0 ≤ i) (h1 : i < n) (hd : At (mB D) pc .lastore 1 pc') (kk : VC l D pc' L st (sJ M k i.toNat x) kc ks Q) : VC l D pc L (aL x :: aI i :: aR k :: st) M kc ks Q := by
  intro p e s m args below meth c dC dI dA ad0 n0 A ad H locs ls C hA h0' hn hst hL hW hS hl
  obtain ⟨hd, rfl⟩ := hd
  obtain ⟨hx, hst⟩ := okS_cons.mp hst
  obtain ⟨hi, hst⟩ := okS_cons.mp hst
  obtain ⟨_, hst⟩ := okS_cons.mp hst
  refine va_last C.1 C.2.1 C.2.2.2.2.2.2.2.1 hW.2.1 hW.2.2 hS k 1 (wld_at hs) rfl (oI_in hi h0 h1) hd ?_
  rw [oI_nat hi h0, ← upd_oJ]
  intro H1 locs1 hP1 hD1 hS1
  have ew : wld dA ad (sJ M k i.toNat x) = (wld dA ad M).set k (ad k, .inl (dA 1, n, .inr (.inl (fun j => Int64.ofInt (mJ (sJ M k i.toNat x) k j))))) := wld_upd rfl hs (fun _ _ _ => rfl) (fun a b h => by rw [mJ_sJ, if_neg (ne_and h)]) (fun _ _ _ => rfl) rfl
  rw [← ew] at hP1 hD1
  exact kk p e s m args below meth c dC dI dA ad0 n0 A ad H1 locs1 ls C hA h0' hn hst hL ⟨okM_sJ hW.1 hx, hP1, hD1⟩ hS1 hl
theorem vc_alen {k t n : Nat} (hs : M.1[k]? = some (.inr (t, n))) (ht : (decide (t < 4) && decide (n < 2147483648)) = true) (hd : At (mB D) pc .arraylength 1 pc') (kk : VC l D pc' L (aI (n : Int) :: st) M kc ks Q) : VC l D pc L (aR k :: st) M kc ks Q := by
  intro p e s m args below meth c dC dI dA ad0 n0 A ad H locs ls C hA h0' hn hst hL hW hS hl
  obtain ⟨hd, rfl⟩ := hd
  obtain ⟨_, hst⟩ := okS_cons.mp hst
  simp only [Bool.and_eq_true, decide_eq_true_eq] at ht
  refine va_alen C.1 C.2.1 C.2.2.2.2.2.2.2.1 hW.2.1 k t (wld_at hs) (ty := tyA t) ?_ rfl hd ?_
  · match t, ht.1 with
    | 0, _ => rfl
    | 1, _ => rfl
    | 2, _ => rfl
    | 3, _ => rfl
    | t + 4, h => exact absurd h (by omega)
  · exact kk p e s m args below meth c dC dI dA ad0 n0 A ad H locs ls C hA h0' hn (okS_cons.mpr ⟨(⟨by omega, by omega⟩ : inI (n : Int)), hst⟩) hL hW hS hl
end VCH
end
section
/-! CALLS: by the callee's Call. -/
/-- what every call of D needs of the tables -/
def MOk (D : MD) (n : Nat) : Prop := Cond.code (mY D) (mB D) (mN D) (mT D) ∈ tblG ∧ Cond.initialized (mY D).cls ∈ tblG ∧ ((mY D).cls ≠ "java/lang/invoke/MethodHandle" ∧ (mY D).cls ≠ "java/lang/invoke/VarHandle" ∧ (parseMethodDescriptor (mY D).desc).map (fun d => d.parameters.length) = some n) ∧ mN D ≤ 45
def MVi (D : MD) : Prop := Cond.instanceMethod (mY D) ∈ tblG ∧ Cond.selects (mY D).cls (mY D) (mY D) ∈ tblG
def MSt (D : MD) : Prop := Cond.static (mY D) ∈ tblG
def LkM (own : String) (idx : Nat) (D : MD) : Prop := Cond.methodLink own idx (mY D) ∈ tblG
theorem wsD_good {D : MD} {n : Nat} (h : MOk D n) : GoodIn tblG (wsD D) := by
  intro w hw
  rcases List.mem_cons.mp hw with rfl | hw
  · exact ⟨h.1, tblG_good h.1⟩
  · exact ⟨hw, tblG_good hw⟩
theorem PcA_blind {dC : Nat → ClassId} {dI : Nat → Nat → Nat} {dA : Nat → ClassId} {ad : Nat → Nat} {sz : Nat} {as : List AV} {M : Mem} : FrameBlind (PcA dC dI dA ad sz as M) := by
  intro a U g mk q
  obtain ⟨q0, q1, q2, qK, qE⟩ := q
  exact ⟨q0, q1, q2, va_K.moved (u := U) (U := U.calling g mk a) (Vm.Alike.refl U.vm) qK, Ext.same (u := U) (U := U.calling g mk a) rfl qE⟩
theorem rmD_room {D D' : MD} (h : mV D' < mV D) (h2 : mN D' ≤ 45) : (rmD D').frames + 1 ≤ (rmD D).frames ∧ 8 + (mN D' + 11) + (rmD D').locals ≤ (rmD D).locals := by
  unfold rmD
  constructor
  · show mV D' + 1 + 1 ≤ mV D + 1
    omega
  · show 8 + (mN D' + 11) + (64 * mV D' + 64) ≤ 64 * mV D + 64
    omega
section VCC
variable {l : Launch} {D : MD} {pc pc' tgt : Nat} {L L' : List (Option AV)} {st : List AV} {M : Mem} {kc ks : Nat} {Q : Option AV → Mem → Prop}
variable {D' : MD} {as : List AV} {Q' : Option AV → Mem → Prop}
theorem vc_after {st0 : List Value} {arr : Array Value} {p : Program} {e : Env} {s : State} {m : MethodId} {args : Array Value} {below : List Frame} {meth : Method} {c : Code} {dC : Nat → ClassId} {dI : Nat → Nat → Nat} {dA : Nat → ClassId} {ad0 : Nat → Nat} {n0 : Nat} {A : Nat → Prop} {ad : Nat → Nat} {H : Heap} {locs : List Loc} {ls : Array Slot}
    (C : Cx D p s m args meth c dC dI dA A) (hA : ∀ q, s.heap.size ≤ q → A q) (h0 : ∀ k, k < n0 → ad k = ad0 k) (hn : n0 ≤ M.1.length) (hst : okS M.1 st) (hL : okL M.1 L) (hW : Wd dC dI dA ad A M H) (hS : va_S A s.heap H locs) (hl : lv_has ls (mN D) (lvL ad L))
    (hrun : va_Run p l e (rmD D) s m args below meth c H locs kc ks (mC D') (mS D') (F0 m pc ls st0) (st.map (aV ad)) (QcA dC dI dA ad M.1.length (va_A (wld dA ad M) H.size) Q' arr) (va_A (wld dA ad M) H.size))
    (kk : ∀ r M', Q' r M' → M.1.length ≤ M'.1.length → VC l D (pc + 3) L (r.toList ++ st) M' (kc + mC D') (ks + mS D') Q) :
    W p l e (rmD D) s m args below meth c H locs kc ks (MQ below (QcA dC dI dA ad0 n0 A Q) args s (mC D) (mS D) A) (F0 m pc ls st0) := by
  intro T hT X
  obtain ⟨v, st₀, t, T', L2, e0, X', hLf, e1, e2, ⟨r, M', ad', ho, hq, hok, had, hlen, hWd, hK, hF⟩, go⟩ := hrun T hT X
  have hA1 : ∀ q, va_A (wld dA ad M) H.size q → A q := by
    intro q hq
    rcases hq with ⟨k, e, hk⟩ | hk
    · exact hW.2.2.2 k _ hk
    · exact hA q (Nat.le_trans hS.1 hk)
  obtain ⟨hz, hkp⟩ := hF
  rw [e0] at hz hkp
  have hS' : va_S A s.heap T'.heap (locs ++ L2) := by
    refine ⟨Nat.le_trans hS.1 (by rw [e1]; exact hz), fun q a1 a2 => ?_, fun q hq2 => ?_⟩
    · rw [e1, hkp q (Nat.lt_of_lt_of_le a1 hS.1) (fun z => a2 (hA1 q z))]
      exact hS.2.1 q a1 a2
    · rcases List.mem_append.mp hq2 with h | h
      · exact hS.2.2 q h
      · exact hA1 _ (hLf q h)
  cases ho
  have k2 := kk r M' hq hlen p e s m args below meth c dC dI dA ad0 n0 A ad' T'.heap (locs ++ L2) ls C hA (fun k hk => (had k (Nat.lt_of_lt_of_le hk hn)).trans (h0 k hk)) (Nat.le_trans hn hlen) ?_ ?_ ⟨hWd.1, by rw [e1]; exact hWd.2.1, hWd.2.2.weaken (fun _ q _ h => hA1 q.1 h)⟩ hS' (lvL_ext hL had hl)
  · obtain ⟨t2, a1, b1⟩ := k2 T' rfl X'
    refine ⟨t2, go t2 ?_, b1⟩
    have es : (r.toList ++ st).map (aV ad') = (r.map (aV ad')).toList ++ st.map (aV ad) := by
      rw [List.map_append, stk_ext hst had]
      cases r <;> rfl
    rw [es] at a1
    exact a1
  · intro v hv
    rcases List.mem_append.mp hv with h | h
    · cases r with
      | none => cases h
      | some w => rcases List.mem_cons.mp h with rfl | h; exact hok; cases h
    · have := hst v h
      rcases v with x | x | q
      · exact this
      · exact this
      · cases q with
        | none => trivial
        | some k => exact Nat.lt_of_lt_of_le this hlen
  · intro i v hv
    have := hL i v hv
    rcases v with x | x | q
    · exact this
    · exact this
    · cases q with
      | none => trivial
      | some k => exact Nat.lt_of_lt_of_le this hlen
theorem ext_call {p : Program} {s : State} {m : MethodId} {args : Array Value} {meth : Method} {c : Code} {dC : Nat → ClassId} {dI : Nat → Nat → Nat} {dA : Nat → ClassId} {A : Nat → Prop} {ad : Nat → Nat} {H : Heap} {locs : List Loc} {U : State}
    (C : Cx D p s m args meth c dC dI dA A) (hA : ∀ q, s.heap.size ≤ q → A q) (hW : Wd dC dI dA ad A M H) (hS : va_S A s.heap H locs) (hU : U.heap = H) (hWm : s.WarmedH U.vm) : Ext (va_A (wld dA ad M) H.size) U U.heap := by
  have hA1 : ∀ q, va_A (wld dA ad M) H.size q → A q := by
    intro q hq
    rcases hq with ⟨k, e, hk⟩ | hk
    · exact hW.2.2.2 k _ hk
    · exact hA q (Nat.le_trans hS.1 hk)
  rw [hU]
  exact ((C.2.2.2.2.2.2.2.2.2.kept hS.2.1).narrow hA1).warm hWm
theorem cat_sum (ad : Nat → Nat) (st : List AV) : ((st.map (aV ad)).map fun v => v.category).sum = (st.map catA).sum := by
  rw [List.map_map]
  exact congrArg List.sum (List.map_congr_left fun v _ => aV_cat ad v)
theorem okS_rev {S : List Sh} {as st : List AV} (h : okS S (as.reverse ++ st)) : okS S as ∧ okS S st := ⟨fun v hv => h v (List.mem_append_left _ (List.mem_reverse.mpr hv)), fun v hv => h v (List.mem_append_right _ hv)⟩
theorem vc_callV {idx k ci n : Nat} {T : u_T} {N : Nat} (hm : MOk D' n) (hv : MVi D') (hlk : LkM (mY D).cls idx D') (hs : M.1[k]? = some (.inl ci)) (hci : vwCl[ci]? = some ((mY D').cls, T, N)) (hlen : as.length = n) (hlev : mV D' < mV D) (hc1 : kc + mC D' ≤ mC D) (hc2 : ks + mS D' ≤ mS D) (hsum : (st.map catA).sum ≤ 8) (stk : List AV) (hstk : as.reverse ++ aR k :: st = stk) (hd : At (mB D) pc (.invokevirtual idx) 3 pc') (hcall : Call l D' (aR k :: as) M Q')
    (kk : ∀ r M', Q' r M' → M.1.length ≤ M'.1.length → VC l D pc' L (r.toList ++ st) M' (kc + mC D') (ks + mS D') Q) : VC l D pc L stk M kc ks Q := by
  subst hstk
  intro p e s m args below meth c dC dI dA ad0 n0 A ad H locs ls C hA h0 hn hst hL hW hS hl
  obtain ⟨hd, rfl⟩ := hd
  obtain ⟨hst1, hst2⟩ := okS_rev hst
  obtain ⟨hr, hst⟩ := okS_cons.mp hst2
  have hts := C.2.2.2.2.2.2.1
  have hM := hcall dC dI dA ad H.size (okS_cons.mpr ⟨hr, hst1⟩)
  have hcb : CallB (rmD D) s args (mY D).cls idx (mY D') (mB D') (mN D') (mT D') (wsD D') (rmD D') (mC D') (mS D') n := callB_of n hts (wsD_good hm) rfl rfl rfl (hts _ hm.2.1) (hts _ hlk) hm.2.2.1 (rmD_room hlev hm.2.2.2)
  refine vc_after (D' := D') (st0 := (as.reverse ++ aR k :: st).map (aV ad)) (arr := ((aR k :: as).map (aV ad)).toArray) C hA h0 hn hst hL hW hS hl (va_runV (C := (mY D').cls) (b := ad k) (As := as.map (aV ad)) (rest := st.map (aV ad)) ⟨C.1, C.2.1, C.2.2.2.2.1, C.2.2.2.2.2.1, hts⟩ hM ⟨hcb, hts _ hv.1, hts _ hv.2⟩ ⟨PcA_blind, va_recv C.2.2.2.2.2.2.2.1 hW.2.1 hci (wld_at hs), fun U hU hWm => ⟨rfl, by rw [hU], ⟨hW.1, by rw [hU]; exact hW.2.1, hW.2.2.weaken (fun _ _ _ _ => trivial)⟩, va_K.moved hWm.alike C.2.2.2.2.2.2.2.1, ext_call C hA hW hS hU hWm⟩⟩ rfl (by simpa using hlen) hl.1 (by simp [aV, va_rf]) (lv_room (by rw [cat_sum]; exact hsum)) hd ⟨hc1, hc2⟩) kk
theorem vc_callS {idx n : Nat} (hm : MOk D' n) (hv : MSt D') (hlk : LkM (mY D).cls idx D') (hlen : as.length = n) (hlev : mV D' < mV D) (hc1 : kc + mC D' ≤ mC D) (hc2 : ks + mS D' ≤ mS D) (hsum : (st.map catA).sum ≤ 8) (stk : List AV) (hstk : as.reverse ++ st = stk) (hd : At (mB D) pc (.invokestatic idx) 3 pc') (hcall : Call l D' as M Q')
    (kk : ∀ r M', Q' r M' → M.1.length ≤ M'.1.length → VC l D pc' L (r.toList ++ st) M' (kc + mC D') (ks + mS D') Q) : VC l D pc L stk M kc ks Q := by
  subst hstk
  intro p e s m args below meth c dC dI dA ad0 n0 A ad H locs ls C hA h0 hn hst hL hW hS hl
  obtain ⟨hd, rfl⟩ := hd
  obtain ⟨hst1, hst⟩ := okS_rev hst
  have hts := C.2.2.2.2.2.2.1
  have hM := hcall dC dI dA ad H.size hst1
  have hcb : CallB (rmD D) s args (mY D).cls idx (mY D') (mB D') (mN D') (mT D') (wsD D') (rmD D') (mC D') (mS D') n := callB_of n hts (wsD_good hm) rfl rfl rfl (hts _ hm.2.1) (hts _ hlk) hm.2.2.1 (rmD_room hlev hm.2.2.2)
  refine vc_after (D' := D') (st0 := (as.reverse ++ st).map (aV ad)) (arr := (as.map (aV ad)).toArray) C hA h0 hn hst hL hW hS hl (va_runS (As := as.map (aV ad)) (rest := st.map (aV ad)) ⟨C.1, C.2.1, C.2.2.2.2.1, C.2.2.2.2.2.1, hts⟩ hM ⟨hcb, hts _ hv⟩ ⟨PcA_blind, fun U hU hWm => ⟨rfl, by rw [hU], ⟨hW.1, by rw [hU]; exact hW.2.1, hW.2.2.weaken (fun _ _ _ _ => trivial)⟩, va_K.moved hWm.alike C.2.2.2.2.2.2.2.1, ext_call C hA hW hS hU hWm⟩⟩ rfl (by simpa using hlen) hl.1 (by simp) (lv_room (by rw [cat_sum]; exact hsum)) hd ⟨hc1, hc2⟩) kk
/-- a private static method of a nest mate -/
theorem vc_callSN {idx n : Nat} {host : String} (hm : MOk D' n) (hv : MSt D') (hlk : ∀ (A : Nat → Prop) (U : State) (H : Heap), Ext A U H → va_Nw (.methodLinkNest (mY D).cls idx (mY D') host) U) (hlen : as.length = n) (hlev : mV D' < mV D) (hc1 : kc + mC D' ≤ mC D) (hc2 : ks + mS D' ≤ mS D) (hsum : (st.map catA).sum ≤ 8) (stk : List AV) (hstk : as.reverse ++ st = stk) (hd : At (mB D) pc (.invokestatic idx) 3 pc') (hcall : Call l D' as M Q')
    (kk : ∀ r M', Q' r M' → M.1.length ≤ M'.1.length → VC l D pc' L (r.toList ++ st) M' (kc + mC D') (ks + mS D') Q) : VC l D pc L stk M kc ks Q := by
  subst hstk
  intro p e s m args below meth c dC dI dA ad0 n0 A ad H locs ls C hA h0 hn hst hL hW hS hl
  obtain ⟨hd, rfl⟩ := hd
  obtain ⟨hst1, hst⟩ := okS_rev hst
  have hts := C.2.2.2.2.2.2.1
  have hM := hcall dC dI dA ad H.size hst1
  have hr := rmD_room hlev hm.2.2.2
  have hcn : va_CN (rmD D) s args (mY D).cls idx (mY D') host (mB D') (mN D') (mT D') (wsD D') (rmD D') (mC D') (mS D') n := by
    refine ⟨⟨rfl, rfl, hr.1, hr.2, pay_in hts (wsD_good hm), List.mem_cons_self⟩, hts _ hm.1, hts _ hm.2.1, ⟨hm.2.2.1.1, hm.2.2.1.2.1⟩, fun sig h => ?_, va_Nw.use rfl (hlk _ _ _ C.2.2.2.2.2.2.2.2.2)⟩
    have h2 := hm.2.2.1.2.2
    rw [h] at h2
    exact (Option.some.inj h2).symm
  refine vc_after (D' := D') (st0 := (as.reverse ++ st).map (aV ad)) (arr := (as.map (aV ad)).toArray) C hA h0 hn hst hL hW hS hl (va_runSN (As := as.map (aV ad)) (rest := st.map (aV ad)) ⟨C.1, C.2.1, C.2.2.2.2.1, C.2.2.2.2.2.1, hts⟩ hM ⟨hcn, hts _ hv, trivial⟩ ⟨PcA_blind, fun U hU hWm => ⟨rfl, by rw [hU], ⟨hW.1, by rw [hU]; exact hW.2.1, hW.2.2.weaken (fun _ _ _ _ => trivial)⟩, va_K.moved hWm.alike C.2.2.2.2.2.2.2.1, ext_call C hA hW hS hU hWm⟩⟩ rfl (by simpa using hlen) hl.1 (by simp) (lv_room (by rw [cat_sum]; exact hsum)) hd ⟨hc1, hc2⟩) kk
/-- a constructor -/
theorem vc_callI {idx k n : Nat} (hm : MOk D' n) (hv : Cond.instanceMethod (mY D') ∈ tblG) (hnm : (mY D').name = "<init>") (hret : mT D' = none) (hlk : LkM (mY D).cls idx D') (hlen : as.length = n) (hlev : mV D' < mV D) (hc1 : kc + mC D' ≤ mC D) (hc2 : ks + mS D' ≤ mS D) (hsum : (st.map catA).sum ≤ 8) (stk : List AV) (hstk : as.reverse ++ aR k :: st = stk) (hd : At (mB D) pc (.invokespecial idx) 3 pc') (hcall : Call l D' (aR k :: as) M Q')
    (kk : ∀ r M', Q' r M' → M.1.length ≤ M'.1.length → VC l D pc' L (r.toList ++ st) M' (kc + mC D') (ks + mS D') Q) : VC l D pc L stk M kc ks Q := by
  subst hstk
  intro p e s m args below meth c dC dI dA ad0 n0 A ad H locs ls C hA h0 hn hst hL hW hS hl
  obtain ⟨hd, rfl⟩ := hd
  obtain ⟨hst1, hst2⟩ := okS_rev hst
  obtain ⟨hr, hst⟩ := okS_cons.mp hst2
  have hts := C.2.2.2.2.2.2.1
  have hM := hcall dC dI dA ad H.size (okS_cons.mpr ⟨hr, hst1⟩)
  have hcb : CallB (rmD D) s args (mY D).cls idx (mY D') (mB D') (mN D') none (wsD D') (rmD D') (mC D') (mS D') n := callB_of n hts (wsD_good hm) (by rw [← hret]; rfl) rfl rfl (hts _ hm.2.1) (hts _ hlk) hm.2.2.1 (rmD_room hlev hm.2.2.2)
  refine vc_after (D' := D') (st0 := (as.reverse ++ aR k :: st).map (aV ad)) (arr := ((aR k :: as).map (aV ad)).toArray) C hA h0 hn hst hL hW hS hl (va_runI (b := ad k) (As := as.map (aV ad)) (rest := st.map (aV ad)) ⟨C.1, C.2.1, C.2.2.2.2.1, C.2.2.2.2.2.1, hts⟩ hM ⟨hcb, hnm, hts _ hv⟩ ⟨PcA_blind, fun U hU hWm => ⟨rfl, by rw [hU], ⟨hW.1, by rw [hU]; exact hW.2.1, hW.2.2.weaken (fun _ _ _ _ => trivial)⟩, va_K.moved hWm.alike C.2.2.2.2.2.2.2.1, ext_call C hA hW hS hU hWm⟩⟩ rfl (by simpa using hlen) hl.1 (by simp [aV, va_rf]) (lv_room (by rw [cat_sum]; exact hsum)) hd ⟨hc1, hc2⟩) kk
theorem Call.mono {Q2 : Option AV → Mem → Prop} (h : Call l D as M Q) (hq : ∀ r M', Q r M' → Q2 r M') : Call l D as M Q2 := by
  intro dC dI dA ad sz hok
  have h1 := h dC dI dA ad sz hok
  intro p e ha hc hk s m args below hf happ hP hT
  obtain ⟨k, o, a1, a2, a3, ⟨⟨r, M', ad', q1, q2, q3⟩, a5⟩⟩ := h1 p e ha hc hk s m args below hf happ hP hT
  exact ⟨k, o, a1, a2, a3, ⟨⟨r, M', ad', q1, hq r M' q2, q3⟩, a5⟩⟩
end VCC
end
section
/-! METHODS, LINKS (written by wip/whole/gen_links.py) -/
theorem t1_in {w : Cond} (h : w ∈ tables_1_1) : w ∈ tables_1 := List.mem_append_left _ h
theorem t2_in {w : Cond} (h : w ∈ tables_1_2) : w ∈ tables_1 := List.mem_append_right _ (List.mem_append_left _ h)
theorem t3_in {w : Cond} (h : w ∈ tables_1_3) : w ∈ tables_1 := List.mem_append_right _ (List.mem_append_right _ (List.mem_append_left _ h))
theorem t4_in {w : Cond} (h : w ∈ tables_1_4) : w ∈ tables_1 := List.mem_append_right _ (List.mem_append_right _ (List.mem_append_right _ (List.mem_append_left _ h)))
theorem t5_in {w : Cond} (h : w ∈ tables_1_5) : w ∈ tables_1 := List.mem_append_right _ (List.mem_append_right _ (List.mem_append_right _ (List.mem_append_right _ (List.mem_append_left _ h))))
theorem t6_in {w : Cond} (h : w ∈ tables_1_6) : w ∈ tables_1 := List.mem_append_right _ (List.mem_append_right _ (List.mem_append_right _ (List.mem_append_right _ (List.mem_append_right _ (List.mem_append_left _ h)))))
theorem t7_in {w : Cond} (h : w ∈ tables_1_7) : w ∈ tables_1 := List.mem_append_right _ (List.mem_append_right _ (List.mem_append_right _ (List.mem_append_right _ (List.mem_append_right _ (List.mem_append_right _ (List.mem_append_left _ h))))))
theorem t8_in {w : Cond} (h : w ∈ tables_1_8) : w ∈ tables_1 := List.mem_append_right _ (List.mem_append_right _ (List.mem_append_right _ (List.mem_append_right _ (List.mem_append_right _ (List.mem_append_right _ (List.mem_append_right _ (List.mem_append_left _ h)))))))
theorem t9_in {w : Cond} (h : w ∈ tables_1_9) : w ∈ tables_1 := List.mem_append_right _ (List.mem_append_right _ (List.mem_append_right _ (List.mem_append_right _ (List.mem_append_right _ (List.mem_append_right _ (List.mem_append_right _ (List.mem_append_right _ (h))))))))
theorem tb_in {w : Cond} (h : w ∈ tables_1) (hg : goodWord w = true) : w ∈ tblG := List.mem_filter.mpr ⟨List.mem_append_right _ h, hg⟩
theorem tp_in {w : Cond} (h : w ∈ k2_sels lw_privs) (hg : goodWord w = true) : w ∈ tblG := List.mem_filter.mpr ⟨List.mem_append_left _ h, hg⟩
def mdX0_init : MD := (yX0_init, cX0_init, 3, none, 0, 3, 3491)
set_option maxRecDepth 20000 in
theorem okX0_init : MOk (mdX0_init) 2 := ⟨tb_in (t2_in (List.mem_of_getElem? (i := 88) rfl)) rfl, tb_in (t1_in (List.mem_of_getElem? (i := 11) rfl)) rfl, ⟨by decide, by decide, by decide +kernel⟩, by decide⟩
set_option maxRecDepth 20000 in
theorem inX0_init : Cond.instanceMethod (mY (mdX0_init)) ∈ tblG := tb_in (t2_in (List.mem_of_getElem? (i := 87) rfl)) rfl
def mdX0_find : MD := (yX0_find, cX0_find, 5, some .int, 21, 0, 0)
set_option maxRecDepth 20000 in
theorem okX0_find : MOk (mdX0_find) 3 := ⟨tb_in (t5_in (List.mem_of_getElem? (i := 200) rfl)) rfl, tb_in (t1_in (List.mem_of_getElem? (i := 11) rfl)) rfl, ⟨by decide, by decide, by decide +kernel⟩, by decide⟩
set_option maxRecDepth 20000 in
theorem inX0_find : Cond.instanceMethod (mY (mdX0_find)) ∈ tblG := tb_in (t5_in (List.mem_of_getElem? (i := 198) rfl)) rfl
set_option maxRecDepth 20000 in
theorem viX0_find : MVi (mdX0_find) := ⟨inX0_find, tb_in (t5_in (List.mem_of_getElem? (i := 199) rfl)) rfl⟩
def mdX0_tries (v : Nat) : MD := (yX0_tries, cX0_tries, 7, some .boolean, v, 0, 0)
set_option maxRecDepth 20000 in
theorem okX0_tries (v : Nat) : MOk (mdX0_tries v) 3 := ⟨tb_in (t5_in (List.mem_of_getElem? (i := 205) rfl)) rfl, tb_in (t1_in (List.mem_of_getElem? (i := 11) rfl)) rfl, ⟨by show yX0_tries.cls ≠ "java/lang/invoke/MethodHandle"; decide, by show yX0_tries.cls ≠ "java/lang/invoke/VarHandle"; decide, by show (parseMethodDescriptor yX0_tries.desc).map (fun d => d.parameters.length) = some 3; decide +kernel⟩, by show 7 ≤ 45; decide⟩
set_option maxRecDepth 20000 in
theorem inX0_tries (v : Nat) : Cond.instanceMethod (mY (mdX0_tries v)) ∈ tblG := tb_in (t5_in (List.mem_of_getElem? (i := 204) rfl)) rfl
set_option maxRecDepth 20000 in
theorem viX0_tries (v : Nat) : MVi (mdX0_tries v) := ⟨inX0_tries v, tp_in (List.mem_of_getElem? (i := 42) rfl) rfl⟩
def mdX0_turnOfKind : MD := (yX0_turnOfKind, cX0_turnOfKind, 2, some .int, 0, 0, 0)
set_option maxRecDepth 20000 in
theorem okX0_turnOfKind : MOk (mdX0_turnOfKind) 1 := ⟨tb_in (t5_in (List.mem_of_getElem? (i := 208) rfl)) rfl, tb_in (t1_in (List.mem_of_getElem? (i := 11) rfl)) rfl, ⟨by decide, by decide, by decide +kernel⟩, by decide⟩
set_option maxRecDepth 20000 in
theorem stX0_turnOfKind : MSt (mdX0_turnOfKind) := tb_in (t5_in (List.mem_of_getElem? (i := 207) rfl)) rfl
def mdX0_kindOfTurn : MD := (yX0_kindOfTurn, cX0_kindOfTurn, 2, some .int, 0, 0, 0)
set_option maxRecDepth 20000 in
theorem okX0_kindOfTurn : MOk (mdX0_kindOfTurn) 1 := ⟨tb_in (t5_in (List.mem_of_getElem? (i := 220) rfl)) rfl, tb_in (t1_in (List.mem_of_getElem? (i := 11) rfl)) rfl, ⟨by decide, by decide, by decide +kernel⟩, by decide⟩
set_option maxRecDepth 20000 in
theorem stX0_kindOfTurn : MSt (mdX0_kindOfTurn) := tb_in (t5_in (List.mem_of_getElem? (i := 219) rfl)) rfl
def mdX0_allGo : MD := (yX0_allGo, cX0_allGo, 7, some .boolean, 4, 0, 0)
set_option maxRecDepth 20000 in
theorem okX0_allGo : MOk (mdX0_allGo) 4 := ⟨tb_in (t5_in (List.mem_of_getElem? (i := 212) rfl)) rfl, tb_in (t1_in (List.mem_of_getElem? (i := 11) rfl)) rfl, ⟨by decide, by decide, by decide +kernel⟩, by decide⟩
set_option maxRecDepth 20000 in
theorem inX0_allGo : Cond.instanceMethod (mY (mdX0_allGo)) ∈ tblG := tb_in (t5_in (List.mem_of_getElem? (i := 211) rfl)) rfl
set_option maxRecDepth 20000 in
theorem viX0_allGo : MVi (mdX0_allGo) := ⟨inX0_allGo, tp_in (List.mem_of_getElem? (i := 43) rfl) rfl⟩
def mdX0_after : MD := (yX0_after, cX0_after, 7, some .int, 3, 0, 0)
set_option maxRecDepth 20000 in
theorem okX0_after : MOk (mdX0_after) 3 := ⟨tb_in (t5_in (List.mem_of_getElem? (i := 217) rfl)) rfl, tb_in (t1_in (List.mem_of_getElem? (i := 11) rfl)) rfl, ⟨by decide, by decide, by decide +kernel⟩, by decide⟩
set_option maxRecDepth 20000 in
theorem inX0_after : Cond.instanceMethod (mY (mdX0_after)) ∈ tblG := tb_in (t5_in (List.mem_of_getElem? (i := 216) rfl)) rfl
set_option maxRecDepth 20000 in
theorem viX0_after : MVi (mdX0_after) := ⟨inX0_after, tp_in (List.mem_of_getElem? (i := 44) rfl) rfl⟩
def mdX0_endsAtGoal : MD := (yX0_endsAtGoal, cX0_endsAtGoal, 4, some .boolean, 1, 0, 0)
set_option maxRecDepth 20000 in
theorem okX0_endsAtGoal : MOk (mdX0_endsAtGoal) 2 := ⟨tb_in (t5_in (List.mem_of_getElem? (i := 226) rfl)) rfl, tb_in (t1_in (List.mem_of_getElem? (i := 11) rfl)) rfl, ⟨by decide, by decide, by decide +kernel⟩, by decide⟩
set_option maxRecDepth 20000 in
theorem inX0_endsAtGoal : Cond.instanceMethod (mY (mdX0_endsAtGoal)) ∈ tblG := tb_in (t5_in (List.mem_of_getElem? (i := 225) rfl)) rfl
set_option maxRecDepth 20000 in
theorem viX0_endsAtGoal : MVi (mdX0_endsAtGoal) := ⟨inX0_endsAtGoal, tp_in (List.mem_of_getElem? (i := 45) rfl) rfl⟩
def mdX1_init : MD := (yX1_init, cX1_init, 2, none, 0, 1, 40)
set_option maxRecDepth 20000 in
theorem okX1_init : MOk (mdX1_init) 1 := ⟨tb_in (t1_in (List.mem_of_getElem? (i := 196) rfl)) rfl, tb_in (t1_in (List.mem_of_getElem? (i := 7) rfl)) rfl, ⟨by decide, by decide, by decide +kernel⟩, by decide⟩
set_option maxRecDepth 20000 in
theorem inX1_init : Cond.instanceMethod (mY (mdX1_init)) ∈ tblG := tb_in (t1_in (List.mem_of_getElem? (i := 195) rfl)) rfl
def mdX1_setOut : MD := (yX1_setOut, cX1_setOut, 3, none, 0, 0, 0)
set_option maxRecDepth 20000 in
theorem okX1_setOut : MOk (mdX1_setOut) 2 := ⟨tb_in (t4_in (List.mem_of_getElem? (i := 145) rfl)) rfl, tb_in (t1_in (List.mem_of_getElem? (i := 7) rfl)) rfl, ⟨by decide, by decide, by decide +kernel⟩, by decide⟩
set_option maxRecDepth 20000 in
theorem inX1_setOut : Cond.instanceMethod (mY (mdX1_setOut)) ∈ tblG := tb_in (t4_in (List.mem_of_getElem? (i := 143) rfl)) rfl
set_option maxRecDepth 20000 in
theorem viX1_setOut : MVi (mdX1_setOut) := ⟨inX1_setOut, tb_in (t4_in (List.mem_of_getElem? (i := 144) rfl)) rfl⟩
def mdX1_setOutAsTold : MD := (yX1_setOutAsTold, cX1_setOutAsTold, 2, none, 1, 0, 0)
set_option maxRecDepth 20000 in
theorem okX1_setOutAsTold : MOk (mdX1_setOutAsTold) 1 := ⟨tb_in (t5_in (List.mem_of_getElem? (i := 28) rfl)) rfl, tb_in (t1_in (List.mem_of_getElem? (i := 7) rfl)) rfl, ⟨by decide, by decide, by decide +kernel⟩, by decide⟩
set_option maxRecDepth 20000 in
theorem inX1_setOutAsTold : Cond.instanceMethod (mY (mdX1_setOutAsTold)) ∈ tblG := tb_in (t5_in (List.mem_of_getElem? (i := 26) rfl)) rfl
set_option maxRecDepth 20000 in
theorem viX1_setOutAsTold : MVi (mdX1_setOutAsTold) := ⟨inX1_setOutAsTold, tb_in (t5_in (List.mem_of_getElem? (i := 27) rfl)) rfl⟩
def mdX1_comesTo : MD := (yX1_comesTo, cX1_comesTo, 4, some .int, 4, 0, 0)
set_option maxRecDepth 20000 in
theorem okX1_comesTo : MOk (mdX1_comesTo) 3 := ⟨tb_in (t5_in (List.mem_of_getElem? (i := 24) rfl)) rfl, tb_in (t1_in (List.mem_of_getElem? (i := 7) rfl)) rfl, ⟨by decide, by decide, by decide +kernel⟩, by decide⟩
set_option maxRecDepth 20000 in
theorem inX1_comesTo : Cond.instanceMethod (mY (mdX1_comesTo)) ∈ tblG := tb_in (t5_in (List.mem_of_getElem? (i := 22) rfl)) rfl
set_option maxRecDepth 20000 in
theorem viX1_comesTo : MVi (mdX1_comesTo) := ⟨inX1_comesTo, tb_in (t5_in (List.mem_of_getElem? (i := 23) rfl)) rfl⟩
def mdX1_goesAll : MD := (yX1_goesAll, cX1_goesAll, 8, some .boolean, 3, 0, 0)
set_option maxRecDepth 20000 in
theorem okX1_goesAll : MOk (mdX1_goesAll) 3 := ⟨tb_in (t4_in (List.mem_of_getElem? (i := 149) rfl)) rfl, tb_in (t1_in (List.mem_of_getElem? (i := 7) rfl)) rfl, ⟨by decide, by decide, by decide +kernel⟩, by decide⟩
set_option maxRecDepth 20000 in
theorem inX1_goesAll : Cond.instanceMethod (mY (mdX1_goesAll)) ∈ tblG := tb_in (t4_in (List.mem_of_getElem? (i := 147) rfl)) rfl
set_option maxRecDepth 20000 in
theorem viX1_goesAll : MVi (mdX1_goesAll) := ⟨inX1_goesAll, tb_in (t4_in (List.mem_of_getElem? (i := 148) rfl)) rfl⟩
def mdX1_goesFirst : MD := (yX1_goesFirst, cX1_goesFirst, 5, some .boolean, 3, 0, 0)
set_option maxRecDepth 20000 in
theorem okX1_goesFirst : MOk (mdX1_goesFirst) 3 := ⟨tb_in (t5_in (List.mem_of_getElem? (i := 172) rfl)) rfl, tb_in (t1_in (List.mem_of_getElem? (i := 7) rfl)) rfl, ⟨by decide, by decide, by decide +kernel⟩, by decide⟩
set_option maxRecDepth 20000 in
theorem inX1_goesFirst : Cond.instanceMethod (mY (mdX1_goesFirst)) ∈ tblG := tb_in (t5_in (List.mem_of_getElem? (i := 170) rfl)) rfl
set_option maxRecDepth 20000 in
theorem viX1_goesFirst : MVi (mdX1_goesFirst) := ⟨inX1_goesFirst, tb_in (t5_in (List.mem_of_getElem? (i := 171) rfl)) rfl⟩
def mdX1_meant : MD := (yX1_meant, cX1_meant, 5, some .int, 0, 0, 0)
set_option maxRecDepth 20000 in
theorem okX1_meant : MOk (mdX1_meant) 2 := ⟨tb_in (t4_in (List.mem_of_getElem? (i := 161) rfl)) rfl, tb_in (t1_in (List.mem_of_getElem? (i := 7) rfl)) rfl, ⟨by decide, by decide, by decide +kernel⟩, by decide⟩
set_option maxRecDepth 20000 in
theorem stX1_meant : MSt (mdX1_meant) := tb_in (t4_in (List.mem_of_getElem? (i := 160) rfl)) rfl
def mdX1_goesOn : MD := (yX1_goesOn, cX1_goesOn, 2, some .boolean, 1, 0, 0)
set_option maxRecDepth 20000 in
theorem okX1_goesOn : MOk (mdX1_goesOn) 0 := ⟨tb_in (t4_in (List.mem_of_getElem? (i := 170) rfl)) rfl, tb_in (t1_in (List.mem_of_getElem? (i := 7) rfl)) rfl, ⟨by decide, by decide, by decide +kernel⟩, by decide⟩
set_option maxRecDepth 20000 in
theorem inX1_goesOn : Cond.instanceMethod (mY (mdX1_goesOn)) ∈ tblG := tb_in (t4_in (List.mem_of_getElem? (i := 168) rfl)) rfl
set_option maxRecDepth 20000 in
theorem viX1_goesOn : MVi (mdX1_goesOn) := ⟨inX1_goesOn, tb_in (t4_in (List.mem_of_getElem? (i := 169) rfl)) rfl⟩
def mdX1_takes : MD := (yX1_takes, cX1_takes, 11, some .boolean, 2, 0, 0)
set_option maxRecDepth 20000 in
theorem okX1_takes : MOk (mdX1_takes) 2 := ⟨tb_in (t4_in (List.mem_of_getElem? (i := 165) rfl)) rfl, tb_in (t1_in (List.mem_of_getElem? (i := 7) rfl)) rfl, ⟨by decide, by decide, by decide +kernel⟩, by decide⟩
set_option maxRecDepth 20000 in
theorem inX1_takes : Cond.instanceMethod (mY (mdX1_takes)) ∈ tblG := tb_in (t4_in (List.mem_of_getElem? (i := 163) rfl)) rfl
set_option maxRecDepth 20000 in
theorem viX1_takes : MVi (mdX1_takes) := ⟨inX1_takes, tb_in (t4_in (List.mem_of_getElem? (i := 164) rfl)) rfl⟩
def mdX1_sideOf : MD := (yX1_sideOf, cX1_sideOf, 2, some .int, 0, 0, 0)
set_option maxRecDepth 20000 in
theorem okX1_sideOf : MOk (mdX1_sideOf) 2 := ⟨tb_in (t4_in (List.mem_of_getElem? (i := 102) rfl)) rfl, tb_in (t1_in (List.mem_of_getElem? (i := 7) rfl)) rfl, ⟨by decide, by decide, by decide +kernel⟩, by decide⟩
set_option maxRecDepth 20000 in
theorem stX1_sideOf : MSt (mdX1_sideOf) := tb_in (t4_in (List.mem_of_getElem? (i := 101) rfl)) rfl
def mdX2_init : MD := (yX2_init, cX2_init, 3, none, 0, 2, 49)
set_option maxRecDepth 20000 in
theorem okX2_init : MOk (mdX2_init) 2 := ⟨tb_in (t1_in (List.mem_of_getElem? (i := 177) rfl)) rfl, tb_in (t1_in (List.mem_of_getElem? (i := 6) rfl)) rfl, ⟨by decide, by decide, by decide +kernel⟩, by decide⟩
set_option maxRecDepth 20000 in
theorem inX2_init : Cond.instanceMethod (mY (mdX2_init)) ∈ tblG := tb_in (t1_in (List.mem_of_getElem? (i := 176) rfl)) rfl
def mdX2_slip : MD := (yX2_slip, cX2_slip, 6, some .int, 3, 0, 0)
set_option maxRecDepth 20000 in
theorem okX2_slip : MOk (mdX2_slip) 2 := ⟨tb_in (t5_in (List.mem_of_getElem? (i := 14) rfl)) rfl, tb_in (t1_in (List.mem_of_getElem? (i := 6) rfl)) rfl, ⟨by decide, by decide, by decide +kernel⟩, by decide⟩
set_option maxRecDepth 20000 in
theorem inX2_slip : Cond.instanceMethod (mY (mdX2_slip)) ∈ tblG := tb_in (t5_in (List.mem_of_getElem? (i := 12) rfl)) rfl
set_option maxRecDepth 20000 in
theorem viX2_slip : MVi (mdX2_slip) := ⟨inX2_slip, tb_in (t5_in (List.mem_of_getElem? (i := 13) rfl)) rfl⟩
def mdX2_pace : MD := (yX2_pace, cX2_pace, 4, some .int, 3, 0, 0)
set_option maxRecDepth 20000 in
theorem okX2_pace : MOk (mdX2_pace) 2 := ⟨tb_in (t4_in (List.mem_of_getElem? (i := 42) rfl)) rfl, tb_in (t1_in (List.mem_of_getElem? (i := 6) rfl)) rfl, ⟨by decide, by decide, by decide +kernel⟩, by decide⟩
set_option maxRecDepth 20000 in
theorem inX2_pace : Cond.instanceMethod (mY (mdX2_pace)) ∈ tblG := tb_in (t4_in (List.mem_of_getElem? (i := 40) rfl)) rfl
set_option maxRecDepth 20000 in
theorem viX2_pace : MVi (mdX2_pace) := ⟨inX2_pace, tb_in (t4_in (List.mem_of_getElem? (i := 41) rfl)) rfl⟩
def mdX2_asking : MD := (yX2_asking, cX2_asking, 3, some .int, 3, 0, 0)
set_option maxRecDepth 20000 in
theorem okX2_asking : MOk (mdX2_asking) 1 := ⟨tb_in (t4_in (List.mem_of_getElem? (i := 123) rfl)) rfl, tb_in (t1_in (List.mem_of_getElem? (i := 6) rfl)) rfl, ⟨by decide, by decide, by decide +kernel⟩, by decide⟩
set_option maxRecDepth 20000 in
theorem inX2_asking : Cond.instanceMethod (mY (mdX2_asking)) ∈ tblG := tb_in (t4_in (List.mem_of_getElem? (i := 121) rfl)) rfl
set_option maxRecDepth 20000 in
theorem viX2_asking : MVi (mdX2_asking) := ⟨inX2_asking, tb_in (t4_in (List.mem_of_getElem? (i := 122) rfl)) rfl⟩
def mdX2_nameTeller : MD := (yX2_nameTeller, cX2_nameTeller, 2, none, 1, 0, 0)
set_option maxRecDepth 20000 in
theorem okX2_nameTeller : MOk (mdX2_nameTeller) 1 := ⟨tb_in (t4_in (List.mem_of_getElem? (i := 127) rfl)) rfl, tb_in (t1_in (List.mem_of_getElem? (i := 6) rfl)) rfl, ⟨by decide, by decide, by decide +kernel⟩, by decide⟩
set_option maxRecDepth 20000 in
theorem inX2_nameTeller : Cond.instanceMethod (mY (mdX2_nameTeller)) ∈ tblG := tb_in (t4_in (List.mem_of_getElem? (i := 126) rfl)) rfl
set_option maxRecDepth 20000 in
theorem viX2_nameTeller : MVi (mdX2_nameTeller) := ⟨inX2_nameTeller, tp_in (List.mem_of_getElem? (i := 32) rfl) rfl⟩
def mdX3_init : MD := (yX3_init, cX3_init, 2, none, 0, 3, 96)
set_option maxRecDepth 20000 in
theorem okX3_init : MOk (mdX3_init) 1 := ⟨tb_in (t2_in (List.mem_of_getElem? (i := 111) rfl)) rfl, tb_in (t1_in (List.mem_of_getElem? (i := 12) rfl)) rfl, ⟨by decide, by decide, by decide +kernel⟩, by decide⟩
set_option maxRecDepth 20000 in
theorem inX3_init : Cond.instanceMethod (mY (mdX3_init)) ∈ tblG := tb_in (t2_in (List.mem_of_getElem? (i := 110) rfl)) rfl
def mdX3_fewest : MD := (yX3_fewest, cX3_fewest, 4, some .int, 3, 0, 0)
set_option maxRecDepth 20000 in
theorem okX3_fewest : MOk (mdX3_fewest) 0 := ⟨tb_in (t6_in (List.mem_of_getElem? (i := 8) rfl)) rfl, tb_in (t1_in (List.mem_of_getElem? (i := 12) rfl)) rfl, ⟨by decide, by decide, by decide +kernel⟩, by decide⟩
set_option maxRecDepth 20000 in
theorem inX3_fewest : Cond.instanceMethod (mY (mdX3_fewest)) ∈ tblG := tb_in (t6_in (List.mem_of_getElem? (i := 6) rfl)) rfl
set_option maxRecDepth 20000 in
theorem viX3_fewest : MVi (mdX3_fewest) := ⟨inX3_fewest, tb_in (t6_in (List.mem_of_getElem? (i := 7) rfl)) rfl⟩
def mdX3_firstThatServes : MD := (yX3_firstThatServes, cX3_firstThatServes, 5, some .int, 2, 0, 0)
set_option maxRecDepth 20000 in
theorem okX3_firstThatServes : MOk (mdX3_firstThatServes) 1 := ⟨tb_in (t6_in (List.mem_of_getElem? (i := 30) rfl)) rfl, tb_in (t1_in (List.mem_of_getElem? (i := 12) rfl)) rfl, ⟨by decide, by decide, by decide +kernel⟩, by decide⟩
set_option maxRecDepth 20000 in
theorem inX3_firstThatServes : Cond.instanceMethod (mY (mdX3_firstThatServes)) ∈ tblG := tb_in (t6_in (List.mem_of_getElem? (i := 29) rfl)) rfl
set_option maxRecDepth 20000 in
theorem viX3_firstThatServes : MVi (mdX3_firstThatServes) := ⟨inX3_firstThatServes, tp_in (List.mem_of_getElem? (i := 49) rfl) rfl⟩
def mdX3_nextOfSize : MD := (yX3_nextOfSize, cX3_nextOfSize, 4, some .int, 1, 0, 0)
set_option maxRecDepth 20000 in
theorem okX3_nextOfSize : MOk (mdX3_nextOfSize) 1 := ⟨tb_in (t6_in (List.mem_of_getElem? (i := 42) rfl)) rfl, tb_in (t1_in (List.mem_of_getElem? (i := 12) rfl)) rfl, ⟨by decide, by decide, by decide +kernel⟩, by decide⟩
set_option maxRecDepth 20000 in
theorem stX3_nextOfSize : MSt (mdX3_nextOfSize) := tb_in (t6_in (List.mem_of_getElem? (i := 41) rfl)) rfl
def mdX3_countStreets : MD := (yX3_countStreets, cX3_countStreets, 4, none, 2, 0, 0)
set_option maxRecDepth 20000 in
theorem okX3_countStreets : MOk (mdX3_countStreets) 0 := ⟨tb_in (t6_in (List.mem_of_getElem? (i := 13) rfl)) rfl, tb_in (t1_in (List.mem_of_getElem? (i := 12) rfl)) rfl, ⟨by decide, by decide, by decide +kernel⟩, by decide⟩
set_option maxRecDepth 20000 in
theorem inX3_countStreets : Cond.instanceMethod (mY (mdX3_countStreets)) ∈ tblG := tb_in (t6_in (List.mem_of_getElem? (i := 12) rfl)) rfl
set_option maxRecDepth 20000 in
theorem viX3_countStreets : MVi (mdX3_countStreets) := ⟨inX3_countStreets, tp_in (List.mem_of_getElem? (i := 46) rfl) rfl⟩
def mdX3_towards : MD := (yX3_towards, cX3_towards, 5, some .int, 1, 0, 0)
set_option maxRecDepth 20000 in
theorem okX3_towards : MOk (mdX3_towards) 2 := ⟨tb_in (t6_in (List.mem_of_getElem? (i := 18) rfl)) rfl, tb_in (t1_in (List.mem_of_getElem? (i := 12) rfl)) rfl, ⟨by decide, by decide, by decide +kernel⟩, by decide⟩
set_option maxRecDepth 20000 in
theorem inX3_towards : Cond.instanceMethod (mY (mdX3_towards)) ∈ tblG := tb_in (t6_in (List.mem_of_getElem? (i := 17) rfl)) rfl
set_option maxRecDepth 20000 in
theorem viX3_towards : MVi (mdX3_towards) := ⟨inX3_towards, tp_in (List.mem_of_getElem? (i := 47) rfl) rfl⟩
def mdX3_setOnward : MD := (yX3_setOnward, cX3_setOnward, 5, none, 1, 0, 0)
set_option maxRecDepth 20000 in
theorem okX3_setOnward : MOk (mdX3_setOnward) 0 := ⟨tb_in (t6_in (List.mem_of_getElem? (i := 23) rfl)) rfl, tb_in (t1_in (List.mem_of_getElem? (i := 12) rfl)) rfl, ⟨by decide, by decide, by decide +kernel⟩, by decide⟩
set_option maxRecDepth 20000 in
theorem inX3_setOnward : Cond.instanceMethod (mY (mdX3_setOnward)) ∈ tblG := tb_in (t6_in (List.mem_of_getElem? (i := 22) rfl)) rfl
set_option maxRecDepth 20000 in
theorem viX3_setOnward : MVi (mdX3_setOnward) := ⟨inX3_setOnward, tp_in (List.mem_of_getElem? (i := 48) rfl) rfl⟩
def mdX3_allCome : MD := (yX3_allCome, cX3_allCome, 3, some .boolean, 1, 0, 0)
set_option maxRecDepth 20000 in
theorem okX3_allCome : MOk (mdX3_allCome) 1 := ⟨tb_in (t6_in (List.mem_of_getElem? (i := 35) rfl)) rfl, tb_in (t1_in (List.mem_of_getElem? (i := 12) rfl)) rfl, ⟨by decide, by decide, by decide +kernel⟩, by decide⟩
set_option maxRecDepth 20000 in
theorem inX3_allCome : Cond.instanceMethod (mY (mdX3_allCome)) ∈ tblG := tb_in (t6_in (List.mem_of_getElem? (i := 34) rfl)) rfl
set_option maxRecDepth 20000 in
theorem viX3_allCome : MVi (mdX3_allCome) := ⟨inX3_allCome, tp_in (List.mem_of_getElem? (i := 50) rfl) rfl⟩
def mdX3_comes : MD := (yX3_comes, cX3_comes, 8, some .boolean, 0, 0, 0)
set_option maxRecDepth 20000 in
theorem okX3_comes : MOk (mdX3_comes) 2 := ⟨tb_in (t6_in (List.mem_of_getElem? (i := 39) rfl)) rfl, tb_in (t1_in (List.mem_of_getElem? (i := 12) rfl)) rfl, ⟨by decide, by decide, by decide +kernel⟩, by decide⟩
set_option maxRecDepth 20000 in
theorem inX3_comes : Cond.instanceMethod (mY (mdX3_comes)) ∈ tblG := tb_in (t6_in (List.mem_of_getElem? (i := 38) rfl)) rfl
set_option maxRecDepth 20000 in
theorem viX3_comes : MVi (mdX3_comes) := ⟨inX3_comes, tp_in (List.mem_of_getElem? (i := 51) rfl) rfl⟩
def mdX4_init : MD := (yX4_init, cX4_init, 2, none, 0, 6, 1333)
set_option maxRecDepth 20000 in
theorem okX4_init : MOk (mdX4_init) 1 := ⟨tb_in (t1_in (List.mem_of_getElem? (i := 123) rfl)) rfl, tb_in (t1_in (List.mem_of_getElem? (i := 5) rfl)) rfl, ⟨by decide, by decide, by decide +kernel⟩, by decide⟩
set_option maxRecDepth 20000 in
theorem inX4_init : Cond.instanceMethod (mY (mdX4_init)) ∈ tblG := tb_in (t1_in (List.mem_of_getElem? (i := 122) rfl)) rfl
def mdX4_reads : MD := (yX4_reads, cX4_reads, 4, some .boolean, 42, 0, 0)
set_option maxRecDepth 20000 in
theorem okX4_reads : MOk (mdX4_reads) 1 := ⟨tb_in (t3_in (List.mem_of_getElem? (i := 23) rfl)) rfl, tb_in (t1_in (List.mem_of_getElem? (i := 5) rfl)) rfl, ⟨by decide, by decide, by decide +kernel⟩, by decide⟩
set_option maxRecDepth 20000 in
theorem inX4_reads : Cond.instanceMethod (mY (mdX4_reads)) ∈ tblG := tb_in (t3_in (List.mem_of_getElem? (i := 21) rfl)) rfl
set_option maxRecDepth 20000 in
theorem viX4_reads : MVi (mdX4_reads) := ⟨inX4_reads, tb_in (t3_in (List.mem_of_getElem? (i := 22) rfl)) rfl⟩
def mdX4_asRead : MD := (yX4_asRead, cX4_asRead, 1, some (.object "SecondLeft$Text"), 2, 4, 904)
set_option maxRecDepth 20000 in
theorem okX4_asRead : MOk (mdX4_asRead) 0 := ⟨tb_in (t3_in (List.mem_of_getElem? (i := 189) rfl)) rfl, tb_in (t1_in (List.mem_of_getElem? (i := 5) rfl)) rfl, ⟨by decide, by decide, by decide +kernel⟩, by decide⟩
set_option maxRecDepth 20000 in
theorem inX4_asRead : Cond.instanceMethod (mY (mdX4_asRead)) ∈ tblG := tb_in (t3_in (List.mem_of_getElem? (i := 187) rfl)) rfl
set_option maxRecDepth 20000 in
theorem viX4_asRead : MVi (mdX4_asRead) := ⟨inX4_asRead, tb_in (t3_in (List.mem_of_getElem? (i := 188) rfl)) rfl⟩
def mdX4_part : MD := (yX4_part, cX4_part, 6, none, 7, 0, 0)
set_option maxRecDepth 20000 in
theorem okX4_part : MOk (mdX4_part) 1 := ⟨tb_in (t3_in (List.mem_of_getElem? (i := 30) rfl)) rfl, tb_in (t1_in (List.mem_of_getElem? (i := 5) rfl)) rfl, ⟨by decide, by decide, by decide +kernel⟩, by decide⟩
set_option maxRecDepth 20000 in
theorem inX4_part : Cond.instanceMethod (mY (mdX4_part)) ∈ tblG := tb_in (t3_in (List.mem_of_getElem? (i := 29) rfl)) rfl
set_option maxRecDepth 20000 in
theorem viX4_part : MVi (mdX4_part) := ⟨inX4_part, tp_in (List.mem_of_getElem? (i := 2) rfl) rfl⟩
def mdX4_endOfToken : MD := (yX4_endOfToken, cX4_endOfToken, 4, some .int, 1, 0, 0)
set_option maxRecDepth 20000 in
theorem okX4_endOfToken : MOk (mdX4_endOfToken) 2 := ⟨tb_in (t3_in (List.mem_of_getElem? (i := 34) rfl)) rfl, tb_in (t1_in (List.mem_of_getElem? (i := 5) rfl)) rfl, ⟨by decide, by decide, by decide +kernel⟩, by decide⟩
set_option maxRecDepth 20000 in
theorem inX4_endOfToken : Cond.instanceMethod (mY (mdX4_endOfToken)) ∈ tblG := tb_in (t3_in (List.mem_of_getElem? (i := 33) rfl)) rfl
set_option maxRecDepth 20000 in
theorem viX4_endOfToken : MVi (mdX4_endOfToken) := ⟨inX4_endOfToken, tp_in (List.mem_of_getElem? (i := 3) rfl) rfl⟩
def mdX4_setToken : MD := (yX4_setToken, cX4_setToken, 4, none, 6, 0, 0)
set_option maxRecDepth 20000 in
theorem okX4_setToken : MOk (mdX4_setToken) 3 := ⟨tb_in (t3_in (List.mem_of_getElem? (i := 47) rfl)) rfl, tb_in (t1_in (List.mem_of_getElem? (i := 5) rfl)) rfl, ⟨by decide, by decide, by decide +kernel⟩, by decide⟩
set_option maxRecDepth 20000 in
theorem inX4_setToken : Cond.instanceMethod (mY (mdX4_setToken)) ∈ tblG := tb_in (t3_in (List.mem_of_getElem? (i := 46) rfl)) rfl
set_option maxRecDepth 20000 in
theorem viX4_setToken : MVi (mdX4_setToken) := ⟨inX4_setToken, tp_in (List.mem_of_getElem? (i := 4) rfl) rfl⟩
def mdX4_isBlank : MD := (yX4_isBlank, cX4_isBlank, 1, some .boolean, 0, 0, 0)
set_option maxRecDepth 20000 in
theorem okX4_isBlank : MOk (mdX4_isBlank) 1 := ⟨tb_in (t3_in (List.mem_of_getElem? (i := 43) rfl)) rfl, tb_in (t1_in (List.mem_of_getElem? (i := 5) rfl)) rfl, ⟨by decide, by decide, by decide +kernel⟩, by decide⟩
set_option maxRecDepth 20000 in
theorem stX4_isBlank : MSt (mdX4_isBlank) := tb_in (t3_in (List.mem_of_getElem? (i := 42) rfl)) rfl
def mdX4_isLetter : MD := (yX4_isLetter, cX4_isLetter, 1, some .boolean, 0, 0, 0)
set_option maxRecDepth 20000 in
theorem okX4_isLetter : MOk (mdX4_isLetter) 1 := ⟨tb_in (t3_in (List.mem_of_getElem? (i := 37) rfl)) rfl, tb_in (t1_in (List.mem_of_getElem? (i := 5) rfl)) rfl, ⟨by decide, by decide, by decide +kernel⟩, by decide⟩
set_option maxRecDepth 20000 in
theorem stX4_isLetter : MSt (mdX4_isLetter) := tb_in (t3_in (List.mem_of_getElem? (i := 36) rfl)) rfl
def mdX4_isDigit : MD := (yX4_isDigit, cX4_isDigit, 1, some .boolean, 0, 0, 0)
set_option maxRecDepth 20000 in
theorem okX4_isDigit : MOk (mdX4_isDigit) 1 := ⟨tb_in (t3_in (List.mem_of_getElem? (i := 40) rfl)) rfl, tb_in (t1_in (List.mem_of_getElem? (i := 5) rfl)) rfl, ⟨by decide, by decide, by decide +kernel⟩, by decide⟩
set_option maxRecDepth 20000 in
theorem stX4_isDigit : MSt (mdX4_isDigit) := tb_in (t3_in (List.mem_of_getElem? (i := 39) rfl)) rfl
def mdX4_numberOf : MD := (yX4_numberOf, cX4_numberOf, 5, some .int, 1, 0, 0)
set_option maxRecDepth 20000 in
theorem okX4_numberOf : MOk (mdX4_numberOf) 2 := ⟨tb_in (t3_in (List.mem_of_getElem? (i := 104) rfl)) rfl, tb_in (t1_in (List.mem_of_getElem? (i := 5) rfl)) rfl, ⟨by decide, by decide, by decide +kernel⟩, by decide⟩
set_option maxRecDepth 20000 in
theorem inX4_numberOf : Cond.instanceMethod (mY (mdX4_numberOf)) ∈ tblG := tb_in (t3_in (List.mem_of_getElem? (i := 103) rfl)) rfl
set_option maxRecDepth 20000 in
theorem viX4_numberOf : MVi (mdX4_numberOf) := ⟨inX4_numberOf, tp_in (List.mem_of_getElem? (i := 6) rfl) rfl⟩
def mdX4_wordOf : MD := (yX4_wordOf, cX4_wordOf, 7, some .int, 5, 0, 0)
set_option maxRecDepth 20000 in
theorem okX4_wordOf : MOk (mdX4_wordOf) 2 := ⟨tb_in (t3_in (List.mem_of_getElem? (i := 51) rfl)) rfl, tb_in (t1_in (List.mem_of_getElem? (i := 5) rfl)) rfl, ⟨by decide, by decide, by decide +kernel⟩, by decide⟩
set_option maxRecDepth 20000 in
theorem inX4_wordOf : Cond.instanceMethod (mY (mdX4_wordOf)) ∈ tblG := tb_in (t3_in (List.mem_of_getElem? (i := 50) rfl)) rfl
set_option maxRecDepth 20000 in
theorem viX4_wordOf : MVi (mdX4_wordOf) := ⟨inX4_wordOf, tp_in (List.mem_of_getElem? (i := 5) rfl) rfl⟩
def mdX4_takeToken : MD := (yX4_takeToken, cX4_takeToken, 1, some .boolean, 0, 0, 0)
set_option maxRecDepth 20000 in
theorem okX4_takeToken : MOk (mdX4_takeToken) 0 := ⟨tb_in (t3_in (List.mem_of_getElem? (i := 109) rfl)) rfl, tb_in (t1_in (List.mem_of_getElem? (i := 5) rfl)) rfl, ⟨by decide, by decide, by decide +kernel⟩, by decide⟩
set_option maxRecDepth 20000 in
theorem inX4_takeToken : Cond.instanceMethod (mY (mdX4_takeToken)) ∈ tblG := tb_in (t3_in (List.mem_of_getElem? (i := 108) rfl)) rfl
set_option maxRecDepth 20000 in
theorem viX4_takeToken : MVi (mdX4_takeToken) := ⟨inX4_takeToken, tp_in (List.mem_of_getElem? (i := 7) rfl) rfl⟩
def mdX4_failed : MD := (yX4_failed, cX4_failed, 2, some .boolean, 0, 0, 0)
set_option maxRecDepth 20000 in
theorem okX4_failed : MOk (mdX4_failed) 1 := ⟨tb_in (t3_in (List.mem_of_getElem? (i := 117) rfl)) rfl, tb_in (t1_in (List.mem_of_getElem? (i := 5) rfl)) rfl, ⟨by decide, by decide, by decide +kernel⟩, by decide⟩
set_option maxRecDepth 20000 in
theorem inX4_failed : Cond.instanceMethod (mY (mdX4_failed)) ∈ tblG := tb_in (t3_in (List.mem_of_getElem? (i := 116) rfl)) rfl
set_option maxRecDepth 20000 in
theorem viX4_failed : MVi (mdX4_failed) := ⟨inX4_failed, tp_in (List.mem_of_getElem? (i := 9) rfl) rfl⟩
def mdX4_readClause : MD := (yX4_readClause, cX4_readClause, 3, some .boolean, 41, 0, 0)
set_option maxRecDepth 20000 in
theorem okX4_readClause : MOk (mdX4_readClause) 0 := ⟨tb_in (t3_in (List.mem_of_getElem? (i := 113) rfl)) rfl, tb_in (t1_in (List.mem_of_getElem? (i := 5) rfl)) rfl, ⟨by decide, by decide, by decide +kernel⟩, by decide⟩
set_option maxRecDepth 20000 in
theorem inX4_readClause : Cond.instanceMethod (mY (mdX4_readClause)) ∈ tblG := tb_in (t3_in (List.mem_of_getElem? (i := 112) rfl)) rfl
set_option maxRecDepth 20000 in
theorem viX4_readClause : MVi (mdX4_readClause) := ⟨inX4_readClause, tp_in (List.mem_of_getElem? (i := 8) rfl) rfl⟩
def mdX4_keep : MD := (yX4_keep, cX4_keep, 4, none, 0, 0, 0)
set_option maxRecDepth 20000 in
theorem okX4_keep : MOk (mdX4_keep) 2 := ⟨tb_in (t3_in (List.mem_of_getElem? (i := 121) rfl)) rfl, tb_in (t1_in (List.mem_of_getElem? (i := 5) rfl)) rfl, ⟨by decide, by decide, by decide +kernel⟩, by decide⟩
set_option maxRecDepth 20000 in
theorem inX4_keep : Cond.instanceMethod (mY (mdX4_keep)) ∈ tblG := tb_in (t3_in (List.mem_of_getElem? (i := 120) rfl)) rfl
set_option maxRecDepth 20000 in
theorem viX4_keep : MVi (mdX4_keep) := ⟨inX4_keep, tp_in (List.mem_of_getElem? (i := 10) rfl) rfl⟩
def mdX4_readDeed : MD := (yX4_readDeed, cX4_readDeed, 2, some .boolean, 4, 0, 0)
set_option maxRecDepth 20000 in
theorem okX4_readDeed : MOk (mdX4_readDeed) 1 := ⟨tb_in (t3_in (List.mem_of_getElem? (i := 161) rfl)) rfl, tb_in (t1_in (List.mem_of_getElem? (i := 5) rfl)) rfl, ⟨by decide, by decide, by decide +kernel⟩, by decide⟩
set_option maxRecDepth 20000 in
theorem inX4_readDeed : Cond.instanceMethod (mY (mdX4_readDeed)) ∈ tblG := tb_in (t3_in (List.mem_of_getElem? (i := 160) rfl)) rfl
set_option maxRecDepth 20000 in
theorem viX4_readDeed : MVi (mdX4_readDeed) := ⟨inX4_readDeed, tp_in (List.mem_of_getElem? (i := 20) rfl) rfl⟩
def mdX4_readNumber : MD := (yX4_readNumber, cX4_readNumber, 4, some .boolean, 1, 0, 0)
set_option maxRecDepth 20000 in
theorem okX4_readNumber : MOk (mdX4_readNumber) 3 := ⟨tb_in (t3_in (List.mem_of_getElem? (i := 165) rfl)) rfl, tb_in (t1_in (List.mem_of_getElem? (i := 5) rfl)) rfl, ⟨by decide, by decide, by decide +kernel⟩, by decide⟩
set_option maxRecDepth 20000 in
theorem inX4_readNumber : Cond.instanceMethod (mY (mdX4_readNumber)) ∈ tblG := tb_in (t3_in (List.mem_of_getElem? (i := 164) rfl)) rfl
set_option maxRecDepth 20000 in
theorem viX4_readNumber : MVi (mdX4_readNumber) := ⟨inX4_readNumber, tp_in (List.mem_of_getElem? (i := 21) rfl) rfl⟩
def mdX4_readCorner : MD := (yX4_readCorner, cX4_readCorner, 2, some .boolean, 2, 0, 0)
set_option maxRecDepth 20000 in
theorem okX4_readCorner : MOk (mdX4_readCorner) 1 := ⟨tb_in (t3_in (List.mem_of_getElem? (i := 169) rfl)) rfl, tb_in (t1_in (List.mem_of_getElem? (i := 5) rfl)) rfl, ⟨by decide, by decide, by decide +kernel⟩, by decide⟩
set_option maxRecDepth 20000 in
theorem inX4_readCorner : Cond.instanceMethod (mY (mdX4_readCorner)) ∈ tblG := tb_in (t3_in (List.mem_of_getElem? (i := 168) rfl)) rfl
set_option maxRecDepth 20000 in
theorem viX4_readCorner : MVi (mdX4_readCorner) := ⟨inX4_readCorner, tp_in (List.mem_of_getElem? (i := 22) rfl) rfl⟩
def mdX4_readFacing : MD := (yX4_readFacing, cX4_readFacing, 1, some .boolean, 2, 0, 0)
set_option maxRecDepth 20000 in
theorem okX4_readFacing : MOk (mdX4_readFacing) 0 := ⟨tb_in (t3_in (List.mem_of_getElem? (i := 173) rfl)) rfl, tb_in (t1_in (List.mem_of_getElem? (i := 5) rfl)) rfl, ⟨by decide, by decide, by decide +kernel⟩, by decide⟩
set_option maxRecDepth 20000 in
theorem inX4_readFacing : Cond.instanceMethod (mY (mdX4_readFacing)) ∈ tblG := tb_in (t3_in (List.mem_of_getElem? (i := 172) rfl)) rfl
set_option maxRecDepth 20000 in
theorem viX4_readFacing : MVi (mdX4_readFacing) := ⟨inX4_readFacing, tp_in (List.mem_of_getElem? (i := 23) rfl) rfl⟩
def mdX4_readWord : MD := (yX4_readWord, cX4_readWord, 2, some .boolean, 1, 0, 0)
set_option maxRecDepth 20000 in
theorem okX4_readWord : MOk (mdX4_readWord) 1 := ⟨tb_in (t3_in (List.mem_of_getElem? (i := 149) rfl)) rfl, tb_in (t1_in (List.mem_of_getElem? (i := 5) rfl)) rfl, ⟨by decide, by decide, by decide +kernel⟩, by decide⟩
set_option maxRecDepth 20000 in
theorem inX4_readWord : Cond.instanceMethod (mY (mdX4_readWord)) ∈ tblG := tb_in (t3_in (List.mem_of_getElem? (i := 148) rfl)) rfl
set_option maxRecDepth 20000 in
theorem viX4_readWord : MVi (mdX4_readWord) := ⟨inX4_readWord, tp_in (List.mem_of_getElem? (i := 17) rfl) rfl⟩
def mdX4_readSign : MD := (yX4_readSign, cX4_readSign, 2, some .boolean, 1, 0, 0)
set_option maxRecDepth 20000 in
theorem okX4_readSign : MOk (mdX4_readSign) 1 := ⟨tb_in (t3_in (List.mem_of_getElem? (i := 153) rfl)) rfl, tb_in (t1_in (List.mem_of_getElem? (i := 5) rfl)) rfl, ⟨by decide, by decide, by decide +kernel⟩, by decide⟩
set_option maxRecDepth 20000 in
theorem inX4_readSign : Cond.instanceMethod (mY (mdX4_readSign)) ∈ tblG := tb_in (t3_in (List.mem_of_getElem? (i := 152) rfl)) rfl
set_option maxRecDepth 20000 in
theorem viX4_readSign : MVi (mdX4_readSign) := ⟨inX4_readSign, tp_in (List.mem_of_getElem? (i := 18) rfl) rfl⟩
def mdX4_isSign : MD := (yX4_isSign, cX4_isSign, 2, some .boolean, 0, 0, 0)
set_option maxRecDepth 20000 in
theorem okX4_isSign : MOk (mdX4_isSign) 1 := ⟨tb_in (t3_in (List.mem_of_getElem? (i := 145) rfl)) rfl, tb_in (t1_in (List.mem_of_getElem? (i := 5) rfl)) rfl, ⟨by decide, by decide, by decide +kernel⟩, by decide⟩
set_option maxRecDepth 20000 in
theorem inX4_isSign : Cond.instanceMethod (mY (mdX4_isSign)) ∈ tblG := tb_in (t3_in (List.mem_of_getElem? (i := 144) rfl)) rfl
set_option maxRecDepth 20000 in
theorem viX4_isSign : MVi (mdX4_isSign) := ⟨inX4_isSign, tp_in (List.mem_of_getElem? (i := 16) rfl) rfl⟩
def mdX4_readSideTo : MD := (yX4_readSideTo, cX4_readSideTo, 2, some .boolean, 1, 0, 0)
set_option maxRecDepth 20000 in
theorem okX4_readSideTo : MOk (mdX4_readSideTo) 1 := ⟨tb_in (t3_in (List.mem_of_getElem? (i := 185) rfl)) rfl, tb_in (t1_in (List.mem_of_getElem? (i := 5) rfl)) rfl, ⟨by decide, by decide, by decide +kernel⟩, by decide⟩
set_option maxRecDepth 20000 in
theorem inX4_readSideTo : Cond.instanceMethod (mY (mdX4_readSideTo)) ∈ tblG := tb_in (t3_in (List.mem_of_getElem? (i := 184) rfl)) rfl
set_option maxRecDepth 20000 in
theorem viX4_readSideTo : MVi (mdX4_readSideTo) := ⟨inX4_readSideTo, tp_in (List.mem_of_getElem? (i := 26) rfl) rfl⟩
def mdX4_readTurns : MD := (yX4_readTurns, cX4_readTurns, 5, some .boolean, 3, 0, 0)
set_option maxRecDepth 20000 in
theorem okX4_readTurns : MOk (mdX4_readTurns) 0 := ⟨tb_in (t3_in (List.mem_of_getElem? (i := 177) rfl)) rfl, tb_in (t1_in (List.mem_of_getElem? (i := 5) rfl)) rfl, ⟨by decide, by decide, by decide +kernel⟩, by decide⟩
set_option maxRecDepth 20000 in
theorem inX4_readTurns : Cond.instanceMethod (mY (mdX4_readTurns)) ∈ tblG := tb_in (t3_in (List.mem_of_getElem? (i := 176) rfl)) rfl
set_option maxRecDepth 20000 in
theorem viX4_readTurns : MVi (mdX4_readTurns) := ⟨inX4_readTurns, tp_in (List.mem_of_getElem? (i := 24) rfl) rfl⟩
def mdX4_readTurn : MD := (yX4_readTurn, cX4_readTurn, 5, some .int, 2, 0, 0)
set_option maxRecDepth 20000 in
theorem okX4_readTurn : MOk (mdX4_readTurn) 1 := ⟨tb_in (t3_in (List.mem_of_getElem? (i := 181) rfl)) rfl, tb_in (t1_in (List.mem_of_getElem? (i := 5) rfl)) rfl, ⟨by decide, by decide, by decide +kernel⟩, by decide⟩
set_option maxRecDepth 20000 in
theorem inX4_readTurn : Cond.instanceMethod (mY (mdX4_readTurn)) ∈ tblG := tb_in (t3_in (List.mem_of_getElem? (i := 180) rfl)) rfl
set_option maxRecDepth 20000 in
theorem viX4_readTurn : MVi (mdX4_readTurn) := ⟨inX4_readTurn, tp_in (List.mem_of_getElem? (i := 25) rfl) rfl⟩
def mdX4_beginLaw : MD := (yX4_beginLaw, cX4_beginLaw, 2, some .boolean, 0, 0, 0)
set_option maxRecDepth 20000 in
theorem okX4_beginLaw : MOk (mdX4_beginLaw) 1 := ⟨tb_in (t3_in (List.mem_of_getElem? (i := 125) rfl)) rfl, tb_in (t1_in (List.mem_of_getElem? (i := 5) rfl)) rfl, ⟨by decide, by decide, by decide +kernel⟩, by decide⟩
set_option maxRecDepth 20000 in
theorem inX4_beginLaw : Cond.instanceMethod (mY (mdX4_beginLaw)) ∈ tblG := tb_in (t3_in (List.mem_of_getElem? (i := 124) rfl)) rfl
set_option maxRecDepth 20000 in
theorem viX4_beginLaw : MVi (mdX4_beginLaw) := ⟨inX4_beginLaw, tp_in (List.mem_of_getElem? (i := 11) rfl) rfl⟩
def mdX4_endLaw : MD := (yX4_endLaw, cX4_endLaw, 2, some .boolean, 0, 0, 0)
set_option maxRecDepth 20000 in
theorem okX4_endLaw : MOk (mdX4_endLaw) 1 := ⟨tb_in (t3_in (List.mem_of_getElem? (i := 157) rfl)) rfl, tb_in (t1_in (List.mem_of_getElem? (i := 5) rfl)) rfl, ⟨by decide, by decide, by decide +kernel⟩, by decide⟩
set_option maxRecDepth 20000 in
theorem inX4_endLaw : Cond.instanceMethod (mY (mdX4_endLaw)) ∈ tblG := tb_in (t3_in (List.mem_of_getElem? (i := 156) rfl)) rfl
set_option maxRecDepth 20000 in
theorem viX4_endLaw : MVi (mdX4_endLaw) := ⟨inX4_endLaw, tp_in (List.mem_of_getElem? (i := 19) rfl) rfl⟩
def mdX4_emit : MD := (yX4_emit, cX4_emit, 2, some .boolean, 0, 0, 0)
set_option maxRecDepth 20000 in
theorem okX4_emit : MOk (mdX4_emit) 1 := ⟨tb_in (t3_in (List.mem_of_getElem? (i := 141) rfl)) rfl, tb_in (t1_in (List.mem_of_getElem? (i := 5) rfl)) rfl, ⟨by decide, by decide, by decide +kernel⟩, by decide⟩
set_option maxRecDepth 20000 in
theorem inX4_emit : Cond.instanceMethod (mY (mdX4_emit)) ∈ tblG := tb_in (t3_in (List.mem_of_getElem? (i := 140) rfl)) rfl
set_option maxRecDepth 20000 in
theorem viX4_emit : MVi (mdX4_emit) := ⟨inX4_emit, tp_in (List.mem_of_getElem? (i := 15) rfl) rfl⟩
def mdX4_readSum (v : Nat) : MD := (yX4_readSum, cX4_readSum, 5, some .boolean, v, 0, 0)
set_option maxRecDepth 20000 in
theorem okX4_readSum (v : Nat) : MOk (mdX4_readSum v) 1 := ⟨tb_in (t3_in (List.mem_of_getElem? (i := 129) rfl)) rfl, tb_in (t1_in (List.mem_of_getElem? (i := 5) rfl)) rfl, ⟨by show yX4_readSum.cls ≠ "java/lang/invoke/MethodHandle"; decide, by show yX4_readSum.cls ≠ "java/lang/invoke/VarHandle"; decide, by show (parseMethodDescriptor yX4_readSum.desc).map (fun d => d.parameters.length) = some 1; decide +kernel⟩, by show 5 ≤ 45; decide⟩
set_option maxRecDepth 20000 in
theorem inX4_readSum (v : Nat) : Cond.instanceMethod (mY (mdX4_readSum v)) ∈ tblG := tb_in (t3_in (List.mem_of_getElem? (i := 128) rfl)) rfl
set_option maxRecDepth 20000 in
theorem viX4_readSum (v : Nat) : MVi (mdX4_readSum v) := ⟨inX4_readSum v, tp_in (List.mem_of_getElem? (i := 12) rfl) rfl⟩
def mdX4_readProduct (v : Nat) : MD := (yX4_readProduct, cX4_readProduct, 5, some .boolean, v, 0, 0)
set_option maxRecDepth 20000 in
theorem okX4_readProduct (v : Nat) : MOk (mdX4_readProduct v) 1 := ⟨tb_in (t3_in (List.mem_of_getElem? (i := 133) rfl)) rfl, tb_in (t1_in (List.mem_of_getElem? (i := 5) rfl)) rfl, ⟨by show yX4_readProduct.cls ≠ "java/lang/invoke/MethodHandle"; decide, by show yX4_readProduct.cls ≠ "java/lang/invoke/VarHandle"; decide, by show (parseMethodDescriptor yX4_readProduct.desc).map (fun d => d.parameters.length) = some 1; decide +kernel⟩, by show 5 ≤ 45; decide⟩
set_option maxRecDepth 20000 in
theorem inX4_readProduct (v : Nat) : Cond.instanceMethod (mY (mdX4_readProduct v)) ∈ tblG := tb_in (t3_in (List.mem_of_getElem? (i := 132) rfl)) rfl
set_option maxRecDepth 20000 in
theorem viX4_readProduct (v : Nat) : MVi (mdX4_readProduct v) := ⟨inX4_readProduct v, tp_in (List.mem_of_getElem? (i := 13) rfl) rfl⟩
def mdX4_readOne (v : Nat) : MD := (yX4_readOne, cX4_readOne, 4, some .boolean, v, 0, 0)
set_option maxRecDepth 20000 in
theorem okX4_readOne (v : Nat) : MOk (mdX4_readOne v) 1 := ⟨tb_in (t3_in (List.mem_of_getElem? (i := 137) rfl)) rfl, tb_in (t1_in (List.mem_of_getElem? (i := 5) rfl)) rfl, ⟨by show yX4_readOne.cls ≠ "java/lang/invoke/MethodHandle"; decide, by show yX4_readOne.cls ≠ "java/lang/invoke/VarHandle"; decide, by show (parseMethodDescriptor yX4_readOne.desc).map (fun d => d.parameters.length) = some 1; decide +kernel⟩, by show 4 ≤ 45; decide⟩
set_option maxRecDepth 20000 in
theorem inX4_readOne (v : Nat) : Cond.instanceMethod (mY (mdX4_readOne v)) ∈ tblG := tb_in (t3_in (List.mem_of_getElem? (i := 136) rfl)) rfl
set_option maxRecDepth 20000 in
theorem viX4_readOne (v : Nat) : MVi (mdX4_readOne v) := ⟨inX4_readOne v, tp_in (List.mem_of_getElem? (i := 14) rfl) rfl⟩
def mdX5_init : MD := (yX5_init, cX5_init, 5, none, 0, 0, 0)
set_option maxRecDepth 20000 in
theorem okX5_init : MOk (mdX5_init) 4 := ⟨tb_in (t3_in (List.mem_of_getElem? (i := 208) rfl)) rfl, tb_in (t1_in (List.mem_of_getElem? (i := 19) rfl)) rfl, ⟨by decide, by decide, by decide +kernel⟩, by decide⟩
set_option maxRecDepth 20000 in
theorem inX5_init : Cond.instanceMethod (mY (mdX5_init)) ∈ tblG := tb_in (t3_in (List.mem_of_getElem? (i := 207) rfl)) rfl
def mdX5_rules : MD := (yX5_rules, cX5_rules, 2, some .boolean, 0, 0, 0)
set_option maxRecDepth 20000 in
theorem okX5_rules : MOk (mdX5_rules) 1 := ⟨tb_in (t4_in (List.mem_of_getElem? (i := 50) rfl)) rfl, tb_in (t1_in (List.mem_of_getElem? (i := 19) rfl)) rfl, ⟨by decide, by decide, by decide +kernel⟩, by decide⟩
set_option maxRecDepth 20000 in
theorem inX5_rules : Cond.instanceMethod (mY (mdX5_rules)) ∈ tblG := tb_in (t4_in (List.mem_of_getElem? (i := 48) rfl)) rfl
set_option maxRecDepth 20000 in
theorem viX5_rules : MVi (mdX5_rules) := ⟨inX5_rules, tb_in (t4_in (List.mem_of_getElem? (i := 49) rfl)) rfl⟩
def mdX5_value : MD := (yX5_value, cX5_value, 8, some .int, 2, 0, 0)
set_option maxRecDepth 20000 in
theorem okX5_value : MOk (mdX5_value) 3 := ⟨tb_in (t4_in (List.mem_of_getElem? (i := 63) rfl)) rfl, tb_in (t1_in (List.mem_of_getElem? (i := 19) rfl)) rfl, ⟨by decide, by decide, by decide +kernel⟩, by decide⟩
set_option maxRecDepth 20000 in
theorem inX5_value : Cond.instanceMethod (mY (mdX5_value)) ∈ tblG := tb_in (t4_in (List.mem_of_getElem? (i := 61) rfl)) rfl
set_option maxRecDepth 20000 in
theorem viX5_value : MVi (mdX5_value) := ⟨inX5_value, tb_in (t4_in (List.mem_of_getElem? (i := 62) rfl)) rfl⟩
def mdX5_ofTwo : MD := (yX5_ofTwo, cX5_ofTwo, 7, some .int, 1, 0, 0)
set_option maxRecDepth 20000 in
theorem okX5_ofTwo : MOk (mdX5_ofTwo) 3 := ⟨tb_in (t4_in (List.mem_of_getElem? (i := 68) rfl)) rfl, tb_in (t1_in (List.mem_of_getElem? (i := 19) rfl)) rfl, ⟨by decide, by decide, by decide +kernel⟩, by decide⟩
set_option maxRecDepth 20000 in
theorem stX5_ofTwo : MSt (mdX5_ofTwo) := tb_in (t4_in (List.mem_of_getElem? (i := 67) rfl)) rfl
def mdX6_init : MD := (yX6_init, cX6_init, 1, none, 1, 6, 244)
set_option maxRecDepth 20000 in
theorem okX6_init : MOk (mdX6_init) 0 := ⟨tb_in (t1_in (List.mem_of_getElem? (i := 34) rfl)) rfl, tb_in (t1_in (List.mem_of_getElem? (i := 2) rfl)) rfl, ⟨by decide, by decide, by decide +kernel⟩, by decide⟩
set_option maxRecDepth 20000 in
theorem inX6_init : Cond.instanceMethod (mY (mdX6_init)) ∈ tblG := tb_in (t1_in (List.mem_of_getElem? (i := 33) rfl)) rfl
def mdX6_copyFrom : MD := (yX6_copyFrom, cX6_copyFrom, 3, none, 0, 0, 0)
set_option maxRecDepth 20000 in
theorem okX6_copyFrom : MOk (mdX6_copyFrom) 1 := ⟨tb_in (t6_in (List.mem_of_getElem? (i := 58) rfl)) rfl, tb_in (t1_in (List.mem_of_getElem? (i := 2) rfl)) rfl, ⟨by decide, by decide, by decide +kernel⟩, by decide⟩
set_option maxRecDepth 20000 in
theorem inX6_copyFrom : Cond.instanceMethod (mY (mdX6_copyFrom)) ∈ tblG := tb_in (t6_in (List.mem_of_getElem? (i := 56) rfl)) rfl
set_option maxRecDepth 20000 in
theorem viX6_copyFrom : MVi (mdX6_copyFrom) := ⟨inX6_copyFrom, tb_in (t6_in (List.mem_of_getElem? (i := 57) rfl)) rfl⟩
def mdX6_hasCorner : MD := (yX6_hasCorner, cX6_hasCorner, 2, some .boolean, 0, 0, 0)
set_option maxRecDepth 20000 in
theorem okX6_hasCorner : MOk (mdX6_hasCorner) 1 := ⟨tb_in (t2_in (List.mem_of_getElem? (i := 200) rfl)) rfl, tb_in (t1_in (List.mem_of_getElem? (i := 2) rfl)) rfl, ⟨by decide, by decide, by decide +kernel⟩, by decide⟩
set_option maxRecDepth 20000 in
theorem inX6_hasCorner : Cond.instanceMethod (mY (mdX6_hasCorner)) ∈ tblG := tb_in (t2_in (List.mem_of_getElem? (i := 198) rfl)) rfl
set_option maxRecDepth 20000 in
theorem viX6_hasCorner : MVi (mdX6_hasCorner) := ⟨inX6_hasCorner, tb_in (t2_in (List.mem_of_getElem? (i := 199) rfl)) rfl⟩
def mdX6_hasTeller : MD := (yX6_hasTeller, cX6_hasTeller, 2, some .boolean, 0, 0, 0)
set_option maxRecDepth 20000 in
theorem okX6_hasTeller : MOk (mdX6_hasTeller) 1 := ⟨tb_in (t2_in (List.mem_of_getElem? (i := 234) rfl)) rfl, tb_in (t1_in (List.mem_of_getElem? (i := 2) rfl)) rfl, ⟨by decide, by decide, by decide +kernel⟩, by decide⟩
set_option maxRecDepth 20000 in
theorem inX6_hasTeller : Cond.instanceMethod (mY (mdX6_hasTeller)) ∈ tblG := tb_in (t2_in (List.mem_of_getElem? (i := 232) rfl)) rfl
set_option maxRecDepth 20000 in
theorem viX6_hasTeller : MVi (mdX6_hasTeller) := ⟨inX6_hasTeller, tb_in (t2_in (List.mem_of_getElem? (i := 233) rfl)) rfl⟩
def mdX6_hasTelling : MD := (yX6_hasTelling, cX6_hasTelling, 2, some .boolean, 0, 0, 0)
set_option maxRecDepth 20000 in
theorem okX6_hasTelling : MOk (mdX6_hasTelling) 1 := ⟨tb_in (t4_in (List.mem_of_getElem? (i := 141) rfl)) rfl, tb_in (t1_in (List.mem_of_getElem? (i := 2) rfl)) rfl, ⟨by decide, by decide, by decide +kernel⟩, by decide⟩
set_option maxRecDepth 20000 in
theorem inX6_hasTelling : Cond.instanceMethod (mY (mdX6_hasTelling)) ∈ tblG := tb_in (t4_in (List.mem_of_getElem? (i := 139) rfl)) rfl
set_option maxRecDepth 20000 in
theorem viX6_hasTelling : MVi (mdX6_hasTelling) := ⟨inX6_hasTelling, tb_in (t4_in (List.mem_of_getElem? (i := 140) rfl)) rfl⟩
def mdX6_isSet : MD := (yX6_isSet, cX6_isSet, 3, some .boolean, 1, 0, 0)
set_option maxRecDepth 20000 in
theorem okX6_isSet : MOk (mdX6_isSet) 2 := ⟨tb_in (t5_in (List.mem_of_getElem? (i := 58) rfl)) rfl, tb_in (t1_in (List.mem_of_getElem? (i := 2) rfl)) rfl, ⟨by decide, by decide, by decide +kernel⟩, by decide⟩
set_option maxRecDepth 20000 in
theorem inX6_isSet : Cond.instanceMethod (mY (mdX6_isSet)) ∈ tblG := tb_in (t5_in (List.mem_of_getElem? (i := 56) rfl)) rfl
set_option maxRecDepth 20000 in
theorem viX6_isSet : MVi (mdX6_isSet) := ⟨inX6_isSet, tb_in (t5_in (List.mem_of_getElem? (i := 57) rfl)) rfl⟩
def mdX6_sightOf : MD := (yX6_sightOf, cX6_sightOf, 2, some .int, 0, 0, 0)
set_option maxRecDepth 20000 in
theorem okX6_sightOf : MOk (mdX6_sightOf) 1 := ⟨tb_in (t4_in (List.mem_of_getElem? (i := 59) rfl)) rfl, tb_in (t1_in (List.mem_of_getElem? (i := 2) rfl)) rfl, ⟨by decide, by decide, by decide +kernel⟩, by decide⟩
set_option maxRecDepth 20000 in
theorem inX6_sightOf : Cond.instanceMethod (mY (mdX6_sightOf)) ∈ tblG := tb_in (t4_in (List.mem_of_getElem? (i := 57) rfl)) rfl
set_option maxRecDepth 20000 in
theorem viX6_sightOf : MVi (mdX6_sightOf) := ⟨inX6_sightOf, tb_in (t4_in (List.mem_of_getElem? (i := 58) rfl)) rfl⟩
def mdX6_ahead : MD := (yX6_ahead, cX6_ahead, 3, some .int, 0, 0, 0)
set_option maxRecDepth 20000 in
theorem okX6_ahead : MOk (mdX6_ahead) 2 := ⟨tb_in (t4_in (List.mem_of_getElem? (i := 29) rfl)) rfl, tb_in (t1_in (List.mem_of_getElem? (i := 2) rfl)) rfl, ⟨by decide, by decide, by decide +kernel⟩, by decide⟩
set_option maxRecDepth 20000 in
theorem inX6_ahead : Cond.instanceMethod (mY (mdX6_ahead)) ∈ tblG := tb_in (t4_in (List.mem_of_getElem? (i := 27) rfl)) rfl
set_option maxRecDepth 20000 in
theorem viX6_ahead : MVi (mdX6_ahead) := ⟨inX6_ahead, tb_in (t4_in (List.mem_of_getElem? (i := 28) rfl)) rfl⟩
def mdX6_laneAt : MD := (yX6_laneAt, cX6_laneAt, 3, some .int, 0, 0, 0)
set_option maxRecDepth 20000 in
theorem okX6_laneAt : MOk (mdX6_laneAt) 2 := ⟨tb_in (t4_in (List.mem_of_getElem? (i := 54) rfl)) rfl, tb_in (t1_in (List.mem_of_getElem? (i := 2) rfl)) rfl, ⟨by decide, by decide, by decide +kernel⟩, by decide⟩
set_option maxRecDepth 20000 in
theorem inX6_laneAt : Cond.instanceMethod (mY (mdX6_laneAt)) ∈ tblG := tb_in (t4_in (List.mem_of_getElem? (i := 52) rfl)) rfl
set_option maxRecDepth 20000 in
theorem viX6_laneAt : MVi (mdX6_laneAt) := ⟨inX6_laneAt, tb_in (t4_in (List.mem_of_getElem? (i := 53) rfl)) rfl⟩
def mdX6_counts : MD := (yX6_counts, cX6_counts, 5, some .boolean, 0, 0, 0)
set_option maxRecDepth 20000 in
theorem okX6_counts : MOk (mdX6_counts) 3 := ⟨tb_in (t4_in (List.mem_of_getElem? (i := 176) rfl)) rfl, tb_in (t1_in (List.mem_of_getElem? (i := 2) rfl)) rfl, ⟨by decide, by decide, by decide +kernel⟩, by decide⟩
set_option maxRecDepth 20000 in
theorem inX6_counts : Cond.instanceMethod (mY (mdX6_counts)) ∈ tblG := tb_in (t4_in (List.mem_of_getElem? (i := 174) rfl)) rfl
set_option maxRecDepth 20000 in
theorem viX6_counts : MVi (mdX6_counts) := ⟨inX6_counts, tb_in (t4_in (List.mem_of_getElem? (i := 175) rfl)) rfl⟩
def mdX6_hasOther : MD := (yX6_hasOther, cX6_hasOther, 5, some .boolean, 1, 0, 0)
set_option maxRecDepth 20000 in
theorem okX6_hasOther : MOk (mdX6_hasOther) 3 := ⟨tb_in (t5_in (List.mem_of_getElem? (i := 235) rfl)) rfl, tb_in (t1_in (List.mem_of_getElem? (i := 2) rfl)) rfl, ⟨by decide, by decide, by decide +kernel⟩, by decide⟩
set_option maxRecDepth 20000 in
theorem inX6_hasOther : Cond.instanceMethod (mY (mdX6_hasOther)) ∈ tblG := tb_in (t5_in (List.mem_of_getElem? (i := 233) rfl)) rfl
set_option maxRecDepth 20000 in
theorem viX6_hasOther : MVi (mdX6_hasOther) := ⟨inX6_hasOther, tb_in (t5_in (List.mem_of_getElem? (i := 234) rfl)) rfl⟩
def mdX6_tellerCell : MD := (yX6_tellerCell, cX6_tellerCell, 3, some .int, 0, 0, 0)
set_option maxRecDepth 20000 in
theorem okX6_tellerCell : MOk (mdX6_tellerCell) 2 := ⟨tb_in (t4_in (List.mem_of_getElem? (i := 115) rfl)) rfl, tb_in (t1_in (List.mem_of_getElem? (i := 2) rfl)) rfl, ⟨by decide, by decide, by decide +kernel⟩, by decide⟩
set_option maxRecDepth 20000 in
theorem inX6_tellerCell : Cond.instanceMethod (mY (mdX6_tellerCell)) ∈ tblG := tb_in (t4_in (List.mem_of_getElem? (i := 113) rfl)) rfl
set_option maxRecDepth 20000 in
theorem viX6_tellerCell : MVi (mdX6_tellerCell) := ⟨inX6_tellerCell, tb_in (t4_in (List.mem_of_getElem? (i := 114) rfl)) rfl⟩
def mdX6_tellingCell : MD := (yX6_tellingCell, cX6_tellingCell, 3, some .int, 0, 0, 0)
set_option maxRecDepth 20000 in
theorem okX6_tellingCell : MOk (mdX6_tellingCell) 2 := ⟨tb_in (t4_in (List.mem_of_getElem? (i := 153) rfl)) rfl, tb_in (t1_in (List.mem_of_getElem? (i := 2) rfl)) rfl, ⟨by decide, by decide, by decide +kernel⟩, by decide⟩
set_option maxRecDepth 20000 in
theorem inX6_tellingCell : Cond.instanceMethod (mY (mdX6_tellingCell)) ∈ tblG := tb_in (t4_in (List.mem_of_getElem? (i := 151) rfl)) rfl
set_option maxRecDepth 20000 in
theorem viX6_tellingCell : MVi (mdX6_tellingCell) := ⟨inX6_tellingCell, tb_in (t4_in (List.mem_of_getElem? (i := 152) rfl)) rfl⟩
def mdX6_turnOf : MD := (yX6_turnOf, cX6_turnOf, 3, some .int, 1, 0, 0)
set_option maxRecDepth 20000 in
theorem okX6_turnOf : MOk (mdX6_turnOf) 2 := ⟨tb_in (t4_in (List.mem_of_getElem? (i := 157) rfl)) rfl, tb_in (t1_in (List.mem_of_getElem? (i := 2) rfl)) rfl, ⟨by decide, by decide, by decide +kernel⟩, by decide⟩
set_option maxRecDepth 20000 in
theorem inX6_turnOf : Cond.instanceMethod (mY (mdX6_turnOf)) ∈ tblG := tb_in (t4_in (List.mem_of_getElem? (i := 155) rfl)) rfl
set_option maxRecDepth 20000 in
theorem viX6_turnOf : MVi (mdX6_turnOf) := ⟨inX6_turnOf, tb_in (t4_in (List.mem_of_getElem? (i := 156) rfl)) rfl⟩
def mdX6_textOf : MD := (yX6_textOf, cX6_textOf, 2, some (.object "SecondLeft$Text"), 0, 0, 0)
set_option maxRecDepth 20000 in
theorem okX6_textOf : MOk (mdX6_textOf) 1 := ⟨tb_in (t4_in (List.mem_of_getElem? (i := 46) rfl)) rfl, tb_in (t1_in (List.mem_of_getElem? (i := 2) rfl)) rfl, ⟨by decide, by decide, by decide +kernel⟩, by decide⟩
set_option maxRecDepth 20000 in
theorem inX6_textOf : Cond.instanceMethod (mY (mdX6_textOf)) ∈ tblG := tb_in (t4_in (List.mem_of_getElem? (i := 44) rfl)) rfl
set_option maxRecDepth 20000 in
theorem viX6_textOf : MVi (mdX6_textOf) := ⟨inX6_textOf, tb_in (t4_in (List.mem_of_getElem? (i := 45) rfl)) rfl⟩
def mdX6_addCorner : MD := (yX6_addCorner, cX6_addCorner, 2, some .int, 0, 0, 0)
set_option maxRecDepth 20000 in
theorem okX6_addCorner : MOk (mdX6_addCorner) 1 := ⟨tb_in (t2_in (List.mem_of_getElem? (i := 188) rfl)) rfl, tb_in (t1_in (List.mem_of_getElem? (i := 2) rfl)) rfl, ⟨by decide, by decide, by decide +kernel⟩, by decide⟩
set_option maxRecDepth 20000 in
theorem inX6_addCorner : Cond.instanceMethod (mY (mdX6_addCorner)) ∈ tblG := tb_in (t2_in (List.mem_of_getElem? (i := 186) rfl)) rfl
set_option maxRecDepth 20000 in
theorem viX6_addCorner : MVi (mdX6_addCorner) := ⟨inX6_addCorner, tb_in (t2_in (List.mem_of_getElem? (i := 187) rfl)) rfl⟩
def mdX6_addStreet : MD := (yX6_addStreet, cX6_addStreet, 7, some .boolean, 1, 0, 0)
set_option maxRecDepth 20000 in
theorem okX6_addStreet : MOk (mdX6_addStreet) 4 := ⟨tb_in (t2_in (List.mem_of_getElem? (i := 196) rfl)) rfl, tb_in (t1_in (List.mem_of_getElem? (i := 2) rfl)) rfl, ⟨by decide, by decide, by decide +kernel⟩, by decide⟩
set_option maxRecDepth 20000 in
theorem inX6_addStreet : Cond.instanceMethod (mY (mdX6_addStreet)) ∈ tblG := tb_in (t2_in (List.mem_of_getElem? (i := 194) rfl)) rfl
set_option maxRecDepth 20000 in
theorem viX6_addStreet : MVi (mdX6_addStreet) := ⟨inX6_addStreet, tb_in (t2_in (List.mem_of_getElem? (i := 195) rfl)) rfl⟩
def mdX6_setGoal : MD := (yX6_setGoal, cX6_setGoal, 2, some .boolean, 1, 0, 0)
set_option maxRecDepth 20000 in
theorem okX6_setGoal : MOk (mdX6_setGoal) 1 := ⟨tb_in (t2_in (List.mem_of_getElem? (i := 211) rfl)) rfl, tb_in (t1_in (List.mem_of_getElem? (i := 2) rfl)) rfl, ⟨by decide, by decide, by decide +kernel⟩, by decide⟩
set_option maxRecDepth 20000 in
theorem inX6_setGoal : Cond.instanceMethod (mY (mdX6_setGoal)) ∈ tblG := tb_in (t2_in (List.mem_of_getElem? (i := 209) rfl)) rfl
set_option maxRecDepth 20000 in
theorem viX6_setGoal : MVi (mdX6_setGoal) := ⟨inX6_setGoal, tb_in (t2_in (List.mem_of_getElem? (i := 210) rfl)) rfl⟩
def mdX6_addTeller : MD := (yX6_addTeller, cX6_addTeller, 6, some .int, 1, 0, 0)
set_option maxRecDepth 20000 in
theorem okX6_addTeller : MOk (mdX6_addTeller) 4 := ⟨tb_in (t2_in (List.mem_of_getElem? (i := 219) rfl)) rfl, tb_in (t1_in (List.mem_of_getElem? (i := 2) rfl)) rfl, ⟨by decide, by decide, by decide +kernel⟩, by decide⟩
set_option maxRecDepth 20000 in
theorem inX6_addTeller : Cond.instanceMethod (mY (mdX6_addTeller)) ∈ tblG := tb_in (t2_in (List.mem_of_getElem? (i := 217) rfl)) rfl
set_option maxRecDepth 20000 in
theorem viX6_addTeller : MVi (mdX6_addTeller) := ⟨inX6_addTeller, tb_in (t2_in (List.mem_of_getElem? (i := 218) rfl)) rfl⟩
def mdX6_addTelling : MD := (yX6_addTelling, cX6_addTelling, 8, some .int, 2, 0, 0)
set_option maxRecDepth 20000 in
theorem okX6_addTelling : MOk (mdX6_addTelling) 4 := ⟨tb_in (t2_in (List.mem_of_getElem? (i := 230) rfl)) rfl, tb_in (t1_in (List.mem_of_getElem? (i := 2) rfl)) rfl, ⟨by decide, by decide, by decide +kernel⟩, by decide⟩
set_option maxRecDepth 20000 in
theorem inX6_addTelling : Cond.instanceMethod (mY (mdX6_addTelling)) ∈ tblG := tb_in (t2_in (List.mem_of_getElem? (i := 228) rfl)) rfl
set_option maxRecDepth 20000 in
theorem viX6_addTelling : MVi (mdX6_addTelling) := ⟨inX6_addTelling, tb_in (t2_in (List.mem_of_getElem? (i := 229) rfl)) rfl⟩
def mdX6_putTurns : MD := (yX6_putTurns, cX6_putTurns, 6, some .int, 1, 0, 0)
set_option maxRecDepth 20000 in
theorem okX6_putTurns : MOk (mdX6_putTurns) 2 := ⟨tb_in (t2_in (List.mem_of_getElem? (i := 238) rfl)) rfl, tb_in (t1_in (List.mem_of_getElem? (i := 2) rfl)) rfl, ⟨by decide, by decide, by decide +kernel⟩, by decide⟩
set_option maxRecDepth 20000 in
theorem inX6_putTurns : Cond.instanceMethod (mY (mdX6_putTurns)) ∈ tblG := tb_in (t2_in (List.mem_of_getElem? (i := 237) rfl)) rfl
set_option maxRecDepth 20000 in
theorem viX6_putTurns : MVi (mdX6_putTurns) := ⟨inX6_putTurns, tp_in (List.mem_of_getElem? (i := 0) rfl) rfl⟩
def mdX6_isTurn : MD := (yX6_isTurn, cX6_isTurn, 4, some .boolean, 0, 0, 0)
set_option maxRecDepth 20000 in
theorem okX6_isTurn : MOk (mdX6_isTurn) 1 := ⟨tb_in (t3_in (List.mem_of_getElem? (i := 3) rfl)) rfl, tb_in (t1_in (List.mem_of_getElem? (i := 2) rfl)) rfl, ⟨by decide, by decide, by decide +kernel⟩, by decide⟩
set_option maxRecDepth 20000 in
theorem stX6_isTurn : MSt (mdX6_isTurn) := tb_in (t3_in (List.mem_of_getElem? (i := 2) rfl)) rfl
def mdX6_addText : MD := (yX6_addText, cX6_addText, 2, some .int, 0, 0, 0)
set_option maxRecDepth 20000 in
theorem okX6_addText : MOk (mdX6_addText) 1 := ⟨tb_in (t3_in (List.mem_of_getElem? (i := 229) rfl)) rfl, tb_in (t1_in (List.mem_of_getElem? (i := 2) rfl)) rfl, ⟨by decide, by decide, by decide +kernel⟩, by decide⟩
set_option maxRecDepth 20000 in
theorem inX6_addText : Cond.instanceMethod (mY (mdX6_addText)) ∈ tblG := tb_in (t3_in (List.mem_of_getElem? (i := 227) rfl)) rfl
set_option maxRecDepth 20000 in
theorem viX6_addText : MVi (mdX6_addText) := ⟨inX6_addText, tb_in (t3_in (List.mem_of_getElem? (i := 228) rfl)) rfl⟩
def mdX7_init : MD := (yX7_init, cX7_init, 5, none, 0, 5, 335)
set_option maxRecDepth 20000 in
theorem okX7_init : MOk (mdX7_init) 4 := ⟨tb_in (t2_in (List.mem_of_getElem? (i := 45) rfl)) rfl, tb_in (t1_in (List.mem_of_getElem? (i := 10) rfl)) rfl, ⟨by decide, by decide, by decide +kernel⟩, by decide⟩
set_option maxRecDepth 20000 in
theorem inX7_init : Cond.instanceMethod (mY (mdX7_init)) ∈ tblG := tb_in (t2_in (List.mem_of_getElem? (i := 44) rfl)) rfl
def mdX7_setPaces : MD := (yX7_setPaces, cX7_setPaces, 2, none, 4, 0, 0)
set_option maxRecDepth 20000 in
theorem okX7_setPaces : MOk (mdX7_setPaces) 0 := ⟨tb_in (t5_in (List.mem_of_getElem? (i := 105) rfl)) rfl, tb_in (t1_in (List.mem_of_getElem? (i := 10) rfl)) rfl, ⟨by decide, by decide, by decide +kernel⟩, by decide⟩
set_option maxRecDepth 20000 in
theorem inX7_setPaces : Cond.instanceMethod (mY (mdX7_setPaces)) ∈ tblG := tb_in (t5_in (List.mem_of_getElem? (i := 103) rfl)) rfl
set_option maxRecDepth 20000 in
theorem viX7_setPaces : MVi (mdX7_setPaces) := ⟨inX7_setPaces, tb_in (t5_in (List.mem_of_getElem? (i := 104) rfl)) rfl⟩
def mdX7_secondsTo : MD := (yX7_secondsTo, cX7_secondsTo, 3, some .int, 1, 0, 0)
set_option maxRecDepth 20000 in
theorem okX7_secondsTo : MOk (mdX7_secondsTo) 2 := ⟨tb_in (t5_in (List.mem_of_getElem? (i := 120) rfl)) rfl, tb_in (t1_in (List.mem_of_getElem? (i := 10) rfl)) rfl, ⟨by decide, by decide, by decide +kernel⟩, by decide⟩
set_option maxRecDepth 20000 in
theorem inX7_secondsTo : Cond.instanceMethod (mY (mdX7_secondsTo)) ∈ tblG := tb_in (t5_in (List.mem_of_getElem? (i := 118) rfl)) rfl
set_option maxRecDepth 20000 in
theorem viX7_secondsTo : MVi (mdX7_secondsTo) := ⟨inX7_secondsTo, tb_in (t5_in (List.mem_of_getElem? (i := 119) rfl)) rfl⟩
def mdX7_measure : MD := (yX7_measure, cX7_measure, 5, none, 3, 0, 0)
set_option maxRecDepth 20000 in
theorem okX7_measure : MOk (mdX7_measure) 1 := ⟨tb_in (t5_in (List.mem_of_getElem? (i := 111) rfl)) rfl, tb_in (t1_in (List.mem_of_getElem? (i := 10) rfl)) rfl, ⟨by decide, by decide, by decide +kernel⟩, by decide⟩
set_option maxRecDepth 20000 in
theorem inX7_measure : Cond.instanceMethod (mY (mdX7_measure)) ∈ tblG := tb_in (t5_in (List.mem_of_getElem? (i := 109) rfl)) rfl
set_option maxRecDepth 20000 in
theorem viX7_measure : MVi (mdX7_measure) := ⟨inX7_measure, tb_in (t5_in (List.mem_of_getElem? (i := 110) rfl)) rfl⟩
def mdX7_nearest : MD := (yX7_nearest, cX7_nearest, 6, some .int, 2, 0, 0)
set_option maxRecDepth 20000 in
theorem okX7_nearest : MOk (mdX7_nearest) 2 := ⟨tb_in (t5_in (List.mem_of_getElem? (i := 116) rfl)) rfl, tb_in (t1_in (List.mem_of_getElem? (i := 10) rfl)) rfl, ⟨by decide, by decide, by decide +kernel⟩, by decide⟩
set_option maxRecDepth 20000 in
theorem inX7_nearest : Cond.instanceMethod (mY (mdX7_nearest)) ∈ tblG := tb_in (t5_in (List.mem_of_getElem? (i := 115) rfl)) rfl
set_option maxRecDepth 20000 in
theorem viX7_nearest : MVi (mdX7_nearest) := ⟨inX7_nearest, tp_in (List.mem_of_getElem? (i := 37) rfl) rfl⟩
def mdX7_lookAround : MD := (yX7_lookAround, cX7_lookAround, 7, none, 2, 0, 0)
set_option maxRecDepth 20000 in
theorem okX7_lookAround : MOk (mdX7_lookAround) 2 := ⟨tb_in (t5_in (List.mem_of_getElem? (i := 124) rfl)) rfl, tb_in (t1_in (List.mem_of_getElem? (i := 10) rfl)) rfl, ⟨by decide, by decide, by decide +kernel⟩, by decide⟩
set_option maxRecDepth 20000 in
theorem inX7_lookAround : Cond.instanceMethod (mY (mdX7_lookAround)) ∈ tblG := tb_in (t5_in (List.mem_of_getElem? (i := 123) rfl)) rfl
set_option maxRecDepth 20000 in
theorem viX7_lookAround : MVi (mdX7_lookAround) := ⟨inX7_lookAround, tp_in (List.mem_of_getElem? (i := 38) rfl) rfl⟩
def mdX7_plan : MD := (yX7_plan, cX7_plan, 4, some .boolean, 21, 0, 0)
set_option maxRecDepth 20000 in
theorem okX7_plan : MOk (mdX7_plan) 1 := ⟨tb_in (t5_in (List.mem_of_getElem? (i := 133) rfl)) rfl, tb_in (t1_in (List.mem_of_getElem? (i := 10) rfl)) rfl, ⟨by decide, by decide, by decide +kernel⟩, by decide⟩
set_option maxRecDepth 20000 in
theorem inX7_plan : Cond.instanceMethod (mY (mdX7_plan)) ∈ tblG := tb_in (t5_in (List.mem_of_getElem? (i := 131) rfl)) rfl
set_option maxRecDepth 20000 in
theorem viX7_plan : MVi (mdX7_plan) := ⟨inX7_plan, tb_in (t5_in (List.mem_of_getElem? (i := 132) rfl)) rfl⟩
def mdX7_listPlaces : MD := (yX7_listPlaces, cX7_listPlaces, 2, some .boolean, 0, 0, 0)
set_option maxRecDepth 20000 in
theorem okX7_listPlaces : MOk (mdX7_listPlaces) 0 := ⟨tb_in (t5_in (List.mem_of_getElem? (i := 138) rfl)) rfl, tb_in (t1_in (List.mem_of_getElem? (i := 10) rfl)) rfl, ⟨by decide, by decide, by decide +kernel⟩, by decide⟩
set_option maxRecDepth 20000 in
theorem inX7_listPlaces : Cond.instanceMethod (mY (mdX7_listPlaces)) ∈ tblG := tb_in (t5_in (List.mem_of_getElem? (i := 137) rfl)) rfl
set_option maxRecDepth 20000 in
theorem viX7_listPlaces : MVi (mdX7_listPlaces) := ⟨inX7_listPlaces, tp_in (List.mem_of_getElem? (i := 39) rfl) rfl⟩
def mdX7_tryOrders (v : Nat) : MD := (yX7_tryOrders, cX7_tryOrders, 12, none, v, 0, 0)
set_option maxRecDepth 20000 in
theorem okX7_tryOrders (v : Nat) : MOk (mdX7_tryOrders v) 5 := ⟨tb_in (t5_in (List.mem_of_getElem? (i := 145) rfl)) rfl, tb_in (t1_in (List.mem_of_getElem? (i := 10) rfl)) rfl, ⟨by show yX7_tryOrders.cls ≠ "java/lang/invoke/MethodHandle"; decide, by show yX7_tryOrders.cls ≠ "java/lang/invoke/VarHandle"; decide, by show (parseMethodDescriptor yX7_tryOrders.desc).map (fun d => d.parameters.length) = some 5; decide +kernel⟩, by show 12 ≤ 45; decide⟩
set_option maxRecDepth 20000 in
theorem inX7_tryOrders (v : Nat) : Cond.instanceMethod (mY (mdX7_tryOrders v)) ∈ tblG := tb_in (t5_in (List.mem_of_getElem? (i := 144) rfl)) rfl
set_option maxRecDepth 20000 in
theorem viX7_tryOrders (v : Nat) : MVi (mdX7_tryOrders v) := ⟨inX7_tryOrders v, tp_in (List.mem_of_getElem? (i := 40) rfl) rfl⟩
def mdX7_soonestTeller : MD := (yX7_soonestTeller, cX7_soonestTeller, 8, some .int, 5, 0, 0)
set_option maxRecDepth 20000 in
theorem okX7_soonestTeller : MOk (mdX7_soonestTeller) 0 := ⟨tb_in (t5_in (List.mem_of_getElem? (i := 154) rfl)) rfl, tb_in (t1_in (List.mem_of_getElem? (i := 10) rfl)) rfl, ⟨by decide, by decide, by decide +kernel⟩, by decide⟩
set_option maxRecDepth 20000 in
theorem inX7_soonestTeller : Cond.instanceMethod (mY (mdX7_soonestTeller)) ∈ tblG := tb_in (t5_in (List.mem_of_getElem? (i := 152) rfl)) rfl
set_option maxRecDepth 20000 in
theorem viX7_soonestTeller : MVi (mdX7_soonestTeller) := ⟨inX7_soonestTeller, tb_in (t5_in (List.mem_of_getElem? (i := 153) rfl)) rfl⟩
def mdX7_sumFrom : MD := (yX7_sumFrom, cX7_sumFrom, 5, some .long, 4, 0, 0)
set_option maxRecDepth 20000 in
theorem okX7_sumFrom : MOk (mdX7_sumFrom) 1 := ⟨tb_in (t5_in (List.mem_of_getElem? (i := 160) rfl)) rfl, tb_in (t1_in (List.mem_of_getElem? (i := 10) rfl)) rfl, ⟨by decide, by decide, by decide +kernel⟩, by decide⟩
set_option maxRecDepth 20000 in
theorem inX7_sumFrom : Cond.instanceMethod (mY (mdX7_sumFrom)) ∈ tblG := tb_in (t5_in (List.mem_of_getElem? (i := 159) rfl)) rfl
set_option maxRecDepth 20000 in
theorem viX7_sumFrom : MVi (mdX7_sumFrom) := ⟨inX7_sumFrom, tp_in (List.mem_of_getElem? (i := 41) rfl) rfl⟩
def mdX8_init : MD := (yX8_init, cX8_init, 1, none, 0, 2, 310)
set_option maxRecDepth 20000 in
theorem okX8_init : MOk (mdX8_init) 0 := ⟨tb_in (t1_in (List.mem_of_getElem? (i := 99) rfl)) rfl, tb_in (t1_in (List.mem_of_getElem? (i := 4) rfl)) rfl, ⟨by decide, by decide, by decide +kernel⟩, by decide⟩
set_option maxRecDepth 20000 in
theorem inX8_init : Cond.instanceMethod (mY (mdX8_init)) ∈ tblG := tb_in (t1_in (List.mem_of_getElem? (i := 98) rfl)) rfl
def mdX8_copyFrom : MD := (yX8_copyFrom, cX8_copyFrom, 2, none, 0, 0, 0)
set_option maxRecDepth 20000 in
theorem okX8_copyFrom : MOk (mdX8_copyFrom) 1 := ⟨tb_in (t6_in (List.mem_of_getElem? (i := 63) rfl)) rfl, tb_in (t1_in (List.mem_of_getElem? (i := 4) rfl)) rfl, ⟨by decide, by decide, by decide +kernel⟩, by decide⟩
set_option maxRecDepth 20000 in
theorem inX8_copyFrom : Cond.instanceMethod (mY (mdX8_copyFrom)) ∈ tblG := tb_in (t6_in (List.mem_of_getElem? (i := 61) rfl)) rfl
set_option maxRecDepth 20000 in
theorem viX8_copyFrom : MVi (mdX8_copyFrom) := ⟨inX8_copyFrom, tb_in (t6_in (List.mem_of_getElem? (i := 62) rfl)) rfl⟩
def mdX8_keepStep : MD := (yX8_keepStep, cX8_keepStep, 1, none, 1, 0, 0)
set_option maxRecDepth 20000 in
theorem okX8_keepStep : MOk (mdX8_keepStep) 0 := ⟨tb_in (t4_in (List.mem_of_getElem? (i := 11) rfl)) rfl, tb_in (t1_in (List.mem_of_getElem? (i := 4) rfl)) rfl, ⟨by decide, by decide, by decide +kernel⟩, by decide⟩
set_option maxRecDepth 20000 in
theorem inX8_keepStep : Cond.instanceMethod (mY (mdX8_keepStep)) ∈ tblG := tb_in (t4_in (List.mem_of_getElem? (i := 9) rfl)) rfl
set_option maxRecDepth 20000 in
theorem viX8_keepStep : MVi (mdX8_keepStep) := ⟨inX8_keepStep, tb_in (t4_in (List.mem_of_getElem? (i := 10) rfl)) rfl⟩
def mdX8_takeBack : MD := (yX8_takeBack, cX8_takeBack, 1, some .int, 0, 0, 0)
set_option maxRecDepth 20000 in
theorem okX8_takeBack : MOk (mdX8_takeBack) 0 := ⟨tb_in (t4_in (List.mem_of_getElem? (i := 226) rfl)) rfl, tb_in (t1_in (List.mem_of_getElem? (i := 4) rfl)) rfl, ⟨by decide, by decide, by decide +kernel⟩, by decide⟩
set_option maxRecDepth 20000 in
theorem inX8_takeBack : Cond.instanceMethod (mY (mdX8_takeBack)) ∈ tblG := tb_in (t4_in (List.mem_of_getElem? (i := 224) rfl)) rfl
set_option maxRecDepth 20000 in
theorem viX8_takeBack : MVi (mdX8_takeBack) := ⟨inX8_takeBack, tb_in (t4_in (List.mem_of_getElem? (i := 225) rfl)) rfl⟩
def mdX9_init : MD := (yX9_init, cX9_init, 5, none, 0, 0, 0)
set_option maxRecDepth 20000 in
theorem okX9_init : MOk (mdX9_init) 4 := ⟨tb_in (t1_in (List.mem_of_getElem? (i := 229) rfl)) rfl, tb_in (t1_in (List.mem_of_getElem? (i := 8) rfl)) rfl, ⟨by decide, by decide, by decide +kernel⟩, by decide⟩
set_option maxRecDepth 20000 in
theorem inX9_init : Cond.instanceMethod (mY (mdX9_init)) ∈ tblG := tb_in (t1_in (List.mem_of_getElem? (i := 228) rfl)) rfl
def mdX9_isThere : MD := (yX9_isThere, cX9_isThere, 1, some .boolean, 0, 0, 0)
set_option maxRecDepth 20000 in
theorem okX9_isThere : MOk (mdX9_isThere) 0 := ⟨tb_in (t4_in (List.mem_of_getElem? (i := 95) rfl)) rfl, tb_in (t1_in (List.mem_of_getElem? (i := 8) rfl)) rfl, ⟨by decide, by decide, by decide +kernel⟩, by decide⟩
set_option maxRecDepth 20000 in
theorem inX9_isThere : Cond.instanceMethod (mY (mdX9_isThere)) ∈ tblG := tb_in (t4_in (List.mem_of_getElem? (i := 94) rfl)) rfl
set_option maxRecDepth 20000 in
theorem viX9_isThere : MVi (mdX9_isThere) := ⟨inX9_isThere, tp_in (List.mem_of_getElem? (i := 29) rfl) rfl⟩
def mdX9_begins : MD := (yX9_begins, cX9_begins, 3, some .boolean, 2, 0, 0)
set_option maxRecDepth 20000 in
theorem okX9_begins : MOk (mdX9_begins) 2 := ⟨tb_in (t4_in (List.mem_of_getElem? (i := 5) rfl)) rfl, tb_in (t1_in (List.mem_of_getElem? (i := 8) rfl)) rfl, ⟨by decide, by decide, by decide +kernel⟩, by decide⟩
set_option maxRecDepth 20000 in
theorem inX9_begins : Cond.instanceMethod (mY (mdX9_begins)) ∈ tblG := tb_in (t4_in (List.mem_of_getElem? (i := 3) rfl)) rfl
set_option maxRecDepth 20000 in
theorem viX9_begins : MVi (mdX9_begins) := ⟨inX9_begins, tb_in (t4_in (List.mem_of_getElem? (i := 4) rfl)) rfl⟩
def mdX9_place : MD := (yX9_place, cX9_place, 4, none, 0, 0, 0)
set_option maxRecDepth 20000 in
theorem okX9_place : MOk (mdX9_place) 3 := ⟨tb_in (t4_in (List.mem_of_getElem? (i := 17) rfl)) rfl, tb_in (t1_in (List.mem_of_getElem? (i := 8) rfl)) rfl, ⟨by decide, by decide, by decide +kernel⟩, by decide⟩
set_option maxRecDepth 20000 in
theorem inX9_place : Cond.instanceMethod (mY (mdX9_place)) ∈ tblG := tb_in (t4_in (List.mem_of_getElem? (i := 16) rfl)) rfl
set_option maxRecDepth 20000 in
theorem viX9_place : MVi (mdX9_place) := ⟨inX9_place, tp_in (List.mem_of_getElem? (i := 27) rfl) rfl⟩
def mdX9_canGo : MD := (yX9_canGo, cX9_canGo, 4, some .boolean, 1, 0, 0)
set_option maxRecDepth 20000 in
theorem okX9_canGo : MOk (mdX9_canGo) 1 := ⟨tb_in (t4_in (List.mem_of_getElem? (i := 25) rfl)) rfl, tb_in (t1_in (List.mem_of_getElem? (i := 8) rfl)) rfl, ⟨by decide, by decide, by decide +kernel⟩, by decide⟩
set_option maxRecDepth 20000 in
theorem inX9_canGo : Cond.instanceMethod (mY (mdX9_canGo)) ∈ tblG := tb_in (t4_in (List.mem_of_getElem? (i := 23) rfl)) rfl
set_option maxRecDepth 20000 in
theorem viX9_canGo : MVi (mdX9_canGo) := ⟨inX9_canGo, tb_in (t4_in (List.mem_of_getElem? (i := 24) rfl)) rfl⟩
def mdX9_goes : MD := (yX9_goes, cX9_goes, 3, some .boolean, 5, 0, 0)
set_option maxRecDepth 20000 in
theorem okX9_goes : MOk (mdX9_goes) 1 := ⟨tb_in (t4_in (List.mem_of_getElem? (i := 33) rfl)) rfl, tb_in (t1_in (List.mem_of_getElem? (i := 8) rfl)) rfl, ⟨by decide, by decide, by decide +kernel⟩, by decide⟩
set_option maxRecDepth 20000 in
theorem inX9_goes : Cond.instanceMethod (mY (mdX9_goes)) ∈ tblG := tb_in (t4_in (List.mem_of_getElem? (i := 31) rfl)) rfl
set_option maxRecDepth 20000 in
theorem viX9_goes : MVi (mdX9_goes) := ⟨inX9_goes, tb_in (t4_in (List.mem_of_getElem? (i := 32) rfl)) rfl⟩
def mdX9_goAhead : MD := (yX9_goAhead, cX9_goAhead, 3, none, 4, 0, 0)
set_option maxRecDepth 20000 in
theorem okX9_goAhead : MOk (mdX9_goAhead) 0 := ⟨tb_in (t4_in (List.mem_of_getElem? (i := 38) rfl)) rfl, tb_in (t1_in (List.mem_of_getElem? (i := 8) rfl)) rfl, ⟨by decide, by decide, by decide +kernel⟩, by decide⟩
set_option maxRecDepth 20000 in
theorem inX9_goAhead : Cond.instanceMethod (mY (mdX9_goAhead)) ∈ tblG := tb_in (t4_in (List.mem_of_getElem? (i := 37) rfl)) rfl
set_option maxRecDepth 20000 in
theorem viX9_goAhead : MVi (mdX9_goAhead) := ⟨inX9_goAhead, tp_in (List.mem_of_getElem? (i := 28) rfl) rfl⟩
def mdX9_turns : MD := (yX9_turns, cX9_turns, 2, some .int, 2, 0, 0)
set_option maxRecDepth 20000 in
theorem okX9_turns : MOk (mdX9_turns) 1 := ⟨tb_in (t4_in (List.mem_of_getElem? (i := 91) rfl)) rfl, tb_in (t1_in (List.mem_of_getElem? (i := 8) rfl)) rfl, ⟨by decide, by decide, by decide +kernel⟩, by decide⟩
set_option maxRecDepth 20000 in
theorem inX9_turns : Cond.instanceMethod (mY (mdX9_turns)) ∈ tblG := tb_in (t4_in (List.mem_of_getElem? (i := 89) rfl)) rfl
set_option maxRecDepth 20000 in
theorem viX9_turns : MVi (mdX9_turns) := ⟨inX9_turns, tb_in (t4_in (List.mem_of_getElem? (i := 90) rfl)) rfl⟩
def mdX9_faceTo : MD := (yX9_faceTo, cX9_faceTo, 3, none, 1, 0, 0)
set_option maxRecDepth 20000 in
theorem okX9_faceTo : MOk (mdX9_faceTo) 1 := ⟨tb_in (t4_in (List.mem_of_getElem? (i := 99) rfl)) rfl, tb_in (t1_in (List.mem_of_getElem? (i := 8) rfl)) rfl, ⟨by decide, by decide, by decide +kernel⟩, by decide⟩
set_option maxRecDepth 20000 in
theorem inX9_faceTo : Cond.instanceMethod (mY (mdX9_faceTo)) ∈ tblG := tb_in (t4_in (List.mem_of_getElem? (i := 98) rfl)) rfl
set_option maxRecDepth 20000 in
theorem viX9_faceTo : MVi (mdX9_faceTo) := ⟨inX9_faceTo, tp_in (List.mem_of_getElem? (i := 30) rfl) rfl⟩
def mdX9_asks : MD := (yX9_asks, cX9_asks, 2, some .int, 5, 0, 0)
set_option maxRecDepth 20000 in
theorem okX9_asks : MOk (mdX9_asks) 1 := ⟨tb_in (t4_in (List.mem_of_getElem? (i := 110) rfl)) rfl, tb_in (t1_in (List.mem_of_getElem? (i := 8) rfl)) rfl, ⟨by decide, by decide, by decide +kernel⟩, by decide⟩
set_option maxRecDepth 20000 in
theorem inX9_asks : Cond.instanceMethod (mY (mdX9_asks)) ∈ tblG := tb_in (t4_in (List.mem_of_getElem? (i := 108) rfl)) rfl
set_option maxRecDepth 20000 in
theorem viX9_asks : MVi (mdX9_asks) := ⟨inX9_asks, tb_in (t4_in (List.mem_of_getElem? (i := 109) rfl)) rfl⟩
def mdX9_hear : MD := (yX9_hear, cX9_hear, 2, none, 4, 0, 0)
set_option maxRecDepth 20000 in
theorem okX9_hear : MOk (mdX9_hear) 1 := ⟨tb_in (t4_in (List.mem_of_getElem? (i := 119) rfl)) rfl, tb_in (t1_in (List.mem_of_getElem? (i := 8) rfl)) rfl, ⟨by decide, by decide, by decide +kernel⟩, by decide⟩
set_option maxRecDepth 20000 in
theorem inX9_hear : Cond.instanceMethod (mY (mdX9_hear)) ∈ tblG := tb_in (t4_in (List.mem_of_getElem? (i := 118) rfl)) rfl
set_option maxRecDepth 20000 in
theorem viX9_hear : MVi (mdX9_hear) := ⟨inX9_hear, tp_in (List.mem_of_getElem? (i := 31) rfl) rfl⟩
def mdX9_follows : MD := (yX9_follows, cX9_follows, 5, some .int, 4, 0, 0)
set_option maxRecDepth 20000 in
theorem okX9_follows : MOk (mdX9_follows) 1 := ⟨tb_in (t4_in (List.mem_of_getElem? (i := 137) rfl)) rfl, tb_in (t1_in (List.mem_of_getElem? (i := 8) rfl)) rfl, ⟨by decide, by decide, by decide +kernel⟩, by decide⟩
set_option maxRecDepth 20000 in
theorem inX9_follows : Cond.instanceMethod (mY (mdX9_follows)) ∈ tblG := tb_in (t4_in (List.mem_of_getElem? (i := 135) rfl)) rfl
set_option maxRecDepth 20000 in
theorem viX9_follows : MVi (mdX9_follows) := ⟨inX9_follows, tb_in (t4_in (List.mem_of_getElem? (i := 136) rfl)) rfl⟩
def mdX9_spendsDay : MD := (yX9_spendsDay, cX9_spendsDay, 5, some .int, 7, 0, 0)
set_option maxRecDepth 20000 in
theorem okX9_spendsDay : MOk (mdX9_spendsDay) 2 := ⟨tb_in (t4_in (List.mem_of_getElem? (i := 207) rfl)) rfl, tb_in (t1_in (List.mem_of_getElem? (i := 8) rfl)) rfl, ⟨by decide, by decide, by decide +kernel⟩, by decide⟩
set_option maxRecDepth 20000 in
theorem inX9_spendsDay : Cond.instanceMethod (mY (mdX9_spendsDay)) ∈ tblG := tb_in (t4_in (List.mem_of_getElem? (i := 205) rfl)) rfl
set_option maxRecDepth 20000 in
theorem viX9_spendsDay : MVi (mdX9_spendsDay) := ⟨inX9_spendsDay, tb_in (t4_in (List.mem_of_getElem? (i := 206) rfl)) rfl⟩
def mdX9_anew : MD := (yX9_anew, cX9_anew, 1, some .int, 0, 0, 0)
set_option maxRecDepth 20000 in
theorem okX9_anew : MOk (mdX9_anew) 1 := ⟨tb_in (t4_in (List.mem_of_getElem? (i := 210) rfl)) rfl, tb_in (t1_in (List.mem_of_getElem? (i := 8) rfl)) rfl, ⟨by decide, by decide, by decide +kernel⟩, by decide⟩
set_option maxRecDepth 20000 in
theorem stX9_anew : MSt (mdX9_anew) := tb_in (t4_in (List.mem_of_getElem? (i := 209) rfl)) rfl
def mdX9_drawn : MD := (yX9_drawn, cX9_drawn, 2, none, 6, 0, 0)
set_option maxRecDepth 20000 in
theorem okX9_drawn : MOk (mdX9_drawn) 1 := ⟨tb_in (t4_in (List.mem_of_getElem? (i := 214) rfl)) rfl, tb_in (t1_in (List.mem_of_getElem? (i := 8) rfl)) rfl, ⟨by decide, by decide, by decide +kernel⟩, by decide⟩
set_option maxRecDepth 20000 in
theorem inX9_drawn : Cond.instanceMethod (mY (mdX9_drawn)) ∈ tblG := tb_in (t4_in (List.mem_of_getElem? (i := 213) rfl)) rfl
set_option maxRecDepth 20000 in
theorem viX9_drawn : MVi (mdX9_drawn) := ⟨inX9_drawn, tp_in (List.mem_of_getElem? (i := 34) rfl) rfl⟩
def mdX9_hearLowest : MD := (yX9_hearLowest, cX9_hearLowest, 2, none, 5, 0, 0)
set_option maxRecDepth 20000 in
theorem okX9_hearLowest : MOk (mdX9_hearLowest) 0 := ⟨tb_in (t4_in (List.mem_of_getElem? (i := 218) rfl)) rfl, tb_in (t1_in (List.mem_of_getElem? (i := 8) rfl)) rfl, ⟨by decide, by decide, by decide +kernel⟩, by decide⟩
set_option maxRecDepth 20000 in
theorem inX9_hearLowest : Cond.instanceMethod (mY (mdX9_hearLowest)) ∈ tblG := tb_in (t4_in (List.mem_of_getElem? (i := 217) rfl)) rfl
set_option maxRecDepth 20000 in
theorem viX9_hearLowest : MVi (mdX9_hearLowest) := ⟨inX9_hearLowest, tp_in (List.mem_of_getElem? (i := 35) rfl) rfl⟩
def mdX9_plays : MD := (yX9_plays, cX9_plays, 3, some .int, 7, 0, 0)
set_option maxRecDepth 20000 in
theorem okX9_plays : MOk (mdX9_plays) 1 := ⟨tb_in (t4_in (List.mem_of_getElem? (i := 185) rfl)) rfl, tb_in (t1_in (List.mem_of_getElem? (i := 8) rfl)) rfl, ⟨by decide, by decide, by decide +kernel⟩, by decide⟩
set_option maxRecDepth 20000 in
theorem inX9_plays : Cond.instanceMethod (mY (mdX9_plays)) ∈ tblG := tb_in (t4_in (List.mem_of_getElem? (i := 183) rfl)) rfl
set_option maxRecDepth 20000 in
theorem viX9_plays : MVi (mdX9_plays) := ⟨inX9_plays, tb_in (t4_in (List.mem_of_getElem? (i := 184) rfl)) rfl⟩
def mdX9_does : MD := (yX9_does, cX9_does, 7, some .boolean, 6, 0, 0)
set_option maxRecDepth 20000 in
theorem okX9_does : MOk (mdX9_does) 2 := ⟨tb_in (t4_in (List.mem_of_getElem? (i := 189) rfl)) rfl, tb_in (t1_in (List.mem_of_getElem? (i := 8) rfl)) rfl, ⟨by decide, by decide, by decide +kernel⟩, by decide⟩
set_option maxRecDepth 20000 in
theorem inX9_does : Cond.instanceMethod (mY (mdX9_does)) ∈ tblG := tb_in (t4_in (List.mem_of_getElem? (i := 188) rfl)) rfl
set_option maxRecDepth 20000 in
theorem viX9_does : MVi (mdX9_does) := ⟨inX9_does, tp_in (List.mem_of_getElem? (i := 33) rfl) rfl⟩
def mdX10_init : MD := (yX10_init, cX10_init, 4, none, 0, 4, 40)
set_option maxRecDepth 20000 in
theorem okX10_init : MOk (mdX10_init) 3 := ⟨tb_in (t2_in (List.mem_of_getElem? (i := 8) rfl)) rfl, tb_in (t1_in (List.mem_of_getElem? (i := 9) rfl)) rfl, ⟨by decide, by decide, by decide +kernel⟩, by decide⟩
set_option maxRecDepth 20000 in
theorem inX10_init : Cond.instanceMethod (mY (mdX10_init)) ∈ tblG := tb_in (t2_in (List.mem_of_getElem? (i := 7) rfl)) rfl
def mdX10_setWeights : MD := (yX10_setWeights, cX10_setWeights, 6, none, 4, 0, 0)
set_option maxRecDepth 20000 in
theorem okX10_setWeights : MOk (mdX10_setWeights) 1 := ⟨tb_in (t5_in (List.mem_of_getElem? (i := 43) rfl)) rfl, tb_in (t1_in (List.mem_of_getElem? (i := 9) rfl)) rfl, ⟨by decide, by decide, by decide +kernel⟩, by decide⟩
set_option maxRecDepth 20000 in
theorem inX10_setWeights : Cond.instanceMethod (mY (mdX10_setWeights)) ∈ tblG := tb_in (t5_in (List.mem_of_getElem? (i := 42) rfl)) rfl
set_option maxRecDepth 20000 in
theorem viX10_setWeights : MVi (mdX10_setWeights) := ⟨inX10_setWeights, tp_in (List.mem_of_getElem? (i := 36) rfl) rfl⟩
def mdX10_weigh : MD := (yX10_weigh, cX10_weigh, 3, none, 5, 0, 0)
set_option maxRecDepth 20000 in
theorem okX10_weigh : MOk (mdX10_weigh) 1 := ⟨tb_in (t5_in (List.mem_of_getElem? (i := 39) rfl)) rfl, tb_in (t1_in (List.mem_of_getElem? (i := 9) rfl)) rfl, ⟨by decide, by decide, by decide +kernel⟩, by decide⟩
set_option maxRecDepth 20000 in
theorem inX10_weigh : Cond.instanceMethod (mY (mdX10_weigh)) ∈ tblG := tb_in (t5_in (List.mem_of_getElem? (i := 37) rfl)) rfl
set_option maxRecDepth 20000 in
theorem viX10_weigh : MVi (mdX10_weigh) := ⟨inX10_weigh, tb_in (t5_in (List.mem_of_getElem? (i := 38) rfl)) rfl⟩
def mdX10_weightTo : MD := (yX10_weightTo, cX10_weightTo, 5, some .int, 0, 0, 0)
set_option maxRecDepth 20000 in
theorem okX10_weightTo : MOk (mdX10_weightTo) 2 := ⟨tb_in (t5_in (List.mem_of_getElem? (i := 50) rfl)) rfl, tb_in (t1_in (List.mem_of_getElem? (i := 9) rfl)) rfl, ⟨by decide, by decide, by decide +kernel⟩, by decide⟩
set_option maxRecDepth 20000 in
theorem inX10_weightTo : Cond.instanceMethod (mY (mdX10_weightTo)) ∈ tblG := tb_in (t5_in (List.mem_of_getElem? (i := 48) rfl)) rfl
set_option maxRecDepth 20000 in
theorem viX10_weightTo : MVi (mdX10_weightTo) := ⟨inX10_weightTo, tb_in (t5_in (List.mem_of_getElem? (i := 49) rfl)) rfl⟩
def mdX10_multiply : MD := (yX10_multiply, cX10_multiply, 4, none, 6, 0, 0)
set_option maxRecDepth 20000 in
theorem okX10_multiply : MOk (mdX10_multiply) 1 := ⟨tb_in (t5_in (List.mem_of_getElem? (i := 69) rfl)) rfl, tb_in (t1_in (List.mem_of_getElem? (i := 9) rfl)) rfl, ⟨by decide, by decide, by decide +kernel⟩, by decide⟩
set_option maxRecDepth 20000 in
theorem inX10_multiply : Cond.instanceMethod (mY (mdX10_multiply)) ∈ tblG := tb_in (t5_in (List.mem_of_getElem? (i := 67) rfl)) rfl
set_option maxRecDepth 20000 in
theorem viX10_multiply : MVi (mdX10_multiply) := ⟨inX10_multiply, tb_in (t5_in (List.mem_of_getElem? (i := 68) rfl)) rfl⟩
def mdX10_listCorners : MD := (yX10_listCorners, cX10_listCorners, 3, none, 6, 0, 0)
set_option maxRecDepth 20000 in
theorem okX10_listCorners : MOk (mdX10_listCorners) 0 := ⟨tb_in (t5_in (List.mem_of_getElem? (i := 85) rfl)) rfl, tb_in (t1_in (List.mem_of_getElem? (i := 9) rfl)) rfl, ⟨by decide, by decide, by decide +kernel⟩, by decide⟩
set_option maxRecDepth 20000 in
theorem inX10_listCorners : Cond.instanceMethod (mY (mdX10_listCorners)) ∈ tblG := tb_in (t5_in (List.mem_of_getElem? (i := 83) rfl)) rfl
set_option maxRecDepth 20000 in
theorem viX10_listCorners : MVi (mdX10_listCorners) := ⟨inX10_listCorners, tb_in (t5_in (List.mem_of_getElem? (i := 84) rfl)) rfl⟩
def mdX10_thatReach : MD := (yX10_thatReach, cX10_thatReach, 4, some .int, 0, 0, 0)
set_option maxRecDepth 20000 in
theorem okX10_thatReach : MOk (mdX10_thatReach) 1 := ⟨tb_in (t5_in (List.mem_of_getElem? (i := 93) rfl)) rfl, tb_in (t1_in (List.mem_of_getElem? (i := 9) rfl)) rfl, ⟨by decide, by decide, by decide +kernel⟩, by decide⟩
set_option maxRecDepth 20000 in
theorem inX10_thatReach : Cond.instanceMethod (mY (mdX10_thatReach)) ∈ tblG := tb_in (t5_in (List.mem_of_getElem? (i := 91) rfl)) rfl
set_option maxRecDepth 20000 in
theorem viX10_thatReach : MVi (mdX10_thatReach) := ⟨inX10_thatReach, tb_in (t5_in (List.mem_of_getElem? (i := 92) rfl)) rfl⟩
def mdX10_safeWeight : MD := (yX10_safeWeight, cX10_safeWeight, 7, some .int, 5, 0, 0)
set_option maxRecDepth 20000 in
theorem okX10_safeWeight : MOk (mdX10_safeWeight) 2 := ⟨tb_in (t5_in (List.mem_of_getElem? (i := 168) rfl)) rfl, tb_in (t1_in (List.mem_of_getElem? (i := 9) rfl)) rfl, ⟨by decide, by decide, by decide +kernel⟩, by decide⟩
set_option maxRecDepth 20000 in
theorem inX10_safeWeight : Cond.instanceMethod (mY (mdX10_safeWeight)) ∈ tblG := tb_in (t5_in (List.mem_of_getElem? (i := 166) rfl)) rfl
set_option maxRecDepth 20000 in
theorem viX10_safeWeight : MVi (mdX10_safeWeight) := ⟨inX10_safeWeight, tb_in (t5_in (List.mem_of_getElem? (i := 167) rfl)) rfl⟩
def mdX11_init : MD := (yX11_init, cX11_init, 1, none, 2, 53, 6882)
set_option maxRecDepth 20000 in
theorem okX11_init : MOk (mdX11_init) 0 := ⟨tb_in (t1_in (List.mem_of_getElem? (i := 26) rfl)) rfl, tb_in (t1_in (List.mem_of_getElem? (i := 1) rfl)) rfl, ⟨by decide, by decide, by decide +kernel⟩, by decide⟩
set_option maxRecDepth 20000 in
theorem inX11_init : Cond.instanceMethod (mY (mdX11_init)) ∈ tblG := tb_in (t1_in (List.mem_of_getElem? (i := 25) rfl)) rfl
def mdX11_corner : MD := (yX11_corner, cX11_corner, 2, some .int, 1, 0, 0)
set_option maxRecDepth 20000 in
theorem okX11_corner : MOk (mdX11_corner) 1 := ⟨tb_in (t2_in (List.mem_of_getElem? (i := 184) rfl)) rfl, tb_in (t1_in (List.mem_of_getElem? (i := 1) rfl)) rfl, ⟨by decide, by decide, by decide +kernel⟩, by decide⟩
set_option maxRecDepth 20000 in
theorem inX11_corner : Cond.instanceMethod (mY (mdX11_corner)) ∈ tblG := tb_in (t2_in (List.mem_of_getElem? (i := 182) rfl)) rfl
set_option maxRecDepth 20000 in
theorem viX11_corner : MVi (mdX11_corner) := ⟨inX11_corner, tb_in (t2_in (List.mem_of_getElem? (i := 183) rfl)) rfl⟩
def mdX11_street : MD := (yX11_street, cX11_street, 5, some .boolean, 2, 0, 0)
set_option maxRecDepth 20000 in
theorem okX11_street : MOk (mdX11_street) 4 := ⟨tb_in (t2_in (List.mem_of_getElem? (i := 192) rfl)) rfl, tb_in (t1_in (List.mem_of_getElem? (i := 1) rfl)) rfl, ⟨by decide, by decide, by decide +kernel⟩, by decide⟩
set_option maxRecDepth 20000 in
theorem inX11_street : Cond.instanceMethod (mY (mdX11_street)) ∈ tblG := tb_in (t2_in (List.mem_of_getElem? (i := 190) rfl)) rfl
set_option maxRecDepth 20000 in
theorem viX11_street : MVi (mdX11_street) := ⟨inX11_street, tb_in (t2_in (List.mem_of_getElem? (i := 191) rfl)) rfl⟩
def mdX11_goal : MD := (yX11_goal, cX11_goal, 2, some .boolean, 2, 0, 0)
set_option maxRecDepth 20000 in
theorem okX11_goal : MOk (mdX11_goal) 1 := ⟨tb_in (t2_in (List.mem_of_getElem? (i := 207) rfl)) rfl, tb_in (t1_in (List.mem_of_getElem? (i := 1) rfl)) rfl, ⟨by decide, by decide, by decide +kernel⟩, by decide⟩
set_option maxRecDepth 20000 in
theorem inX11_goal : Cond.instanceMethod (mY (mdX11_goal)) ∈ tblG := tb_in (t2_in (List.mem_of_getElem? (i := 205) rfl)) rfl
set_option maxRecDepth 20000 in
theorem viX11_goal : MVi (mdX11_goal) := ⟨inX11_goal, tb_in (t2_in (List.mem_of_getElem? (i := 206) rfl)) rfl⟩
def mdX11_teller : MD := (yX11_teller, cX11_teller, 5, some .int, 2, 0, 0)
set_option maxRecDepth 20000 in
theorem okX11_teller : MOk (mdX11_teller) 4 := ⟨tb_in (t2_in (List.mem_of_getElem? (i := 215) rfl)) rfl, tb_in (t1_in (List.mem_of_getElem? (i := 1) rfl)) rfl, ⟨by decide, by decide, by decide +kernel⟩, by decide⟩
set_option maxRecDepth 20000 in
theorem inX11_teller : Cond.instanceMethod (mY (mdX11_teller)) ∈ tblG := tb_in (t2_in (List.mem_of_getElem? (i := 213) rfl)) rfl
set_option maxRecDepth 20000 in
theorem viX11_teller : MVi (mdX11_teller) := ⟨inX11_teller, tb_in (t2_in (List.mem_of_getElem? (i := 214) rfl)) rfl⟩
def mdX11_telling : MD := (yX11_telling, cX11_telling, 5, some .int, 3, 0, 0)
set_option maxRecDepth 20000 in
theorem okX11_telling : MOk (mdX11_telling) 4 := ⟨tb_in (t2_in (List.mem_of_getElem? (i := 226) rfl)) rfl, tb_in (t1_in (List.mem_of_getElem? (i := 1) rfl)) rfl, ⟨by decide, by decide, by decide +kernel⟩, by decide⟩
set_option maxRecDepth 20000 in
theorem inX11_telling : Cond.instanceMethod (mY (mdX11_telling)) ∈ tblG := tb_in (t2_in (List.mem_of_getElem? (i := 224) rfl)) rfl
set_option maxRecDepth 20000 in
theorem viX11_telling : MVi (mdX11_telling) := ⟨inX11_telling, tb_in (t2_in (List.mem_of_getElem? (i := 225) rfl)) rfl⟩
def mdX11_feed : MD := (yX11_feed, cX11_feed, 6, some .int, 1, 0, 0)
set_option maxRecDepth 20000 in
theorem okX11_feed : MOk (mdX11_feed) 5 := ⟨tb_in (t3_in (List.mem_of_getElem? (i := 7) rfl)) rfl, tb_in (t1_in (List.mem_of_getElem? (i := 1) rfl)) rfl, ⟨by decide, by decide, by decide +kernel⟩, by decide⟩
set_option maxRecDepth 20000 in
theorem inX11_feed : Cond.instanceMethod (mY (mdX11_feed)) ∈ tblG := tb_in (t3_in (List.mem_of_getElem? (i := 5) rfl)) rfl
set_option maxRecDepth 20000 in
theorem viX11_feed : MVi (mdX11_feed) := ⟨inX11_feed, tb_in (t3_in (List.mem_of_getElem? (i := 6) rfl)) rfl⟩
def mdX11_putBytes : MD := (yX11_putBytes, cX11_putBytes, 3, none, 0, 0, 0)
set_option maxRecDepth 20000 in
theorem okX11_putBytes : MOk (mdX11_putBytes) 1 := ⟨tb_in (t3_in (List.mem_of_getElem? (i := 11) rfl)) rfl, tb_in (t1_in (List.mem_of_getElem? (i := 1) rfl)) rfl, ⟨by decide, by decide, by decide +kernel⟩, by decide⟩
set_option maxRecDepth 20000 in
theorem inX11_putBytes : Cond.instanceMethod (mY (mdX11_putBytes)) ∈ tblG := tb_in (t3_in (List.mem_of_getElem? (i := 10) rfl)) rfl
set_option maxRecDepth 20000 in
theorem viX11_putBytes : MVi (mdX11_putBytes) := ⟨inX11_putBytes, tp_in (List.mem_of_getElem? (i := 1) rfl) rfl⟩
def mdX11_end : MD := (yX11_end, cX11_end, 2, some .int, 0, 0, 0)
set_option maxRecDepth 20000 in
theorem okX11_end : MOk (mdX11_end) 1 := ⟨tb_in (t3_in (List.mem_of_getElem? (i := 15) rfl)) rfl, tb_in (t1_in (List.mem_of_getElem? (i := 1) rfl)) rfl, ⟨by decide, by decide, by decide +kernel⟩, by decide⟩
set_option maxRecDepth 20000 in
theorem inX11_end : Cond.instanceMethod (mY (mdX11_end)) ∈ tblG := tb_in (t3_in (List.mem_of_getElem? (i := 13) rfl)) rfl
set_option maxRecDepth 20000 in
theorem viX11_end : MVi (mdX11_end) := ⟨inX11_end, tb_in (t3_in (List.mem_of_getElem? (i := 14) rfl)) rfl⟩
def mdX11_text : MD := (yX11_text, cX11_text, 2, some .int, 43, 4, 904)
set_option maxRecDepth 20000 in
theorem okX11_text : MOk (mdX11_text) 0 := ⟨tb_in (t3_in (List.mem_of_getElem? (i := 19) rfl)) rfl, tb_in (t1_in (List.mem_of_getElem? (i := 1) rfl)) rfl, ⟨by decide, by decide, by decide +kernel⟩, by decide⟩
set_option maxRecDepth 20000 in
theorem inX11_text : Cond.instanceMethod (mY (mdX11_text)) ∈ tblG := tb_in (t3_in (List.mem_of_getElem? (i := 17) rfl)) rfl
set_option maxRecDepth 20000 in
theorem viX11_text : MVi (mdX11_text) := ⟨inX11_text, tb_in (t3_in (List.mem_of_getElem? (i := 18) rfl)) rfl⟩
def mdX11_fault : MD := (yX11_fault, cX11_fault, 2, some .int, 0, 0, 0)
set_option maxRecDepth 20000 in
theorem okX11_fault : MOk (mdX11_fault) 1 := ⟨tb_in (t3_in (List.mem_of_getElem? (i := 233) rfl)) rfl, tb_in (t1_in (List.mem_of_getElem? (i := 1) rfl)) rfl, ⟨by decide, by decide, by decide +kernel⟩, by decide⟩
set_option maxRecDepth 20000 in
theorem inX11_fault : Cond.instanceMethod (mY (mdX11_fault)) ∈ tblG := tb_in (t3_in (List.mem_of_getElem? (i := 231) rfl)) rfl
set_option maxRecDepth 20000 in
theorem viX11_fault : MVi (mdX11_fault) := ⟨inX11_fault, tb_in (t3_in (List.mem_of_getElem? (i := 232) rfl)) rfl⟩
def mdX11_by : MD := (yX11_by, cX11_by, 2, some .boolean, 0, 0, 0)
set_option maxRecDepth 20000 in
theorem okX11_by : MOk (mdX11_by) 1 := ⟨tb_in (t3_in (List.mem_of_getElem? (i := 237) rfl)) rfl, tb_in (t1_in (List.mem_of_getElem? (i := 1) rfl)) rfl, ⟨by decide, by decide, by decide +kernel⟩, by decide⟩
set_option maxRecDepth 20000 in
theorem inX11_by : Cond.instanceMethod (mY (mdX11_by)) ∈ tblG := tb_in (t3_in (List.mem_of_getElem? (i := 235) rfl)) rfl
set_option maxRecDepth 20000 in
theorem viX11_by : MVi (mdX11_by) := ⟨inX11_by, tb_in (t3_in (List.mem_of_getElem? (i := 236) rfl)) rfl⟩
def mdX11_start : MD := (yX11_start, cX11_start, 3, some .boolean, 3, 0, 0)
set_option maxRecDepth 20000 in
theorem okX11_start : MOk (mdX11_start) 2 := ⟨tb_in (t4_in (List.mem_of_getElem? (i := 1) rfl)) rfl, tb_in (t1_in (List.mem_of_getElem? (i := 1) rfl)) rfl, ⟨by decide, by decide, by decide +kernel⟩, by decide⟩
set_option maxRecDepth 20000 in
theorem inX11_start : Cond.instanceMethod (mY (mdX11_start)) ∈ tblG := tb_in (t3_in (List.mem_of_getElem? (i := 239) rfl)) rfl
set_option maxRecDepth 20000 in
theorem viX11_start : MVi (mdX11_start) := ⟨inX11_start, tb_in (t4_in (List.mem_of_getElem? (i := 0) rfl)) rfl⟩
def mdX11_walk : MD := (yX11_walk, cX11_walk, 2, some .int, 6, 0, 0)
set_option maxRecDepth 20000 in
theorem okX11_walk : MOk (mdX11_walk) 1 := ⟨tb_in (t4_in (List.mem_of_getElem? (i := 21) rfl)) rfl, tb_in (t1_in (List.mem_of_getElem? (i := 1) rfl)) rfl, ⟨by decide, by decide, by decide +kernel⟩, by decide⟩
set_option maxRecDepth 20000 in
theorem inX11_walk : Cond.instanceMethod (mY (mdX11_walk)) ∈ tblG := tb_in (t4_in (List.mem_of_getElem? (i := 19) rfl)) rfl
set_option maxRecDepth 20000 in
theorem viX11_walk : MVi (mdX11_walk) := ⟨inX11_walk, tb_in (t4_in (List.mem_of_getElem? (i := 20) rfl)) rfl⟩
def mdX11_turn : MD := (yX11_turn, cX11_turn, 2, some .int, 3, 0, 0)
set_option maxRecDepth 20000 in
theorem okX11_turn : MOk (mdX11_turn) 1 := ⟨tb_in (t4_in (List.mem_of_getElem? (i := 87) rfl)) rfl, tb_in (t1_in (List.mem_of_getElem? (i := 1) rfl)) rfl, ⟨by decide, by decide, by decide +kernel⟩, by decide⟩
set_option maxRecDepth 20000 in
theorem inX11_turn : Cond.instanceMethod (mY (mdX11_turn)) ∈ tblG := tb_in (t4_in (List.mem_of_getElem? (i := 85) rfl)) rfl
set_option maxRecDepth 20000 in
theorem viX11_turn : MVi (mdX11_turn) := ⟨inX11_turn, tb_in (t4_in (List.mem_of_getElem? (i := 86) rfl)) rfl⟩
def mdX11_ask : MD := (yX11_ask, cX11_ask, 2, some .int, 6, 0, 0)
set_option maxRecDepth 20000 in
theorem okX11_ask : MOk (mdX11_ask) 1 := ⟨tb_in (t4_in (List.mem_of_getElem? (i := 106) rfl)) rfl, tb_in (t1_in (List.mem_of_getElem? (i := 1) rfl)) rfl, ⟨by decide, by decide, by decide +kernel⟩, by decide⟩
set_option maxRecDepth 20000 in
theorem inX11_ask : Cond.instanceMethod (mY (mdX11_ask)) ∈ tblG := tb_in (t4_in (List.mem_of_getElem? (i := 104) rfl)) rfl
set_option maxRecDepth 20000 in
theorem viX11_ask : MVi (mdX11_ask) := ⟨inX11_ask, tb_in (t4_in (List.mem_of_getElem? (i := 105) rfl)) rfl⟩
def mdX11_follow : MD := (yX11_follow, cX11_follow, 2, some .int, 5, 0, 0)
set_option maxRecDepth 20000 in
theorem okX11_follow : MOk (mdX11_follow) 1 := ⟨tb_in (t4_in (List.mem_of_getElem? (i := 133) rfl)) rfl, tb_in (t1_in (List.mem_of_getElem? (i := 1) rfl)) rfl, ⟨by decide, by decide, by decide +kernel⟩, by decide⟩
set_option maxRecDepth 20000 in
theorem inX11_follow : Cond.instanceMethod (mY (mdX11_follow)) ∈ tblG := tb_in (t4_in (List.mem_of_getElem? (i := 131) rfl)) rfl
set_option maxRecDepth 20000 in
theorem viX11_follow : MVi (mdX11_follow) := ⟨inX11_follow, tb_in (t4_in (List.mem_of_getElem? (i := 132) rfl)) rfl⟩
def mdX11_played : MD := (yX11_played, cX11_played, 3, some .int, 8, 0, 0)
set_option maxRecDepth 20000 in
theorem okX11_played : MOk (mdX11_played) 1 := ⟨tb_in (t4_in (List.mem_of_getElem? (i := 180) rfl)) rfl, tb_in (t1_in (List.mem_of_getElem? (i := 1) rfl)) rfl, ⟨by decide, by decide, by decide +kernel⟩, by decide⟩
set_option maxRecDepth 20000 in
theorem inX11_played : Cond.instanceMethod (mY (mdX11_played)) ∈ tblG := tb_in (t4_in (List.mem_of_getElem? (i := 178) rfl)) rfl
set_option maxRecDepth 20000 in
theorem viX11_played : MVi (mdX11_played) := ⟨inX11_played, tb_in (t4_in (List.mem_of_getElem? (i := 179) rfl)) rfl⟩
def mdX11_day : MD := (yX11_day, cX11_day, 3, some .int, 8, 0, 0)
set_option maxRecDepth 20000 in
theorem okX11_day : MOk (mdX11_day) 2 := ⟨tb_in (t4_in (List.mem_of_getElem? (i := 203) rfl)) rfl, tb_in (t1_in (List.mem_of_getElem? (i := 1) rfl)) rfl, ⟨by decide, by decide, by decide +kernel⟩, by decide⟩
set_option maxRecDepth 20000 in
theorem inX11_day : Cond.instanceMethod (mY (mdX11_day)) ∈ tblG := tb_in (t4_in (List.mem_of_getElem? (i := 201) rfl)) rfl
set_option maxRecDepth 20000 in
theorem viX11_day : MVi (mdX11_day) := ⟨inX11_day, tb_in (t4_in (List.mem_of_getElem? (i := 202) rfl)) rfl⟩
def mdX11_undo : MD := (yX11_undo, cX11_undo, 1, some .int, 1, 0, 0)
set_option maxRecDepth 20000 in
theorem okX11_undo : MOk (mdX11_undo) 0 := ⟨tb_in (t4_in (List.mem_of_getElem? (i := 222) rfl)) rfl, tb_in (t1_in (List.mem_of_getElem? (i := 1) rfl)) rfl, ⟨by decide, by decide, by decide +kernel⟩, by decide⟩
set_option maxRecDepth 20000 in
theorem inX11_undo : Cond.instanceMethod (mY (mdX11_undo)) ∈ tblG := tb_in (t4_in (List.mem_of_getElem? (i := 220) rfl)) rfl
set_option maxRecDepth 20000 in
theorem viX11_undo : MVi (mdX11_undo) := ⟨inX11_undo, tb_in (t4_in (List.mem_of_getElem? (i := 221) rfl)) rfl⟩
def mdX11_walker : MD := (yX11_walker, cX11_walker, 2, some .int, 0, 0, 0)
set_option maxRecDepth 20000 in
theorem okX11_walker : MOk (mdX11_walker) 1 := ⟨tb_in (t4_in (List.mem_of_getElem? (i := 230) rfl)) rfl, tb_in (t1_in (List.mem_of_getElem? (i := 1) rfl)) rfl, ⟨by decide, by decide, by decide +kernel⟩, by decide⟩
set_option maxRecDepth 20000 in
theorem inX11_walker : Cond.instanceMethod (mY (mdX11_walker)) ∈ tblG := tb_in (t4_in (List.mem_of_getElem? (i := 228) rfl)) rfl
set_option maxRecDepth 20000 in
theorem viX11_walker : MVi (mdX11_walker) := ⟨inX11_walker, tb_in (t4_in (List.mem_of_getElem? (i := 229) rfl)) rfl⟩
def mdX11_ofCorner : MD := (yX11_ofCorner, cX11_ofCorner, 3, some .int, 1, 0, 0)
set_option maxRecDepth 20000 in
theorem okX11_ofCorner : MOk (mdX11_ofCorner) 2 := ⟨tb_in (t4_in (List.mem_of_getElem? (i := 234) rfl)) rfl, tb_in (t1_in (List.mem_of_getElem? (i := 1) rfl)) rfl, ⟨by decide, by decide, by decide +kernel⟩, by decide⟩
set_option maxRecDepth 20000 in
theorem inX11_ofCorner : Cond.instanceMethod (mY (mdX11_ofCorner)) ∈ tblG := tb_in (t4_in (List.mem_of_getElem? (i := 232) rfl)) rfl
set_option maxRecDepth 20000 in
theorem viX11_ofCorner : MVi (mdX11_ofCorner) := ⟨inX11_ofCorner, tb_in (t4_in (List.mem_of_getElem? (i := 233) rfl)) rfl⟩
def mdX11_ofTeller : MD := (yX11_ofTeller, cX11_ofTeller, 3, some .int, 1, 0, 0)
set_option maxRecDepth 20000 in
theorem okX11_ofTeller : MOk (mdX11_ofTeller) 2 := ⟨tb_in (t5_in (List.mem_of_getElem? (i := 2) rfl)) rfl, tb_in (t1_in (List.mem_of_getElem? (i := 1) rfl)) rfl, ⟨by decide, by decide, by decide +kernel⟩, by decide⟩
set_option maxRecDepth 20000 in
theorem inX11_ofTeller : Cond.instanceMethod (mY (mdX11_ofTeller)) ∈ tblG := tb_in (t5_in (List.mem_of_getElem? (i := 0) rfl)) rfl
set_option maxRecDepth 20000 in
theorem viX11_ofTeller : MVi (mdX11_ofTeller) := ⟨inX11_ofTeller, tb_in (t5_in (List.mem_of_getElem? (i := 1) rfl)) rfl⟩
def mdX11_ofTelling : MD := (yX11_ofTelling, cX11_ofTelling, 3, some .int, 4, 0, 0)
set_option maxRecDepth 20000 in
theorem okX11_ofTelling : MOk (mdX11_ofTelling) 2 := ⟨tb_in (t5_in (List.mem_of_getElem? (i := 8) rfl)) rfl, tb_in (t1_in (List.mem_of_getElem? (i := 1) rfl)) rfl, ⟨by decide, by decide, by decide +kernel⟩, by decide⟩
set_option maxRecDepth 20000 in
theorem inX11_ofTelling : Cond.instanceMethod (mY (mdX11_ofTelling)) ∈ tblG := tb_in (t5_in (List.mem_of_getElem? (i := 6) rfl)) rfl
set_option maxRecDepth 20000 in
theorem viX11_ofTelling : MVi (mdX11_ofTelling) := ⟨inX11_ofTelling, tb_in (t5_in (List.mem_of_getElem? (i := 7) rfl)) rfl⟩
def mdX11_leads : MD := (yX11_leads, cX11_leads, 3, some .int, 5, 0, 0)
set_option maxRecDepth 20000 in
theorem okX11_leads : MOk (mdX11_leads) 2 := ⟨tb_in (t5_in (List.mem_of_getElem? (i := 20) rfl)) rfl, tb_in (t1_in (List.mem_of_getElem? (i := 1) rfl)) rfl, ⟨by decide, by decide, by decide +kernel⟩, by decide⟩
set_option maxRecDepth 20000 in
theorem inX11_leads : Cond.instanceMethod (mY (mdX11_leads)) ∈ tblG := tb_in (t5_in (List.mem_of_getElem? (i := 18) rfl)) rfl
set_option maxRecDepth 20000 in
theorem viX11_leads : MVi (mdX11_leads) := ⟨inX11_leads, tb_in (t5_in (List.mem_of_getElem? (i := 19) rfl)) rfl⟩
def mdX11_likely : MD := (yX11_likely, cX11_likely, 3, some .int, 6, 0, 0)
set_option maxRecDepth 20000 in
theorem okX11_likely : MOk (mdX11_likely) 2 := ⟨tb_in (t5_in (List.mem_of_getElem? (i := 35) rfl)) rfl, tb_in (t1_in (List.mem_of_getElem? (i := 1) rfl)) rfl, ⟨by decide, by decide, by decide +kernel⟩, by decide⟩
set_option maxRecDepth 20000 in
theorem inX11_likely : Cond.instanceMethod (mY (mdX11_likely)) ∈ tblG := tb_in (t5_in (List.mem_of_getElem? (i := 33) rfl)) rfl
set_option maxRecDepth 20000 in
theorem viX11_likely : MVi (mdX11_likely) := ⟨inX11_likely, tb_in (t5_in (List.mem_of_getElem? (i := 34) rfl)) rfl⟩
def mdX11_byAll : MD := (yX11_byAll, cX11_byAll, 4, some .long, 7, 0, 0)
set_option maxRecDepth 20000 in
theorem okX11_byAll : MOk (mdX11_byAll) 3 := ⟨tb_in (t5_in (List.mem_of_getElem? (i := 54) rfl)) rfl, tb_in (t1_in (List.mem_of_getElem? (i := 1) rfl)) rfl, ⟨by decide, by decide, by decide +kernel⟩, by decide⟩
set_option maxRecDepth 20000 in
theorem inX11_byAll : Cond.instanceMethod (mY (mdX11_byAll)) ∈ tblG := tb_in (t5_in (List.mem_of_getElem? (i := 52) rfl)) rfl
set_option maxRecDepth 20000 in
theorem viX11_byAll : MVi (mdX11_byAll) := ⟨inX11_byAll, tb_in (t5_in (List.mem_of_getElem? (i := 53) rfl)) rfl⟩
def mdX11_clash : MD := (yX11_clash, cX11_clash, 5, some .int, 7, 0, 0)
set_option maxRecDepth 20000 in
theorem okX11_clash : MOk (mdX11_clash) 1 := ⟨tb_in (t5_in (List.mem_of_getElem? (i := 81) rfl)) rfl, tb_in (t1_in (List.mem_of_getElem? (i := 1) rfl)) rfl, ⟨by decide, by decide, by decide +kernel⟩, by decide⟩
set_option maxRecDepth 20000 in
theorem inX11_clash : Cond.instanceMethod (mY (mdX11_clash)) ∈ tblG := tb_in (t5_in (List.mem_of_getElem? (i := 79) rfl)) rfl
set_option maxRecDepth 20000 in
theorem viX11_clash : MVi (mdX11_clash) := ⟨inX11_clash, tb_in (t5_in (List.mem_of_getElem? (i := 80) rfl)) rfl⟩
def mdX11_wrong : MD := (yX11_wrong, cX11_wrong, 7, some .int, 7, 0, 0)
set_option maxRecDepth 20000 in
theorem okX11_wrong : MOk (mdX11_wrong) 2 := ⟨tb_in (t5_in (List.mem_of_getElem? (i := 89) rfl)) rfl, tb_in (t1_in (List.mem_of_getElem? (i := 1) rfl)) rfl, ⟨by decide, by decide, by decide +kernel⟩, by decide⟩
set_option maxRecDepth 20000 in
theorem inX11_wrong : Cond.instanceMethod (mY (mdX11_wrong)) ∈ tblG := tb_in (t5_in (List.mem_of_getElem? (i := 87) rfl)) rfl
set_option maxRecDepth 20000 in
theorem viX11_wrong : MVi (mdX11_wrong) := ⟨inX11_wrong, tb_in (t5_in (List.mem_of_getElem? (i := 88) rfl)) rfl⟩
def mdX11_isLess : MD := (yX11_isLess, cX11_isLess, 3, some .boolean, 1, 0, 0)
set_option maxRecDepth 20000 in
theorem okX11_isLess : MOk (mdX11_isLess) 2 := ⟨tb_in (t5_in (List.mem_of_getElem? (i := 96) rfl)) rfl, tb_in (t1_in (List.mem_of_getElem? (i := 1) rfl)) rfl, ⟨by decide, by decide, by decide +kernel⟩, by decide⟩
set_option maxRecDepth 20000 in
theorem stX11_isLess : MSt (mdX11_isLess) := tb_in (t5_in (List.mem_of_getElem? (i := 95) rfl)) rfl
def mdX11_far : MD := (yX11_far, cX11_far, 3, some .int, 5, 0, 0)
set_option maxRecDepth 20000 in
theorem okX11_far : MOk (mdX11_far) 2 := ⟨tb_in (t5_in (List.mem_of_getElem? (i := 101) rfl)) rfl, tb_in (t1_in (List.mem_of_getElem? (i := 1) rfl)) rfl, ⟨by decide, by decide, by decide +kernel⟩, by decide⟩
set_option maxRecDepth 20000 in
theorem inX11_far : Cond.instanceMethod (mY (mdX11_far)) ∈ tblG := tb_in (t5_in (List.mem_of_getElem? (i := 99) rfl)) rfl
set_option maxRecDepth 20000 in
theorem viX11_far : MVi (mdX11_far) := ⟨inX11_far, tb_in (t5_in (List.mem_of_getElem? (i := 100) rfl)) rfl⟩
def mdX11_see : MD := (yX11_see, cX11_see, 3, some .long, 22, 0, 0)
set_option maxRecDepth 20000 in
theorem okX11_see : MOk (mdX11_see) 2 := ⟨tb_in (t5_in (List.mem_of_getElem? (i := 129) rfl)) rfl, tb_in (t1_in (List.mem_of_getElem? (i := 1) rfl)) rfl, ⟨by decide, by decide, by decide +kernel⟩, by decide⟩
set_option maxRecDepth 20000 in
theorem inX11_see : Cond.instanceMethod (mY (mdX11_see)) ∈ tblG := tb_in (t5_in (List.mem_of_getElem? (i := 127) rfl)) rfl
set_option maxRecDepth 20000 in
theorem viX11_see : MVi (mdX11_see) := ⟨inX11_see, tb_in (t5_in (List.mem_of_getElem? (i := 128) rfl)) rfl⟩
def mdX11_orAsk : MD := (yX11_orAsk, cX11_orAsk, 2, some .int, 22, 0, 0)
set_option maxRecDepth 20000 in
theorem okX11_orAsk : MOk (mdX11_orAsk) 1 := ⟨tb_in (t5_in (List.mem_of_getElem? (i := 150) rfl)) rfl, tb_in (t1_in (List.mem_of_getElem? (i := 1) rfl)) rfl, ⟨by decide, by decide, by decide +kernel⟩, by decide⟩
set_option maxRecDepth 20000 in
theorem inX11_orAsk : Cond.instanceMethod (mY (mdX11_orAsk)) ∈ tblG := tb_in (t5_in (List.mem_of_getElem? (i := 148) rfl)) rfl
set_option maxRecDepth 20000 in
theorem viX11_orAsk : MVi (mdX11_orAsk) := ⟨inX11_orAsk, tb_in (t5_in (List.mem_of_getElem? (i := 149) rfl)) rfl⟩
def mdX11_safeSoFar : MD := (yX11_safeSoFar, cX11_safeSoFar, 4, some .int, 6, 0, 0)
set_option maxRecDepth 20000 in
theorem okX11_safeSoFar : MOk (mdX11_safeSoFar) 3 := ⟨tb_in (t5_in (List.mem_of_getElem? (i := 164) rfl)) rfl, tb_in (t1_in (List.mem_of_getElem? (i := 1) rfl)) rfl, ⟨by decide, by decide, by decide +kernel⟩, by decide⟩
set_option maxRecDepth 20000 in
theorem inX11_safeSoFar : Cond.instanceMethod (mY (mdX11_safeSoFar)) ∈ tblG := tb_in (t5_in (List.mem_of_getElem? (i := 162) rfl)) rfl
set_option maxRecDepth 20000 in
theorem viX11_safeSoFar : MVi (mdX11_safeSoFar) := ⟨inX11_safeSoFar, tb_in (t5_in (List.mem_of_getElem? (i := 163) rfl)) rfl⟩
def mdX11_howFar : MD := (yX11_howFar, cX11_howFar, 5, some .int, 6, 0, 0)
set_option maxRecDepth 20000 in
theorem okX11_howFar : MOk (mdX11_howFar) 2 := ⟨tb_in (t5_in (List.mem_of_getElem? (i := 177) rfl)) rfl, tb_in (t1_in (List.mem_of_getElem? (i := 1) rfl)) rfl, ⟨by decide, by decide, by decide +kernel⟩, by decide⟩
set_option maxRecDepth 20000 in
theorem inX11_howFar : Cond.instanceMethod (mY (mdX11_howFar)) ∈ tblG := tb_in (t5_in (List.mem_of_getElem? (i := 175) rfl)) rfl
set_option maxRecDepth 20000 in
theorem viX11_howFar : MVi (mdX11_howFar) := ⟨inX11_howFar, tb_in (t5_in (List.mem_of_getElem? (i := 176) rfl)) rfl⟩
def mdX11_lost : MD := (yX11_lost, cX11_lost, 5, some .int, 5, 0, 0)
set_option maxRecDepth 20000 in
theorem okX11_lost : MOk (mdX11_lost) 2 := ⟨tb_in (t5_in (List.mem_of_getElem? (i := 181) rfl)) rfl, tb_in (t1_in (List.mem_of_getElem? (i := 1) rfl)) rfl, ⟨by decide, by decide, by decide +kernel⟩, by decide⟩
set_option maxRecDepth 20000 in
theorem inX11_lost : Cond.instanceMethod (mY (mdX11_lost)) ∈ tblG := tb_in (t5_in (List.mem_of_getElem? (i := 179) rfl)) rfl
set_option maxRecDepth 20000 in
theorem viX11_lost : MVi (mdX11_lost) := ⟨inX11_lost, tb_in (t5_in (List.mem_of_getElem? (i := 180) rfl)) rfl⟩
def mdX11_listen : MD := (yX11_listen, cX11_listen, 12, some .long, 1, 0, 0)
set_option maxRecDepth 20000 in
theorem okX11_listen : MOk (mdX11_listen) 5 := ⟨tb_in (t5_in (List.mem_of_getElem? (i := 185) rfl)) rfl, tb_in (t1_in (List.mem_of_getElem? (i := 1) rfl)) rfl, ⟨by decide, by decide, by decide +kernel⟩, by decide⟩
set_option maxRecDepth 20000 in
theorem inX11_listen : Cond.instanceMethod (mY (mdX11_listen)) ∈ tblG := tb_in (t5_in (List.mem_of_getElem? (i := 183) rfl)) rfl
set_option maxRecDepth 20000 in
theorem viX11_listen : MVi (mdX11_listen) := ⟨inX11_listen, tb_in (t5_in (List.mem_of_getElem? (i := 184) rfl)) rfl⟩
def mdX11_tell : MD := (yX11_tell, cX11_tell, 6, some .int, 22, 0, 0)
set_option maxRecDepth 20000 in
theorem okX11_tell : MOk (mdX11_tell) 4 := ⟨tb_in (t5_in (List.mem_of_getElem? (i := 195) rfl)) rfl, tb_in (t1_in (List.mem_of_getElem? (i := 1) rfl)) rfl, ⟨by decide, by decide, by decide +kernel⟩, by decide⟩
set_option maxRecDepth 20000 in
theorem inX11_tell : Cond.instanceMethod (mY (mdX11_tell)) ∈ tblG := tb_in (t5_in (List.mem_of_getElem? (i := 193) rfl)) rfl
set_option maxRecDepth 20000 in
theorem viX11_tell : MVi (mdX11_tell) := ⟨inX11_tell, tb_in (t5_in (List.mem_of_getElem? (i := 194) rfl)) rfl⟩
def mdX11_where : MD := (yX11_where, cX11_where, 9, some .int, 5, 0, 0)
set_option maxRecDepth 20000 in
theorem okX11_where : MOk (mdX11_where) 2 := ⟨tb_in (t5_in (List.mem_of_getElem? (i := 231) rfl)) rfl, tb_in (t1_in (List.mem_of_getElem? (i := 1) rfl)) rfl, ⟨by decide, by decide, by decide +kernel⟩, by decide⟩
set_option maxRecDepth 20000 in
theorem inX11_where : Cond.instanceMethod (mY (mdX11_where)) ∈ tblG := tb_in (t5_in (List.mem_of_getElem? (i := 229) rfl)) rfl
set_option maxRecDepth 20000 in
theorem viX11_where : MVi (mdX11_where) := ⟨inX11_where, tb_in (t5_in (List.mem_of_getElem? (i := 230) rfl)) rfl⟩
def mdX11_map : MD := (yX11_map, cX11_map, 8, some .int, 1, 0, 0)
set_option maxRecDepth 20000 in
theorem okX11_map : MOk (mdX11_map) 3 := ⟨tb_in (t6_in (List.mem_of_getElem? (i := 0) rfl)) rfl, tb_in (t1_in (List.mem_of_getElem? (i := 1) rfl)) rfl, ⟨by decide, by decide, by decide +kernel⟩, by decide⟩
set_option maxRecDepth 20000 in
theorem inX11_map : Cond.instanceMethod (mY (mdX11_map)) ∈ tblG := tb_in (t5_in (List.mem_of_getElem? (i := 238) rfl)) rfl
set_option maxRecDepth 20000 in
theorem viX11_map : MVi (mdX11_map) := ⟨inX11_map, tb_in (t5_in (List.mem_of_getElem? (i := 239) rfl)) rfl⟩
def mdX11_signs : MD := (yX11_signs, cX11_signs, 1, some .int, 4, 0, 0)
set_option maxRecDepth 20000 in
theorem okX11_signs : MOk (mdX11_signs) 0 := ⟨tb_in (t6_in (List.mem_of_getElem? (i := 4) rfl)) rfl, tb_in (t1_in (List.mem_of_getElem? (i := 1) rfl)) rfl, ⟨by decide, by decide, by decide +kernel⟩, by decide⟩
set_option maxRecDepth 20000 in
theorem inX11_signs : Cond.instanceMethod (mY (mdX11_signs)) ∈ tblG := tb_in (t6_in (List.mem_of_getElem? (i := 2) rfl)) rfl
set_option maxRecDepth 20000 in
theorem viX11_signs : MVi (mdX11_signs) := ⟨inX11_signs, tb_in (t6_in (List.mem_of_getElem? (i := 3) rfl)) rfl⟩
def mdX11_whose : MD := (yX11_whose, cX11_whose, 6, some .int, 6, 0, 0)
set_option maxRecDepth 20000 in
theorem okX11_whose : MOk (mdX11_whose) 4 := ⟨tb_in (t6_in (List.mem_of_getElem? (i := 46) rfl)) rfl, tb_in (t1_in (List.mem_of_getElem? (i := 1) rfl)) rfl, ⟨by decide, by decide, by decide +kernel⟩, by decide⟩
set_option maxRecDepth 20000 in
theorem inX11_whose : Cond.instanceMethod (mY (mdX11_whose)) ∈ tblG := tb_in (t6_in (List.mem_of_getElem? (i := 44) rfl)) rfl
set_option maxRecDepth 20000 in
theorem viX11_whose : MVi (mdX11_whose) := ⟨inX11_whose, tb_in (t6_in (List.mem_of_getElem? (i := 45) rfl)) rfl⟩
def mdX11_heard : MD := (yX11_heard, cX11_heard, 2, some .int, 7, 0, 0)
set_option maxRecDepth 20000 in
theorem okX11_heard : MOk (mdX11_heard) 1 := ⟨tb_in (t6_in (List.mem_of_getElem? (i := 50) rfl)) rfl, tb_in (t1_in (List.mem_of_getElem? (i := 1) rfl)) rfl, ⟨by decide, by decide, by decide +kernel⟩, by decide⟩
set_option maxRecDepth 20000 in
theorem inX11_heard : Cond.instanceMethod (mY (mdX11_heard)) ∈ tblG := tb_in (t6_in (List.mem_of_getElem? (i := 48) rfl)) rfl
set_option maxRecDepth 20000 in
theorem viX11_heard : MVi (mdX11_heard) := ⟨inX11_heard, tb_in (t6_in (List.mem_of_getElem? (i := 49) rfl)) rfl⟩
def mdX11_image : MD := (yX11_image, cX11_image, 1, some .int, 1, 0, 0)
set_option maxRecDepth 20000 in
theorem okX11_image : MOk (mdX11_image) 0 := ⟨tb_in (t6_in (List.mem_of_getElem? (i := 54) rfl)) rfl, tb_in (t1_in (List.mem_of_getElem? (i := 1) rfl)) rfl, ⟨by decide, by decide, by decide +kernel⟩, by decide⟩
set_option maxRecDepth 20000 in
theorem inX11_image : Cond.instanceMethod (mY (mdX11_image)) ∈ tblG := tb_in (t6_in (List.mem_of_getElem? (i := 52) rfl)) rfl
set_option maxRecDepth 20000 in
theorem viX11_image : MVi (mdX11_image) := ⟨inX11_image, tb_in (t6_in (List.mem_of_getElem? (i := 53) rfl)) rfl⟩
def mdX11_back : MD := (yX11_back, cX11_back, 1, some .int, 1, 0, 0)
set_option maxRecDepth 20000 in
theorem okX11_back : MOk (mdX11_back) 0 := ⟨tb_in (t6_in (List.mem_of_getElem? (i := 67) rfl)) rfl, tb_in (t1_in (List.mem_of_getElem? (i := 1) rfl)) rfl, ⟨by decide, by decide, by decide +kernel⟩, by decide⟩
set_option maxRecDepth 20000 in
theorem inX11_back : Cond.instanceMethod (mY (mdX11_back)) ∈ tblG := tb_in (t6_in (List.mem_of_getElem? (i := 65) rfl)) rfl
set_option maxRecDepth 20000 in
theorem viX11_back : MVi (mdX11_back) := ⟨inX11_back, tb_in (t6_in (List.mem_of_getElem? (i := 66) rfl)) rfl⟩
def mdX11_about : MD := (yX11_about, cX11_about, 2, some .int, 0, 0, 0)
set_option maxRecDepth 20000 in
theorem okX11_about : MOk (mdX11_about) 1 := ⟨tb_in (t6_in (List.mem_of_getElem? (i := 71) rfl)) rfl, tb_in (t1_in (List.mem_of_getElem? (i := 1) rfl)) rfl, ⟨by decide, by decide, by decide +kernel⟩, by decide⟩
set_option maxRecDepth 20000 in
theorem inX11_about : Cond.instanceMethod (mY (mdX11_about)) ∈ tblG := tb_in (t6_in (List.mem_of_getElem? (i := 69) rfl)) rfl
set_option maxRecDepth 20000 in
theorem viX11_about : MVi (mdX11_about) := ⟨inX11_about, tb_in (t6_in (List.mem_of_getElem? (i := 70) rfl)) rfl⟩
def mdX11_isDirection : MD := (yX11_isDirection, cX11_isDirection, 1, some .boolean, 0, 0, 0)
set_option maxRecDepth 20000 in
theorem okX11_isDirection : MOk (mdX11_isDirection) 1 := ⟨tb_in (t2_in (List.mem_of_getElem? (i := 203) rfl)) rfl, tb_in (t1_in (List.mem_of_getElem? (i := 1) rfl)) rfl, ⟨by decide, by decide, by decide +kernel⟩, by decide⟩
set_option maxRecDepth 20000 in
theorem stX11_isDirection : MSt (mdX11_isDirection) := tb_in (t2_in (List.mem_of_getElem? (i := 202) rfl)) rfl
def mdX11_isSlip : MD := (yX11_isSlip, cX11_isSlip, 1, some .boolean, 0, 0, 0)
set_option maxRecDepth 20000 in
theorem okX11_isSlip : MOk (mdX11_isSlip) 1 := ⟨tb_in (t2_in (List.mem_of_getElem? (i := 222) rfl)) rfl, tb_in (t1_in (List.mem_of_getElem? (i := 1) rfl)) rfl, ⟨by decide, by decide, by decide +kernel⟩, by decide⟩
set_option maxRecDepth 20000 in
theorem stX11_isSlip : MSt (mdX11_isSlip) := tb_in (t2_in (List.mem_of_getElem? (i := 221) rfl)) rfl
def mdX11_held : MD := (yX11_held, cX11_held, 3, some .int, 1, 0, 0)
set_option maxRecDepth 20000 in
theorem okX11_held : MOk (mdX11_held) 3 := ⟨tb_in (t4_in (List.mem_of_getElem? (i := 79) rfl)) rfl, tb_in (t1_in (List.mem_of_getElem? (i := 1) rfl)) rfl, ⟨by decide, by decide, by decide +kernel⟩, by decide⟩
set_option maxRecDepth 20000 in
theorem stX11_held : MSt (mdX11_held) := tb_in (t4_in (List.mem_of_getElem? (i := 78) rfl)) rfl
def mdX11_power : MD := (yX11_power, cX11_power, 6, some .long, 0, 0, 0)
set_option maxRecDepth 20000 in
theorem okX11_power : MOk (mdX11_power) 2 := ⟨tb_in (t5_in (List.mem_of_getElem? (i := 189) rfl)) rfl, tb_in (t1_in (List.mem_of_getElem? (i := 1) rfl)) rfl, ⟨by decide, by decide, by decide +kernel⟩, by decide⟩
set_option maxRecDepth 20000 in
theorem stX11_power : MSt (mdX11_power) := tb_in (t5_in (List.mem_of_getElem? (i := 188) rfl)) rfl
def mdX11_inLowestTerms : MD := (yX11_inLowestTerms, cX11_inLowestTerms, 12, some .long, 0, 0, 0)
set_option maxRecDepth 20000 in
theorem okX11_inLowestTerms : MOk (mdX11_inLowestTerms) 3 := ⟨tb_in (t5_in (List.mem_of_getElem? (i := 77) rfl)) rfl, tb_in (t1_in (List.mem_of_getElem? (i := 1) rfl)) rfl, ⟨by decide, by decide, by decide +kernel⟩, by decide⟩
set_option maxRecDepth 20000 in
theorem stX11_inLowestTerms : MSt (mdX11_inLowestTerms) := tb_in (t5_in (List.mem_of_getElem? (i := 76) rfl)) rfl
def mdX12_init : MD := (yX12_init, cX12_init, 1, none, 1, 20, 5844)
set_option maxRecDepth 20000 in
theorem okX12_init : MOk (mdX12_init) 0 := ⟨tb_in (t6_in (List.mem_of_getElem? (i := 76) rfl)) rfl, tb_in (t1_in (List.mem_of_getElem? (i := 13) rfl)) rfl, ⟨by decide, by decide, by decide +kernel⟩, by decide⟩
set_option maxRecDepth 20000 in
theorem inX12_init : Cond.instanceMethod (mY (mdX12_init)) ∈ tblG := tb_in (t6_in (List.mem_of_getElem? (i := 75) rfl)) rfl
def mdX12_copy : MD := (yX12_copy, cX12_copy, 3, none, 0, 0, 0)
set_option maxRecDepth 20000 in
theorem okX12_copy : MOk (mdX12_copy) 2 := ⟨tb_in (t6_in (List.mem_of_getElem? (i := 80) rfl)) rfl, tb_in (t1_in (List.mem_of_getElem? (i := 13) rfl)) rfl, ⟨by decide, by decide, by decide +kernel⟩, by decide⟩
set_option maxRecDepth 20000 in
theorem stX12_copy : MSt (mdX12_copy) := tb_in (t6_in (List.mem_of_getElem? (i := 79) rfl)) rfl
def mdX12_isIn : MD := (yX12_isIn, cX12_isIn, 3, some .boolean, 0, 0, 0)
set_option maxRecDepth 20000 in
theorem okX12_isIn : MOk (mdX12_isIn) 3 := ⟨tb_in (t6_in (List.mem_of_getElem? (i := 230) rfl)) rfl, tb_in (t1_in (List.mem_of_getElem? (i := 13) rfl)) rfl, ⟨by decide, by decide, by decide +kernel⟩, by decide⟩
set_option maxRecDepth 20000 in
theorem stX12_isIn : MSt (mdX12_isIn) := tb_in (t6_in (List.mem_of_getElem? (i := 229) rfl)) rfl
def mdX12_has : MD := (yX12_has, cX12_has, 2, some .boolean, 0, 0, 0)
set_option maxRecDepth 20000 in
theorem okX12_has : MOk (mdX12_has) 2 := ⟨tb_in (t7_in (List.mem_of_getElem? (i := 100) rfl)) rfl, tb_in (t1_in (List.mem_of_getElem? (i := 13) rfl)) rfl, ⟨by decide, by decide, by decide +kernel⟩, by decide⟩
set_option maxRecDepth 20000 in
theorem stX12_has : MSt (mdX12_has) := tb_in (t7_in (List.mem_of_getElem? (i := 99) rfl)) rfl
def mdX12_bits : MD := (yX12_bits, cX12_bits, 3, some .int, 0, 0, 0)
set_option maxRecDepth 20000 in
theorem okX12_bits : MOk (mdX12_bits) 1 := ⟨tb_in (t8_in (List.mem_of_getElem? (i := 189) rfl)) rfl, tb_in (t1_in (List.mem_of_getElem? (i := 13) rfl)) rfl, ⟨by decide, by decide, by decide +kernel⟩, by decide⟩
set_option maxRecDepth 20000 in
theorem stX12_bits : MSt (mdX12_bits) := tb_in (t8_in (List.mem_of_getElem? (i := 188) rfl)) rfl
def mdX12_isCorner : MD := (yX12_isCorner, cX12_isCorner, 2, some .boolean, 1, 0, 0)
set_option maxRecDepth 20000 in
theorem okX12_isCorner : MOk (mdX12_isCorner) 1 := ⟨tb_in (t6_in (List.mem_of_getElem? (i := 238) rfl)) rfl, tb_in (t1_in (List.mem_of_getElem? (i := 13) rfl)) rfl, ⟨by decide, by decide, by decide +kernel⟩, by decide⟩
set_option maxRecDepth 20000 in
theorem inX12_isCorner : Cond.instanceMethod (mY (mdX12_isCorner)) ∈ tblG := tb_in (t6_in (List.mem_of_getElem? (i := 237) rfl)) rfl
set_option maxRecDepth 20000 in
theorem viX12_isCorner : MVi (mdX12_isCorner) := ⟨inX12_isCorner, tp_in (List.mem_of_getElem? (i := 52) rfl) rfl⟩
def mdX12_isTeller : MD := (yX12_isTeller, cX12_isTeller, 2, some .boolean, 1, 0, 0)
set_option maxRecDepth 20000 in
theorem okX12_isTeller : MOk (mdX12_isTeller) 1 := ⟨tb_in (t7_in (List.mem_of_getElem? (i := 18) rfl)) rfl, tb_in (t1_in (List.mem_of_getElem? (i := 13) rfl)) rfl, ⟨by decide, by decide, by decide +kernel⟩, by decide⟩
set_option maxRecDepth 20000 in
theorem inX12_isTeller : Cond.instanceMethod (mY (mdX12_isTeller)) ∈ tblG := tb_in (t7_in (List.mem_of_getElem? (i := 17) rfl)) rfl
set_option maxRecDepth 20000 in
theorem viX12_isTeller : MVi (mdX12_isTeller) := ⟨inX12_isTeller, tp_in (List.mem_of_getElem? (i := 54) rfl) rfl⟩
def mdX12_isTelling : MD := (yX12_isTelling, cX12_isTelling, 2, some .boolean, 1, 0, 0)
set_option maxRecDepth 20000 in
theorem okX12_isTelling : MOk (mdX12_isTelling) 1 := ⟨tb_in (t8_in (List.mem_of_getElem? (i := 50) rfl)) rfl, tb_in (t1_in (List.mem_of_getElem? (i := 13) rfl)) rfl, ⟨by decide, by decide, by decide +kernel⟩, by decide⟩
set_option maxRecDepth 20000 in
theorem inX12_isTelling : Cond.instanceMethod (mY (mdX12_isTelling)) ∈ tblG := tb_in (t8_in (List.mem_of_getElem? (i := 49) rfl)) rfl
set_option maxRecDepth 20000 in
theorem viX12_isTelling : MVi (mdX12_isTelling) := ⟨inX12_isTelling, tp_in (List.mem_of_getElem? (i := 99) rfl) rfl⟩
def mdX12_sightOf : MD := (yX12_sightOf, cX12_sightOf, 2, some .int, 0, 0, 0)
set_option maxRecDepth 20000 in
theorem okX12_sightOf : MOk (mdX12_sightOf) 1 := ⟨tb_in (t7_in (List.mem_of_getElem? (i := 239) rfl)) rfl, tb_in (t1_in (List.mem_of_getElem? (i := 13) rfl)) rfl, ⟨by decide, by decide, by decide +kernel⟩, by decide⟩
set_option maxRecDepth 20000 in
theorem inX12_sightOf : Cond.instanceMethod (mY (mdX12_sightOf)) ∈ tblG := tb_in (t7_in (List.mem_of_getElem? (i := 238) rfl)) rfl
set_option maxRecDepth 20000 in
theorem viX12_sightOf : MVi (mdX12_sightOf) := ⟨inX12_sightOf, tp_in (List.mem_of_getElem? (i := 92) rfl) rfl⟩
def mdX12_streetOf : MD := (yX12_streetOf, cX12_streetOf, 3, some .int, 0, 0, 0)
set_option maxRecDepth 20000 in
theorem okX12_streetOf : MOk (mdX12_streetOf) 2 := ⟨tb_in (t7_in (List.mem_of_getElem? (i := 2) rfl)) rfl, tb_in (t1_in (List.mem_of_getElem? (i := 13) rfl)) rfl, ⟨by decide, by decide, by decide +kernel⟩, by decide⟩
set_option maxRecDepth 20000 in
theorem inX12_streetOf : Cond.instanceMethod (mY (mdX12_streetOf)) ∈ tblG := tb_in (t7_in (List.mem_of_getElem? (i := 1) rfl)) rfl
set_option maxRecDepth 20000 in
theorem viX12_streetOf : MVi (mdX12_streetOf) := ⟨inX12_streetOf, tp_in (List.mem_of_getElem? (i := 53) rfl) rfl⟩
def mdX12_isLane : MD := (yX12_isLane, cX12_isLane, 3, some .boolean, 0, 0, 0)
set_option maxRecDepth 20000 in
theorem okX12_isLane : MOk (mdX12_isLane) 2 := ⟨tb_in (t7_in (List.mem_of_getElem? (i := 235) rfl)) rfl, tb_in (t1_in (List.mem_of_getElem? (i := 13) rfl)) rfl, ⟨by decide, by decide, by decide +kernel⟩, by decide⟩
set_option maxRecDepth 20000 in
theorem inX12_isLane : Cond.instanceMethod (mY (mdX12_isLane)) ∈ tblG := tb_in (t7_in (List.mem_of_getElem? (i := 234) rfl)) rfl
set_option maxRecDepth 20000 in
theorem viX12_isLane : MVi (mdX12_isLane) := ⟨inX12_isLane, tp_in (List.mem_of_getElem? (i := 91) rfl) rfl⟩
def mdX12_corner : MD := (yX12_corner, cX12_corner, 4, some .int, 1, 0, 0)
set_option maxRecDepth 20000 in
theorem okX12_corner : MOk (mdX12_corner) 1 := ⟨tb_in (t6_in (List.mem_of_getElem? (i := 227) rfl)) rfl, tb_in (t1_in (List.mem_of_getElem? (i := 13) rfl)) rfl, ⟨by decide, by decide, by decide +kernel⟩, by decide⟩
set_option maxRecDepth 20000 in
theorem inX12_corner : Cond.instanceMethod (mY (mdX12_corner)) ∈ tblG := tb_in (t6_in (List.mem_of_getElem? (i := 225) rfl)) rfl
set_option maxRecDepth 20000 in
theorem viX12_corner : MVi (mdX12_corner) := ⟨inX12_corner, tb_in (t6_in (List.mem_of_getElem? (i := 226) rfl)) rfl⟩
def mdX12_street : MD := (yX12_street, cX12_street, 6, some .boolean, 2, 0, 0)
set_option maxRecDepth 20000 in
theorem okX12_street : MOk (mdX12_street) 4 := ⟨tb_in (t6_in (List.mem_of_getElem? (i := 234) rfl)) rfl, tb_in (t1_in (List.mem_of_getElem? (i := 13) rfl)) rfl, ⟨by decide, by decide, by decide +kernel⟩, by decide⟩
set_option maxRecDepth 20000 in
theorem inX12_street : Cond.instanceMethod (mY (mdX12_street)) ∈ tblG := tb_in (t6_in (List.mem_of_getElem? (i := 232) rfl)) rfl
set_option maxRecDepth 20000 in
theorem viX12_street : MVi (mdX12_street) := ⟨inX12_street, tb_in (t6_in (List.mem_of_getElem? (i := 233) rfl)) rfl⟩
def mdX12_goal : MD := (yX12_goal, cX12_goal, 2, some .boolean, 2, 0, 0)
set_option maxRecDepth 20000 in
theorem okX12_goal : MOk (mdX12_goal) 1 := ⟨tb_in (t7_in (List.mem_of_getElem? (i := 6) rfl)) rfl, tb_in (t1_in (List.mem_of_getElem? (i := 13) rfl)) rfl, ⟨by decide, by decide, by decide +kernel⟩, by decide⟩
set_option maxRecDepth 20000 in
theorem inX12_goal : Cond.instanceMethod (mY (mdX12_goal)) ∈ tblG := tb_in (t7_in (List.mem_of_getElem? (i := 4) rfl)) rfl
set_option maxRecDepth 20000 in
theorem viX12_goal : MVi (mdX12_goal) := ⟨inX12_goal, tb_in (t7_in (List.mem_of_getElem? (i := 5) rfl)) rfl⟩
def mdX12_teller : MD := (yX12_teller, cX12_teller, 6, some .int, 2, 0, 0)
set_option maxRecDepth 20000 in
theorem okX12_teller : MOk (mdX12_teller) 4 := ⟨tb_in (t7_in (List.mem_of_getElem? (i := 10) rfl)) rfl, tb_in (t1_in (List.mem_of_getElem? (i := 13) rfl)) rfl, ⟨by decide, by decide, by decide +kernel⟩, by decide⟩
set_option maxRecDepth 20000 in
theorem inX12_teller : Cond.instanceMethod (mY (mdX12_teller)) ∈ tblG := tb_in (t7_in (List.mem_of_getElem? (i := 8) rfl)) rfl
set_option maxRecDepth 20000 in
theorem viX12_teller : MVi (mdX12_teller) := ⟨inX12_teller, tb_in (t7_in (List.mem_of_getElem? (i := 9) rfl)) rfl⟩
def mdX12_isTurn : MD := (yX12_isTurn, cX12_isTurn, 1, some .boolean, 1, 0, 0)
set_option maxRecDepth 20000 in
theorem okX12_isTurn : MOk (mdX12_isTurn) 1 := ⟨tb_in (t7_in (List.mem_of_getElem? (i := 27) rfl)) rfl, tb_in (t1_in (List.mem_of_getElem? (i := 13) rfl)) rfl, ⟨by decide, by decide, by decide +kernel⟩, by decide⟩
set_option maxRecDepth 20000 in
theorem stX12_isTurn : MSt (mdX12_isTurn) := tb_in (t7_in (List.mem_of_getElem? (i := 26) rfl)) rfl
def mdX12_take : MD := (yX12_take, cX12_take, 5, some .boolean, 2, 0, 0)
set_option maxRecDepth 20000 in
theorem okX12_take : MOk (mdX12_take) 1 := ⟨tb_in (t7_in (List.mem_of_getElem? (i := 22) rfl)) rfl, tb_in (t1_in (List.mem_of_getElem? (i := 13) rfl)) rfl, ⟨by decide, by decide, by decide +kernel⟩, by decide⟩
set_option maxRecDepth 20000 in
theorem inX12_take : Cond.instanceMethod (mY (mdX12_take)) ∈ tblG := tb_in (t7_in (List.mem_of_getElem? (i := 21) rfl)) rfl
set_option maxRecDepth 20000 in
theorem viX12_take : MVi (mdX12_take) := ⟨inX12_take, tp_in (List.mem_of_getElem? (i := 55) rfl) rfl⟩
def mdX12_tellNow : MD := (yX12_tellNow, cX12_tellNow, 5, some .int, 0, 0, 0)
set_option maxRecDepth 20000 in
theorem okX12_tellNow : MOk (mdX12_tellNow) 2 := ⟨tb_in (t7_in (List.mem_of_getElem? (i := 31) rfl)) rfl, tb_in (t1_in (List.mem_of_getElem? (i := 13) rfl)) rfl, ⟨by decide, by decide, by decide +kernel⟩, by decide⟩
set_option maxRecDepth 20000 in
theorem inX12_tellNow : Cond.instanceMethod (mY (mdX12_tellNow)) ∈ tblG := tb_in (t7_in (List.mem_of_getElem? (i := 30) rfl)) rfl
set_option maxRecDepth 20000 in
theorem viX12_tellNow : MVi (mdX12_tellNow) := ⟨inX12_tellNow, tp_in (List.mem_of_getElem? (i := 56) rfl) rfl⟩
def mdX12_telling : MD := (yX12_telling, cX12_telling, 5, some .int, 3, 0, 0)
set_option maxRecDepth 20000 in
theorem okX12_telling : MOk (mdX12_telling) 4 := ⟨tb_in (t7_in (List.mem_of_getElem? (i := 14) rfl)) rfl, tb_in (t1_in (List.mem_of_getElem? (i := 13) rfl)) rfl, ⟨by decide, by decide, by decide +kernel⟩, by decide⟩
set_option maxRecDepth 20000 in
theorem inX12_telling : Cond.instanceMethod (mY (mdX12_telling)) ∈ tblG := tb_in (t7_in (List.mem_of_getElem? (i := 12) rfl)) rfl
set_option maxRecDepth 20000 in
theorem viX12_telling : MVi (mdX12_telling) := ⟨inX12_telling, tb_in (t7_in (List.mem_of_getElem? (i := 13) rfl)) rfl⟩
def mdX12_tellerOf : MD := (yX12_tellerOf, cX12_tellerOf, 2, some .int, 0, 0, 0)
set_option maxRecDepth 20000 in
theorem okX12_tellerOf : MOk (mdX12_tellerOf) 1 := ⟨tb_in (t8_in (List.mem_of_getElem? (i := 150) rfl)) rfl, tb_in (t1_in (List.mem_of_getElem? (i := 13) rfl)) rfl, ⟨by decide, by decide, by decide +kernel⟩, by decide⟩
set_option maxRecDepth 20000 in
theorem inX12_tellerOf : Cond.instanceMethod (mY (mdX12_tellerOf)) ∈ tblG := tb_in (t8_in (List.mem_of_getElem? (i := 149) rfl)) rfl
set_option maxRecDepth 20000 in
theorem viX12_tellerOf : MVi (mdX12_tellerOf) := ⟨inX12_tellerOf, tp_in (List.mem_of_getElem? (i := 116) rfl) rfl⟩
def mdX12_facingOf : MD := (yX12_facingOf, cX12_facingOf, 2, some .int, 0, 0, 0)
set_option maxRecDepth 20000 in
theorem okX12_facingOf : MOk (mdX12_facingOf) 1 := ⟨tb_in (t8_in (List.mem_of_getElem? (i := 154) rfl)) rfl, tb_in (t1_in (List.mem_of_getElem? (i := 13) rfl)) rfl, ⟨by decide, by decide, by decide +kernel⟩, by decide⟩
set_option maxRecDepth 20000 in
theorem inX12_facingOf : Cond.instanceMethod (mY (mdX12_facingOf)) ∈ tblG := tb_in (t8_in (List.mem_of_getElem? (i := 153) rfl)) rfl
set_option maxRecDepth 20000 in
theorem viX12_facingOf : MVi (mdX12_facingOf) := ⟨inX12_facingOf, tp_in (List.mem_of_getElem? (i := 117) rfl) rfl⟩
def mdX12_turnsOf : MD := (yX12_turnsOf, cX12_turnsOf, 2, some .int, 0, 0, 0)
set_option maxRecDepth 20000 in
theorem okX12_turnsOf : MOk (mdX12_turnsOf) 1 := ⟨tb_in (t8_in (List.mem_of_getElem? (i := 58) rfl)) rfl, tb_in (t1_in (List.mem_of_getElem? (i := 13) rfl)) rfl, ⟨by decide, by decide, by decide +kernel⟩, by decide⟩
set_option maxRecDepth 20000 in
theorem inX12_turnsOf : Cond.instanceMethod (mY (mdX12_turnsOf)) ∈ tblG := tb_in (t8_in (List.mem_of_getElem? (i := 57) rfl)) rfl
set_option maxRecDepth 20000 in
theorem viX12_turnsOf : MVi (mdX12_turnsOf) := ⟨inX12_turnsOf, tp_in (List.mem_of_getElem? (i := 101) rfl) rfl⟩
def mdX12_turnAt : MD := (yX12_turnAt, cX12_turnAt, 3, some .int, 0, 0, 0)
set_option maxRecDepth 20000 in
theorem okX12_turnAt : MOk (mdX12_turnAt) 2 := ⟨tb_in (t8_in (List.mem_of_getElem? (i := 62) rfl)) rfl, tb_in (t1_in (List.mem_of_getElem? (i := 13) rfl)) rfl, ⟨by decide, by decide, by decide +kernel⟩, by decide⟩
set_option maxRecDepth 20000 in
theorem inX12_turnAt : Cond.instanceMethod (mY (mdX12_turnAt)) ∈ tblG := tb_in (t8_in (List.mem_of_getElem? (i := 61) rfl)) rfl
set_option maxRecDepth 20000 in
theorem viX12_turnAt : MVi (mdX12_turnAt) := ⟨inX12_turnAt, tp_in (List.mem_of_getElem? (i := 102) rfl) rfl⟩
def mdX12_cornerOf : MD := (yX12_cornerOf, cX12_cornerOf, 2, some .int, 0, 0, 0)
set_option maxRecDepth 20000 in
theorem okX12_cornerOf : MOk (mdX12_cornerOf) 1 := ⟨tb_in (t8_in (List.mem_of_getElem? (i := 30) rfl)) rfl, tb_in (t1_in (List.mem_of_getElem? (i := 13) rfl)) rfl, ⟨by decide, by decide, by decide +kernel⟩, by decide⟩
set_option maxRecDepth 20000 in
theorem inX12_cornerOf : Cond.instanceMethod (mY (mdX12_cornerOf)) ∈ tblG := tb_in (t8_in (List.mem_of_getElem? (i := 29) rfl)) rfl
set_option maxRecDepth 20000 in
theorem viX12_cornerOf : MVi (mdX12_cornerOf) := ⟨inX12_cornerOf, tp_in (List.mem_of_getElem? (i := 95) rfl) rfl⟩
def mdX12_four : MD := (yX12_four, cX12_four, 3, none, 0, 0, 0)
set_option maxRecDepth 20000 in
theorem okX12_four : MOk (mdX12_four) 1 := ⟨tb_in (t7_in (List.mem_of_getElem? (i := 39) rfl)) rfl, tb_in (t1_in (List.mem_of_getElem? (i := 13) rfl)) rfl, ⟨by decide, by decide, by decide +kernel⟩, by decide⟩
set_option maxRecDepth 20000 in
theorem inX12_four : Cond.instanceMethod (mY (mdX12_four)) ∈ tblG := tb_in (t7_in (List.mem_of_getElem? (i := 38) rfl)) rfl
set_option maxRecDepth 20000 in
theorem viX12_four : MVi (mdX12_four) := ⟨inX12_four, tp_in (List.mem_of_getElem? (i := 57) rfl) rfl⟩
def mdX12_feed : MD := (yX12_feed, cX12_feed, 6, some .int, 1, 0, 0)
set_option maxRecDepth 20000 in
theorem okX12_feed : MOk (mdX12_feed) 5 := ⟨tb_in (t7_in (List.mem_of_getElem? (i := 35) rfl)) rfl, tb_in (t1_in (List.mem_of_getElem? (i := 13) rfl)) rfl, ⟨by decide, by decide, by decide +kernel⟩, by decide⟩
set_option maxRecDepth 20000 in
theorem inX12_feed : Cond.instanceMethod (mY (mdX12_feed)) ∈ tblG := tb_in (t7_in (List.mem_of_getElem? (i := 33) rfl)) rfl
set_option maxRecDepth 20000 in
theorem viX12_feed : MVi (mdX12_feed) := ⟨inX12_feed, tb_in (t7_in (List.mem_of_getElem? (i := 34) rfl)) rfl⟩
def mdX12_end : MD := (yX12_end, cX12_end, 2, some .int, 1, 0, 0)
set_option maxRecDepth 20000 in
theorem okX12_end : MOk (mdX12_end) 1 := ⟨tb_in (t7_in (List.mem_of_getElem? (i := 43) rfl)) rfl, tb_in (t1_in (List.mem_of_getElem? (i := 13) rfl)) rfl, ⟨by decide, by decide, by decide +kernel⟩, by decide⟩
set_option maxRecDepth 20000 in
theorem inX12_end : Cond.instanceMethod (mY (mdX12_end)) ∈ tblG := tb_in (t7_in (List.mem_of_getElem? (i := 41) rfl)) rfl
set_option maxRecDepth 20000 in
theorem viX12_end : MVi (mdX12_end) := ⟨inX12_end, tb_in (t7_in (List.mem_of_getElem? (i := 42) rfl)) rfl⟩
def mdX12_byteAt : MD := (yX12_byteAt, cX12_byteAt, 2, some .int, 0, 0, 0)
set_option maxRecDepth 20000 in
theorem okX12_byteAt : MOk (mdX12_byteAt) 1 := ⟨tb_in (t7_in (List.mem_of_getElem? (i := 59) rfl)) rfl, tb_in (t1_in (List.mem_of_getElem? (i := 13) rfl)) rfl, ⟨by decide, by decide, by decide +kernel⟩, by decide⟩
set_option maxRecDepth 20000 in
theorem inX12_byteAt : Cond.instanceMethod (mY (mdX12_byteAt)) ∈ tblG := tb_in (t7_in (List.mem_of_getElem? (i := 58) rfl)) rfl
set_option maxRecDepth 20000 in
theorem viX12_byteAt : MVi (mdX12_byteAt) := ⟨inX12_byteAt, tp_in (List.mem_of_getElem? (i := 60) rfl) rfl⟩
def mdX12_isLetterByte : MD := (yX12_isLetterByte, cX12_isLetterByte, 1, some .boolean, 0, 0, 0)
set_option maxRecDepth 20000 in
theorem okX12_isLetterByte : MOk (mdX12_isLetterByte) 1 := ⟨tb_in (t7_in (List.mem_of_getElem? (i := 66) rfl)) rfl, tb_in (t1_in (List.mem_of_getElem? (i := 13) rfl)) rfl, ⟨by decide, by decide, by decide +kernel⟩, by decide⟩
set_option maxRecDepth 20000 in
theorem stX12_isLetterByte : MSt (mdX12_isLetterByte) := tb_in (t7_in (List.mem_of_getElem? (i := 65) rfl)) rfl
def mdX12_isFigure : MD := (yX12_isFigure, cX12_isFigure, 1, some .boolean, 0, 0, 0)
set_option maxRecDepth 20000 in
theorem okX12_isFigure : MOk (mdX12_isFigure) 1 := ⟨tb_in (t7_in (List.mem_of_getElem? (i := 62) rfl)) rfl, tb_in (t1_in (List.mem_of_getElem? (i := 13) rfl)) rfl, ⟨by decide, by decide, by decide +kernel⟩, by decide⟩
set_option maxRecDepth 20000 in
theorem stX12_isFigure : MSt (mdX12_isFigure) := tb_in (t7_in (List.mem_of_getElem? (i := 61) rfl)) rfl
def mdX12_isSign : MD := (yX12_isSign, cX12_isSign, 1, some .boolean, 0, 0, 0)
set_option maxRecDepth 20000 in
theorem okX12_isSign : MOk (mdX12_isSign) 1 := ⟨tb_in (t7_in (List.mem_of_getElem? (i := 70) rfl)) rfl, tb_in (t1_in (List.mem_of_getElem? (i := 13) rfl)) rfl, ⟨by decide, by decide, by decide +kernel⟩, by decide⟩
set_option maxRecDepth 20000 in
theorem stX12_isSign : MSt (mdX12_isSign) := tb_in (t7_in (List.mem_of_getElem? (i := 69) rfl)) rfl
def mdX12_nextToken : MD := (yX12_nextToken, cX12_nextToken, 2, none, 1, 0, 0)
set_option maxRecDepth 20000 in
theorem okX12_nextToken : MOk (mdX12_nextToken) 0 := ⟨tb_in (t7_in (List.mem_of_getElem? (i := 55) rfl)) rfl, tb_in (t1_in (List.mem_of_getElem? (i := 13) rfl)) rfl, ⟨by decide, by decide, by decide +kernel⟩, by decide⟩
set_option maxRecDepth 20000 in
theorem inX12_nextToken : Cond.instanceMethod (mY (mdX12_nextToken)) ∈ tblG := tb_in (t7_in (List.mem_of_getElem? (i := 54) rfl)) rfl
set_option maxRecDepth 20000 in
theorem viX12_nextToken : MVi (mdX12_nextToken) := ⟨inX12_nextToken, tp_in (List.mem_of_getElem? (i := 59) rfl) rfl⟩
def mdX12_w2 : MD := (yX12_w2, cX12_w2, 2, some .long, 0, 0, 0)
set_option maxRecDepth 20000 in
theorem okX12_w2 : MOk (mdX12_w2) 2 := ⟨tb_in (t7_in (List.mem_of_getElem? (i := 90) rfl)) rfl, tb_in (t1_in (List.mem_of_getElem? (i := 13) rfl)) rfl, ⟨by decide, by decide, by decide +kernel⟩, by decide⟩
set_option maxRecDepth 20000 in
theorem stX12_w2 : MSt (mdX12_w2) := tb_in (t7_in (List.mem_of_getElem? (i := 89) rfl)) rfl
def mdX12_w3 : MD := (yX12_w3, cX12_w3, 3, some .long, 1, 0, 0)
set_option maxRecDepth 20000 in
theorem okX12_w3 : MOk (mdX12_w3) 3 := ⟨tb_in (t7_in (List.mem_of_getElem? (i := 87) rfl)) rfl, tb_in (t1_in (List.mem_of_getElem? (i := 13) rfl)) rfl, ⟨by decide, by decide, by decide +kernel⟩, by decide⟩
set_option maxRecDepth 20000 in
theorem stX12_w3 : MSt (mdX12_w3) := tb_in (t7_in (List.mem_of_getElem? (i := 86) rfl)) rfl
def mdX12_w4 : MD := (yX12_w4, cX12_w4, 4, some .long, 2, 0, 0)
set_option maxRecDepth 20000 in
theorem okX12_w4 : MOk (mdX12_w4) 4 := ⟨tb_in (t7_in (List.mem_of_getElem? (i := 84) rfl)) rfl, tb_in (t1_in (List.mem_of_getElem? (i := 13) rfl)) rfl, ⟨by decide, by decide, by decide +kernel⟩, by decide⟩
set_option maxRecDepth 20000 in
theorem stX12_w4 : MSt (mdX12_w4) := tb_in (t7_in (List.mem_of_getElem? (i := 83) rfl)) rfl
def mdX12_w5 : MD := (yX12_w5, cX12_w5, 5, some .long, 3, 0, 0)
set_option maxRecDepth 20000 in
theorem okX12_w5 : MOk (mdX12_w5) 5 := ⟨tb_in (t7_in (List.mem_of_getElem? (i := 81) rfl)) rfl, tb_in (t1_in (List.mem_of_getElem? (i := 13) rfl)) rfl, ⟨by decide, by decide, by decide +kernel⟩, by decide⟩
set_option maxRecDepth 20000 in
theorem stX12_w5 : MSt (mdX12_w5) := tb_in (t7_in (List.mem_of_getElem? (i := 80) rfl)) rfl
def mdX12_w6 : MD := (yX12_w6, cX12_w6, 6, some .long, 4, 0, 0)
set_option maxRecDepth 20000 in
theorem okX12_w6 : MOk (mdX12_w6) 6 := ⟨tb_in (t7_in (List.mem_of_getElem? (i := 97) rfl)) rfl, tb_in (t1_in (List.mem_of_getElem? (i := 13) rfl)) rfl, ⟨by decide, by decide, by decide +kernel⟩, by decide⟩
set_option maxRecDepth 20000 in
theorem stX12_w6 : MSt (mdX12_w6) := tb_in (t7_in (List.mem_of_getElem? (i := 96) rfl)) rfl
def mdX12_isWord : MD := (yX12_isWord, cX12_isWord, 3, some .boolean, 0, 0, 0)
set_option maxRecDepth 20000 in
theorem okX12_isWord : MOk (mdX12_isWord) 1 := ⟨tb_in (t7_in (List.mem_of_getElem? (i := 94) rfl)) rfl, tb_in (t1_in (List.mem_of_getElem? (i := 13) rfl)) rfl, ⟨by decide, by decide, by decide +kernel⟩, by decide⟩
set_option maxRecDepth 20000 in
theorem inX12_isWord : Cond.instanceMethod (mY (mdX12_isWord)) ∈ tblG := tb_in (t7_in (List.mem_of_getElem? (i := 93) rfl)) rfl
set_option maxRecDepth 20000 in
theorem viX12_isWord : MVi (mdX12_isWord) := ⟨inX12_isWord, tp_in (List.mem_of_getElem? (i := 63) rfl) rfl⟩
def mdX12_emit : MD := (yX12_emit, cX12_emit, 3, none, 0, 0, 0)
set_option maxRecDepth 20000 in
theorem okX12_emit : MOk (mdX12_emit) 2 := ⟨tb_in (t7_in (List.mem_of_getElem? (i := 159) rfl)) rfl, tb_in (t1_in (List.mem_of_getElem? (i := 13) rfl)) rfl, ⟨by decide, by decide, by decide +kernel⟩, by decide⟩
set_option maxRecDepth 20000 in
theorem inX12_emit : Cond.instanceMethod (mY (mdX12_emit)) ∈ tblG := tb_in (t7_in (List.mem_of_getElem? (i := 158) rfl)) rfl
set_option maxRecDepth 20000 in
theorem viX12_emit : MVi (mdX12_emit) := ⟨inX12_emit, tp_in (List.mem_of_getElem? (i := 77) rfl) rfl⟩
def mdX12_nameOf : MD := (yX12_nameOf, cX12_nameOf, 1, some .int, 5, 0, 0)
set_option maxRecDepth 20000 in
theorem okX12_nameOf : MOk (mdX12_nameOf) 0 := ⟨tb_in (t7_in (List.mem_of_getElem? (i := 175) rfl)) rfl, tb_in (t1_in (List.mem_of_getElem? (i := 13) rfl)) rfl, ⟨by decide, by decide, by decide +kernel⟩, by decide⟩
set_option maxRecDepth 20000 in
theorem inX12_nameOf : Cond.instanceMethod (mY (mdX12_nameOf)) ∈ tblG := tb_in (t7_in (List.mem_of_getElem? (i := 174) rfl)) rfl
set_option maxRecDepth 20000 in
theorem viX12_nameOf : MVi (mdX12_nameOf) := ⟨inX12_nameOf, tp_in (List.mem_of_getElem? (i := 81) rfl) rfl⟩
def mdX12_isOf : MD := (yX12_isOf, cX12_isOf, 2, some .boolean, 0, 0, 0)
set_option maxRecDepth 20000 in
theorem okX12_isOf : MOk (mdX12_isOf) 1 := ⟨tb_in (t7_in (List.mem_of_getElem? (i := 179) rfl)) rfl, tb_in (t1_in (List.mem_of_getElem? (i := 13) rfl)) rfl, ⟨by decide, by decide, by decide +kernel⟩, by decide⟩
set_option maxRecDepth 20000 in
theorem inX12_isOf : Cond.instanceMethod (mY (mdX12_isOf)) ∈ tblG := tb_in (t7_in (List.mem_of_getElem? (i := 178) rfl)) rfl
set_option maxRecDepth 20000 in
theorem viX12_isOf : MVi (mdX12_isOf) := ⟨inX12_isOf, tp_in (List.mem_of_getElem? (i := 82) rfl) rfl⟩
def mdX12_rank : MD := (yX12_rank, cX12_rank, 1, some .int, 0, 0, 0)
set_option maxRecDepth 20000 in
theorem okX12_rank : MOk (mdX12_rank) 1 := ⟨tb_in (t7_in (List.mem_of_getElem? (i := 151) rfl)) rfl, tb_in (t1_in (List.mem_of_getElem? (i := 13) rfl)) rfl, ⟨by decide, by decide, by decide +kernel⟩, by decide⟩
set_option maxRecDepth 20000 in
theorem stX12_rank : MSt (mdX12_rank) := tb_in (t7_in (List.mem_of_getElem? (i := 150) rfl)) rfl
def mdX12_settlePile : MD := (yX12_settlePile, cX12_settlePile, 2, none, 1, 0, 0)
set_option maxRecDepth 20000 in
theorem okX12_settlePile : MOk (mdX12_settlePile) 1 := ⟨tb_in (t7_in (List.mem_of_getElem? (i := 155) rfl)) rfl, tb_in (t1_in (List.mem_of_getElem? (i := 13) rfl)) rfl, ⟨by decide, by decide, by decide +kernel⟩, by decide⟩
set_option maxRecDepth 20000 in
theorem inX12_settlePile : Cond.instanceMethod (mY (mdX12_settlePile)) ∈ tblG := tb_in (t7_in (List.mem_of_getElem? (i := 154) rfl)) rfl
set_option maxRecDepth 20000 in
theorem viX12_settlePile : MVi (mdX12_settlePile) := ⟨inX12_settlePile, tp_in (List.mem_of_getElem? (i := 76) rfl) rfl⟩
def mdX12_opened : MD := (yX12_opened, cX12_opened, 2, some .int, 2, 0, 0)
set_option maxRecDepth 20000 in
theorem okX12_opened : MOk (mdX12_opened) 1 := ⟨tb_in (t7_in (List.mem_of_getElem? (i := 183) rfl)) rfl, tb_in (t1_in (List.mem_of_getElem? (i := 13) rfl)) rfl, ⟨by decide, by decide, by decide +kernel⟩, by decide⟩
set_option maxRecDepth 20000 in
theorem inX12_opened : Cond.instanceMethod (mY (mdX12_opened)) ∈ tblG := tb_in (t7_in (List.mem_of_getElem? (i := 182) rfl)) rfl
set_option maxRecDepth 20000 in
theorem viX12_opened : MVi (mdX12_opened) := ⟨inX12_opened, tp_in (List.mem_of_getElem? (i := 83) rfl) rfl⟩
def mdX12_beginOne : MD := (yX12_beginOne, cX12_beginOne, 2, some .int, 6, 0, 0)
set_option maxRecDepth 20000 in
theorem okX12_beginOne : MOk (mdX12_beginOne) 0 := ⟨tb_in (t7_in (List.mem_of_getElem? (i := 171) rfl)) rfl, tb_in (t1_in (List.mem_of_getElem? (i := 13) rfl)) rfl, ⟨by decide, by decide, by decide +kernel⟩, by decide⟩
set_option maxRecDepth 20000 in
theorem inX12_beginOne : Cond.instanceMethod (mY (mdX12_beginOne)) ∈ tblG := tb_in (t7_in (List.mem_of_getElem? (i := 170) rfl)) rfl
set_option maxRecDepth 20000 in
theorem viX12_beginOne : MVi (mdX12_beginOne) := ⟨inX12_beginOne, tp_in (List.mem_of_getElem? (i := 80) rfl) rfl⟩
def mdX12_openAt : MD := (yX12_openAt, cX12_openAt, 2, some .int, 0, 0, 0)
set_option maxRecDepth 20000 in
theorem okX12_openAt : MOk (mdX12_openAt) 0 := ⟨tb_in (t7_in (List.mem_of_getElem? (i := 163) rfl)) rfl, tb_in (t1_in (List.mem_of_getElem? (i := 13) rfl)) rfl, ⟨by decide, by decide, by decide +kernel⟩, by decide⟩
set_option maxRecDepth 20000 in
theorem inX12_openAt : Cond.instanceMethod (mY (mdX12_openAt)) ∈ tblG := tb_in (t7_in (List.mem_of_getElem? (i := 162) rfl)) rfl
set_option maxRecDepth 20000 in
theorem viX12_openAt : MVi (mdX12_openAt) := ⟨inX12_openAt, tp_in (List.mem_of_getElem? (i := 78) rfl) rfl⟩
def mdX12_shut : MD := (yX12_shut, cX12_shut, 2, none, 2, 0, 0)
set_option maxRecDepth 20000 in
theorem okX12_shut : MOk (mdX12_shut) 1 := ⟨tb_in (t7_in (List.mem_of_getElem? (i := 167) rfl)) rfl, tb_in (t1_in (List.mem_of_getElem? (i := 13) rfl)) rfl, ⟨by decide, by decide, by decide +kernel⟩, by decide⟩
set_option maxRecDepth 20000 in
theorem inX12_shut : Cond.instanceMethod (mY (mdX12_shut)) ∈ tblG := tb_in (t7_in (List.mem_of_getElem? (i := 166) rfl)) rfl
set_option maxRecDepth 20000 in
theorem viX12_shut : MVi (mdX12_shut) := ⟨inX12_shut, tp_in (List.mem_of_getElem? (i := 79) rfl) rfl⟩
def mdX12_behindOne : MD := (yX12_behindOne, cX12_behindOne, 5, some .int, 3, 0, 0)
set_option maxRecDepth 20000 in
theorem okX12_behindOne : MOk (mdX12_behindOne) 0 := ⟨tb_in (t7_in (List.mem_of_getElem? (i := 148) rfl)) rfl, tb_in (t1_in (List.mem_of_getElem? (i := 13) rfl)) rfl, ⟨by decide, by decide, by decide +kernel⟩, by decide⟩
set_option maxRecDepth 20000 in
theorem inX12_behindOne : Cond.instanceMethod (mY (mdX12_behindOne)) ∈ tblG := tb_in (t7_in (List.mem_of_getElem? (i := 147) rfl)) rfl
set_option maxRecDepth 20000 in
theorem viX12_behindOne : MVi (mdX12_behindOne) := ⟨inX12_behindOne, tp_in (List.mem_of_getElem? (i := 75) rfl) rfl⟩
def mdX12_summed : MD := (yX12_summed, cX12_summed, 3, some .int, 7, 0, 0)
set_option maxRecDepth 20000 in
theorem okX12_summed : MOk (mdX12_summed) 0 := ⟨tb_in (t7_in (List.mem_of_getElem? (i := 144) rfl)) rfl, tb_in (t1_in (List.mem_of_getElem? (i := 13) rfl)) rfl, ⟨by decide, by decide, by decide +kernel⟩, by decide⟩
set_option maxRecDepth 20000 in
theorem inX12_summed : Cond.instanceMethod (mY (mdX12_summed)) ∈ tblG := tb_in (t7_in (List.mem_of_getElem? (i := 143) rfl)) rfl
set_option maxRecDepth 20000 in
theorem viX12_summed : MVi (mdX12_summed) := ⟨inX12_summed, tp_in (List.mem_of_getElem? (i := 74) rfl) rfl⟩
def mdX12_figure : MD := (yX12_figure, cX12_figure, 4, some .int, 2, 0, 0)
set_option maxRecDepth 20000 in
theorem okX12_figure : MOk (mdX12_figure) 3 := ⟨tb_in (t7_in (List.mem_of_getElem? (i := 108) rfl)) rfl, tb_in (t1_in (List.mem_of_getElem? (i := 13) rfl)) rfl, ⟨by decide, by decide, by decide +kernel⟩, by decide⟩
set_option maxRecDepth 20000 in
theorem inX12_figure : Cond.instanceMethod (mY (mdX12_figure)) ∈ tblG := tb_in (t7_in (List.mem_of_getElem? (i := 107) rfl)) rfl
set_option maxRecDepth 20000 in
theorem viX12_figure : MVi (mdX12_figure) := ⟨inX12_figure, tp_in (List.mem_of_getElem? (i := 65) rfl) rfl⟩
def mdX12_worded : MD := (yX12_worded, cX12_worded, 6, some .int, 3, 0, 0)
set_option maxRecDepth 20000 in
theorem okX12_worded : MOk (mdX12_worded) 4 := ⟨tb_in (t7_in (List.mem_of_getElem? (i := 116) rfl)) rfl, tb_in (t1_in (List.mem_of_getElem? (i := 13) rfl)) rfl, ⟨by decide, by decide, by decide +kernel⟩, by decide⟩
set_option maxRecDepth 20000 in
theorem inX12_worded : Cond.instanceMethod (mY (mdX12_worded)) ∈ tblG := tb_in (t7_in (List.mem_of_getElem? (i := 115) rfl)) rfl
set_option maxRecDepth 20000 in
theorem viX12_worded : MVi (mdX12_worded) := ⟨inX12_worded, tp_in (List.mem_of_getElem? (i := 67) rfl) rfl⟩
def mdX12_sideOf : MD := (yX12_sideOf, cX12_sideOf, 3, some .int, 4, 0, 0)
set_option maxRecDepth 20000 in
theorem okX12_sideOf : MOk (mdX12_sideOf) 1 := ⟨tb_in (t7_in (List.mem_of_getElem? (i := 128) rfl)) rfl, tb_in (t1_in (List.mem_of_getElem? (i := 13) rfl)) rfl, ⟨by decide, by decide, by decide +kernel⟩, by decide⟩
set_option maxRecDepth 20000 in
theorem inX12_sideOf : Cond.instanceMethod (mY (mdX12_sideOf)) ∈ tblG := tb_in (t7_in (List.mem_of_getElem? (i := 127) rfl)) rfl
set_option maxRecDepth 20000 in
theorem viX12_sideOf : MVi (mdX12_sideOf) := ⟨inX12_sideOf, tp_in (List.mem_of_getElem? (i := 70) rfl) rfl⟩
def mdX12_streetClause : MD := (yX12_streetClause, cX12_streetClause, 3, some .int, 4, 0, 0)
set_option maxRecDepth 20000 in
theorem okX12_streetClause : MOk (mdX12_streetClause) 1 := ⟨tb_in (t7_in (List.mem_of_getElem? (i := 112) rfl)) rfl, tb_in (t1_in (List.mem_of_getElem? (i := 13) rfl)) rfl, ⟨by decide, by decide, by decide +kernel⟩, by decide⟩
set_option maxRecDepth 20000 in
theorem inX12_streetClause : Cond.instanceMethod (mY (mdX12_streetClause)) ∈ tblG := tb_in (t7_in (List.mem_of_getElem? (i := 111) rfl)) rfl
set_option maxRecDepth 20000 in
theorem viX12_streetClause : MVi (mdX12_streetClause) := ⟨inX12_streetClause, tp_in (List.mem_of_getElem? (i := 66) rfl) rfl⟩
def mdX12_oneTurn : MD := (yX12_oneTurn, cX12_oneTurn, 6, some .int, 5, 0, 0)
set_option maxRecDepth 20000 in
theorem okX12_oneTurn : MOk (mdX12_oneTurn) 2 := ⟨tb_in (t7_in (List.mem_of_getElem? (i := 124) rfl)) rfl, tb_in (t1_in (List.mem_of_getElem? (i := 13) rfl)) rfl, ⟨by decide, by decide, by decide +kernel⟩, by decide⟩
set_option maxRecDepth 20000 in
theorem inX12_oneTurn : Cond.instanceMethod (mY (mdX12_oneTurn)) ∈ tblG := tb_in (t7_in (List.mem_of_getElem? (i := 123) rfl)) rfl
set_option maxRecDepth 20000 in
theorem viX12_oneTurn : MVi (mdX12_oneTurn) := ⟨inX12_oneTurn, tp_in (List.mem_of_getElem? (i := 69) rfl) rfl⟩
def mdX12_tellingClause : MD := (yX12_tellingClause, cX12_tellingClause, 4, some .int, 6, 0, 0)
set_option maxRecDepth 20000 in
theorem okX12_tellingClause : MOk (mdX12_tellingClause) 1 := ⟨tb_in (t7_in (List.mem_of_getElem? (i := 120) rfl)) rfl, tb_in (t1_in (List.mem_of_getElem? (i := 13) rfl)) rfl, ⟨by decide, by decide, by decide +kernel⟩, by decide⟩
set_option maxRecDepth 20000 in
theorem inX12_tellingClause : Cond.instanceMethod (mY (mdX12_tellingClause)) ∈ tblG := tb_in (t7_in (List.mem_of_getElem? (i := 119) rfl)) rfl
set_option maxRecDepth 20000 in
theorem viX12_tellingClause : MVi (mdX12_tellingClause) := ⟨inX12_tellingClause, tp_in (List.mem_of_getElem? (i := 68) rfl) rfl⟩
def mdX12_startClause : MD := (yX12_startClause, cX12_startClause, 3, some .int, 5, 0, 0)
set_option maxRecDepth 20000 in
theorem okX12_startClause : MOk (mdX12_startClause) 1 := ⟨tb_in (t7_in (List.mem_of_getElem? (i := 132) rfl)) rfl, tb_in (t1_in (List.mem_of_getElem? (i := 13) rfl)) rfl, ⟨by decide, by decide, by decide +kernel⟩, by decide⟩
set_option maxRecDepth 20000 in
theorem inX12_startClause : Cond.instanceMethod (mY (mdX12_startClause)) ∈ tblG := tb_in (t7_in (List.mem_of_getElem? (i := 131) rfl)) rfl
set_option maxRecDepth 20000 in
theorem viX12_startClause : MVi (mdX12_startClause) := ⟨inX12_startClause, tp_in (List.mem_of_getElem? (i := 71) rfl) rfl⟩
def mdX12_turnClause : MD := (yX12_turnClause, cX12_turnClause, 3, some .int, 5, 0, 0)
set_option maxRecDepth 20000 in
theorem okX12_turnClause : MOk (mdX12_turnClause) 1 := ⟨tb_in (t7_in (List.mem_of_getElem? (i := 136) rfl)) rfl, tb_in (t1_in (List.mem_of_getElem? (i := 13) rfl)) rfl, ⟨by decide, by decide, by decide +kernel⟩, by decide⟩
set_option maxRecDepth 20000 in
theorem inX12_turnClause : Cond.instanceMethod (mY (mdX12_turnClause)) ∈ tblG := tb_in (t7_in (List.mem_of_getElem? (i := 135) rfl)) rfl
set_option maxRecDepth 20000 in
theorem viX12_turnClause : MVi (mdX12_turnClause) := ⟨inX12_turnClause, tp_in (List.mem_of_getElem? (i := 72) rfl) rfl⟩
def mdX12_lawClause : MD := (yX12_lawClause, cX12_lawClause, 3, some .int, 8, 0, 0)
set_option maxRecDepth 20000 in
theorem okX12_lawClause : MOk (mdX12_lawClause) 1 := ⟨tb_in (t7_in (List.mem_of_getElem? (i := 140) rfl)) rfl, tb_in (t1_in (List.mem_of_getElem? (i := 13) rfl)) rfl, ⟨by decide, by decide, by decide +kernel⟩, by decide⟩
set_option maxRecDepth 20000 in
theorem inX12_lawClause : Cond.instanceMethod (mY (mdX12_lawClause)) ∈ tblG := tb_in (t7_in (List.mem_of_getElem? (i := 139) rfl)) rfl
set_option maxRecDepth 20000 in
theorem viX12_lawClause : MVi (mdX12_lawClause) := ⟨inX12_lawClause, tp_in (List.mem_of_getElem? (i := 73) rfl) rfl⟩
def mdX12_body : MD := (yX12_body, cX12_body, 3, some .int, 9, 0, 0)
set_option maxRecDepth 20000 in
theorem okX12_body : MOk (mdX12_body) 2 := ⟨tb_in (t7_in (List.mem_of_getElem? (i := 104) rfl)) rfl, tb_in (t1_in (List.mem_of_getElem? (i := 13) rfl)) rfl, ⟨by decide, by decide, by decide +kernel⟩, by decide⟩
set_option maxRecDepth 20000 in
theorem inX12_body : Cond.instanceMethod (mY (mdX12_body)) ∈ tblG := tb_in (t7_in (List.mem_of_getElem? (i := 103) rfl)) rfl
set_option maxRecDepth 20000 in
theorem viX12_body : MVi (mdX12_body) := ⟨inX12_body, tp_in (List.mem_of_getElem? (i := 64) rfl) rfl⟩
def mdX12_sortOf : MD := (yX12_sortOf, cX12_sortOf, 1, some .int, 5, 0, 0)
set_option maxRecDepth 20000 in
theorem okX12_sortOf : MOk (mdX12_sortOf) 0 := ⟨tb_in (t7_in (List.mem_of_getElem? (i := 78) rfl)) rfl, tb_in (t1_in (List.mem_of_getElem? (i := 13) rfl)) rfl, ⟨by decide, by decide, by decide +kernel⟩, by decide⟩
set_option maxRecDepth 20000 in
theorem inX12_sortOf : Cond.instanceMethod (mY (mdX12_sortOf)) ∈ tblG := tb_in (t7_in (List.mem_of_getElem? (i := 77) rfl)) rfl
set_option maxRecDepth 20000 in
theorem viX12_sortOf : MVi (mdX12_sortOf) := ⟨inX12_sortOf, tp_in (List.mem_of_getElem? (i := 62) rfl) rfl⟩
def mdX12_clause : MD := (yX12_clause, cX12_clause, 5, some .int, 10, 0, 0)
set_option maxRecDepth 20000 in
theorem okX12_clause : MOk (mdX12_clause) 0 := ⟨tb_in (t7_in (List.mem_of_getElem? (i := 74) rfl)) rfl, tb_in (t1_in (List.mem_of_getElem? (i := 13) rfl)) rfl, ⟨by decide, by decide, by decide +kernel⟩, by decide⟩
set_option maxRecDepth 20000 in
theorem inX12_clause : Cond.instanceMethod (mY (mdX12_clause)) ∈ tblG := tb_in (t7_in (List.mem_of_getElem? (i := 73) rfl)) rfl
set_option maxRecDepth 20000 in
theorem viX12_clause : MVi (mdX12_clause) := ⟨inX12_clause, tp_in (List.mem_of_getElem? (i := 61) rfl) rfl⟩
def mdX12_readText : MD := (yX12_readText, cX12_readText, 2, some .int, 11, 0, 0)
set_option maxRecDepth 20000 in
theorem okX12_readText : MOk (mdX12_readText) 0 := ⟨tb_in (t7_in (List.mem_of_getElem? (i := 51) rfl)) rfl, tb_in (t1_in (List.mem_of_getElem? (i := 13) rfl)) rfl, ⟨by decide, by decide, by decide +kernel⟩, by decide⟩
set_option maxRecDepth 20000 in
theorem inX12_readText : Cond.instanceMethod (mY (mdX12_readText)) ∈ tblG := tb_in (t7_in (List.mem_of_getElem? (i := 50) rfl)) rfl
set_option maxRecDepth 20000 in
theorem viX12_readText : MVi (mdX12_readText) := ⟨inX12_readText, tp_in (List.mem_of_getElem? (i := 58) rfl) rfl⟩
def mdX12_text : MD := (yX12_text, cX12_text, 1, some .int, 12, 0, 0)
set_option maxRecDepth 20000 in
theorem okX12_text : MOk (mdX12_text) 0 := ⟨tb_in (t7_in (List.mem_of_getElem? (i := 47) rfl)) rfl, tb_in (t1_in (List.mem_of_getElem? (i := 13) rfl)) rfl, ⟨by decide, by decide, by decide +kernel⟩, by decide⟩
set_option maxRecDepth 20000 in
theorem inX12_text : Cond.instanceMethod (mY (mdX12_text)) ∈ tblG := tb_in (t7_in (List.mem_of_getElem? (i := 45) rfl)) rfl
set_option maxRecDepth 20000 in
theorem viX12_text : MVi (mdX12_text) := ⟨inX12_text, tb_in (t7_in (List.mem_of_getElem? (i := 46) rfl)) rfl⟩
def mdX12_fault : MD := (yX12_fault, cX12_fault, 2, some .int, 0, 0, 0)
set_option maxRecDepth 20000 in
theorem okX12_fault : MOk (mdX12_fault) 1 := ⟨tb_in (t7_in (List.mem_of_getElem? (i := 187) rfl)) rfl, tb_in (t1_in (List.mem_of_getElem? (i := 13) rfl)) rfl, ⟨by decide, by decide, by decide +kernel⟩, by decide⟩
set_option maxRecDepth 20000 in
theorem inX12_fault : Cond.instanceMethod (mY (mdX12_fault)) ∈ tblG := tb_in (t7_in (List.mem_of_getElem? (i := 185) rfl)) rfl
set_option maxRecDepth 20000 in
theorem viX12_fault : MVi (mdX12_fault) := ⟨inX12_fault, tb_in (t7_in (List.mem_of_getElem? (i := 186) rfl)) rfl⟩
def mdX12_by : MD := (yX12_by, cX12_by, 2, some .boolean, 1, 0, 0)
set_option maxRecDepth 20000 in
theorem okX12_by : MOk (mdX12_by) 1 := ⟨tb_in (t7_in (List.mem_of_getElem? (i := 191) rfl)) rfl, tb_in (t1_in (List.mem_of_getElem? (i := 13) rfl)) rfl, ⟨by decide, by decide, by decide +kernel⟩, by decide⟩
set_option maxRecDepth 20000 in
theorem inX12_by : Cond.instanceMethod (mY (mdX12_by)) ∈ tblG := tb_in (t7_in (List.mem_of_getElem? (i := 189) rfl)) rfl
set_option maxRecDepth 20000 in
theorem viX12_by : MVi (mdX12_by) := ⟨inX12_by, tb_in (t7_in (List.mem_of_getElem? (i := 190) rfl)) rfl⟩
def mdX12_held : MD := (yX12_held, cX12_held, 2, some .long, 0, 0, 0)
set_option maxRecDepth 20000 in
theorem okX12_held : MOk (mdX12_held) 1 := ⟨tb_in (t8_in (List.mem_of_getElem? (i := 13) rfl)) rfl, tb_in (t1_in (List.mem_of_getElem? (i := 13) rfl)) rfl, ⟨by decide, by decide, by decide +kernel⟩, by decide⟩
set_option maxRecDepth 20000 in
theorem stX12_held : MSt (mdX12_held) := tb_in (t8_in (List.mem_of_getElem? (i := 12) rfl)) rfl
def mdX12_two : MD := (yX12_two, cX12_two, 5, some .long, 1, 0, 0)
set_option maxRecDepth 20000 in
theorem okX12_two : MOk (mdX12_two) 3 := ⟨tb_in (t8_in (List.mem_of_getElem? (i := 10) rfl)) rfl, tb_in (t1_in (List.mem_of_getElem? (i := 13) rfl)) rfl, ⟨by decide, by decide, by decide +kernel⟩, by decide⟩
set_option maxRecDepth 20000 in
theorem stX12_two : MSt (mdX12_two) := tb_in (t8_in (List.mem_of_getElem? (i := 9) rfl)) rfl
def mdX12_worked : MD := (yX12_worked, cX12_worked, 8, some .int, 2, 0, 0)
set_option maxRecDepth 20000 in
theorem okX12_worked : MOk (mdX12_worked) 1 := ⟨tb_in (t8_in (List.mem_of_getElem? (i := 7) rfl)) rfl, tb_in (t1_in (List.mem_of_getElem? (i := 13) rfl)) rfl, ⟨by decide, by decide, by decide +kernel⟩, by decide⟩
set_option maxRecDepth 20000 in
theorem inX12_worked : Cond.instanceMethod (mY (mdX12_worked)) ∈ tblG := tb_in (t8_in (List.mem_of_getElem? (i := 6) rfl)) rfl
set_option maxRecDepth 20000 in
theorem viX12_worked : MVi (mdX12_worked) := ⟨inX12_worked, tp_in (List.mem_of_getElem? (i := 94) rfl) rfl⟩
def mdX12_says : MD := (yX12_says, cX12_says, 7, some .int, 3, 0, 0)
set_option maxRecDepth 20000 in
theorem okX12_says : MOk (mdX12_says) 4 := ⟨tb_in (t8_in (List.mem_of_getElem? (i := 3) rfl)) rfl, tb_in (t1_in (List.mem_of_getElem? (i := 13) rfl)) rfl, ⟨by decide, by decide, by decide +kernel⟩, by decide⟩
set_option maxRecDepth 20000 in
theorem inX12_says : Cond.instanceMethod (mY (mdX12_says)) ∈ tblG := tb_in (t8_in (List.mem_of_getElem? (i := 2) rfl)) rfl
set_option maxRecDepth 20000 in
theorem viX12_says : MVi (mdX12_says) := ⟨inX12_says, tp_in (List.mem_of_getElem? (i := 93) rfl) rfl⟩
def mdX12_nameTeller : MD := (yX12_nameTeller, cX12_nameTeller, 2, none, 1, 0, 0)
set_option maxRecDepth 20000 in
theorem okX12_nameTeller : MOk (mdX12_nameTeller) 1 := ⟨tb_in (t8_in (List.mem_of_getElem? (i := 42) rfl)) rfl, tb_in (t1_in (List.mem_of_getElem? (i := 13) rfl)) rfl, ⟨by decide, by decide, by decide +kernel⟩, by decide⟩
set_option maxRecDepth 20000 in
theorem inX12_nameTeller : Cond.instanceMethod (mY (mdX12_nameTeller)) ∈ tblG := tb_in (t8_in (List.mem_of_getElem? (i := 41) rfl)) rfl
set_option maxRecDepth 20000 in
theorem viX12_nameTeller : MVi (mdX12_nameTeller) := ⟨inX12_nameTeller, tp_in (List.mem_of_getElem? (i := 98) rfl) rfl⟩
def mdX12_slipOf : MD := (yX12_slipOf, cX12_slipOf, 4, some .int, 4, 0, 0)
set_option maxRecDepth 20000 in
theorem okX12_slipOf : MOk (mdX12_slipOf) 2 := ⟨tb_in (t8_in (List.mem_of_getElem? (i := 146) rfl)) rfl, tb_in (t1_in (List.mem_of_getElem? (i := 13) rfl)) rfl, ⟨by decide, by decide, by decide +kernel⟩, by decide⟩
set_option maxRecDepth 20000 in
theorem inX12_slipOf : Cond.instanceMethod (mY (mdX12_slipOf)) ∈ tblG := tb_in (t8_in (List.mem_of_getElem? (i := 145) rfl)) rfl
set_option maxRecDepth 20000 in
theorem viX12_slipOf : MVi (mdX12_slipOf) := ⟨inX12_slipOf, tp_in (List.mem_of_getElem? (i := 115) rfl) rfl⟩
def mdX12_paceOf : MD := (yX12_paceOf, cX12_paceOf, 3, some .int, 4, 0, 0)
set_option maxRecDepth 20000 in
theorem okX12_paceOf : MOk (mdX12_paceOf) 2 := ⟨tb_in (t7_in (List.mem_of_getElem? (i := 231) rfl)) rfl, tb_in (t1_in (List.mem_of_getElem? (i := 13) rfl)) rfl, ⟨by decide, by decide, by decide +kernel⟩, by decide⟩
set_option maxRecDepth 20000 in
theorem inX12_paceOf : Cond.instanceMethod (mY (mdX12_paceOf)) ∈ tblG := tb_in (t7_in (List.mem_of_getElem? (i := 230) rfl)) rfl
set_option maxRecDepth 20000 in
theorem viX12_paceOf : MVi (mdX12_paceOf) := ⟨inX12_paceOf, tp_in (List.mem_of_getElem? (i := 90) rfl) rfl⟩
def mdX12_asksOf : MD := (yX12_asksOf, cX12_asksOf, 2, some .int, 4, 0, 0)
set_option maxRecDepth 20000 in
theorem okX12_asksOf : MOk (mdX12_asksOf) 1 := ⟨tb_in (t8_in (List.mem_of_getElem? (i := 38) rfl)) rfl, tb_in (t1_in (List.mem_of_getElem? (i := 13) rfl)) rfl, ⟨by decide, by decide, by decide +kernel⟩, by decide⟩
set_option maxRecDepth 20000 in
theorem inX12_asksOf : Cond.instanceMethod (mY (mdX12_asksOf)) ∈ tblG := tb_in (t8_in (List.mem_of_getElem? (i := 37) rfl)) rfl
set_option maxRecDepth 20000 in
theorem viX12_asksOf : MVi (mdX12_asksOf) := ⟨inX12_asksOf, tp_in (List.mem_of_getElem? (i := 97) rfl) rfl⟩
def mdX12_begin : MD := (yX12_begin, cX12_begin, 3, none, 0, 0, 0)
set_option maxRecDepth 20000 in
theorem okX12_begin : MOk (mdX12_begin) 2 := ⟨tb_in (t8_in (List.mem_of_getElem? (i := 66) rfl)) rfl, tb_in (t1_in (List.mem_of_getElem? (i := 13) rfl)) rfl, ⟨by decide, by decide, by decide +kernel⟩, by decide⟩
set_option maxRecDepth 20000 in
theorem inX12_begin : Cond.instanceMethod (mY (mdX12_begin)) ∈ tblG := tb_in (t8_in (List.mem_of_getElem? (i := 65) rfl)) rfl
set_option maxRecDepth 20000 in
theorem viX12_begin : MVi (mdX12_begin) := ⟨inX12_begin, tp_in (List.mem_of_getElem? (i := 103) rfl) rfl⟩
def mdX12_isDoubt : MD := (yX12_isDoubt, cX12_isDoubt, 3, some .boolean, 1, 0, 0)
set_option maxRecDepth 20000 in
theorem okX12_isDoubt : MOk (mdX12_isDoubt) 1 := ⟨tb_in (t8_in (List.mem_of_getElem? (i := 82) rfl)) rfl, tb_in (t1_in (List.mem_of_getElem? (i := 13) rfl)) rfl, ⟨by decide, by decide, by decide +kernel⟩, by decide⟩
set_option maxRecDepth 20000 in
theorem inX12_isDoubt : Cond.instanceMethod (mY (mdX12_isDoubt)) ∈ tblG := tb_in (t8_in (List.mem_of_getElem? (i := 81) rfl)) rfl
set_option maxRecDepth 20000 in
theorem viX12_isDoubt : MVi (mdX12_isDoubt) := ⟨inX12_isDoubt, tp_in (List.mem_of_getElem? (i := 107) rfl) rfl⟩
def mdX12_goOn : MD := (yX12_goOn, cX12_goOn, 1, some .boolean, 5, 0, 0)
set_option maxRecDepth 20000 in
theorem okX12_goOn : MOk (mdX12_goOn) 0 := ⟨tb_in (t8_in (List.mem_of_getElem? (i := 78) rfl)) rfl, tb_in (t1_in (List.mem_of_getElem? (i := 13) rfl)) rfl, ⟨by decide, by decide, by decide +kernel⟩, by decide⟩
set_option maxRecDepth 20000 in
theorem inX12_goOn : Cond.instanceMethod (mY (mdX12_goOn)) ∈ tblG := tb_in (t8_in (List.mem_of_getElem? (i := 77) rfl)) rfl
set_option maxRecDepth 20000 in
theorem viX12_goOn : MVi (mdX12_goOn) := ⟨inX12_goOn, tp_in (List.mem_of_getElem? (i := 106) rfl) rfl⟩
def mdX12_isCounted : MD := (yX12_isCounted, cX12_isCounted, 3, some .boolean, 1, 0, 0)
set_option maxRecDepth 20000 in
theorem okX12_isCounted : MOk (mdX12_isCounted) 2 := ⟨tb_in (t8_in (List.mem_of_getElem? (i := 86) rfl)) rfl, tb_in (t1_in (List.mem_of_getElem? (i := 13) rfl)) rfl, ⟨by decide, by decide, by decide +kernel⟩, by decide⟩
set_option maxRecDepth 20000 in
theorem inX12_isCounted : Cond.instanceMethod (mY (mdX12_isCounted)) ∈ tblG := tb_in (t8_in (List.mem_of_getElem? (i := 85) rfl)) rfl
set_option maxRecDepth 20000 in
theorem viX12_isCounted : MVi (mdX12_isCounted) := ⟨inX12_isCounted, tp_in (List.mem_of_getElem? (i := 108) rfl) rfl⟩
def mdX12_goTurn : MD := (yX12_goTurn, cX12_goTurn, 10, some .boolean, 6, 0, 0)
set_option maxRecDepth 20000 in
theorem okX12_goTurn : MOk (mdX12_goTurn) 2 := ⟨tb_in (t8_in (List.mem_of_getElem? (i := 74) rfl)) rfl, tb_in (t1_in (List.mem_of_getElem? (i := 13) rfl)) rfl, ⟨by decide, by decide, by decide +kernel⟩, by decide⟩
set_option maxRecDepth 20000 in
theorem inX12_goTurn : Cond.instanceMethod (mY (mdX12_goTurn)) ∈ tblG := tb_in (t8_in (List.mem_of_getElem? (i := 73) rfl)) rfl
set_option maxRecDepth 20000 in
theorem viX12_goTurn : MVi (mdX12_goTurn) := ⟨inX12_goTurn, tp_in (List.mem_of_getElem? (i := 105) rfl) rfl⟩
def mdX12_takeTurns : MD := (yX12_takeTurns, cX12_takeTurns, 4, none, 1, 0, 0)
set_option maxRecDepth 20000 in
theorem okX12_takeTurns : MOk (mdX12_takeTurns) 2 := ⟨tb_in (t8_in (List.mem_of_getElem? (i := 54) rfl)) rfl, tb_in (t1_in (List.mem_of_getElem? (i := 13) rfl)) rfl, ⟨by decide, by decide, by decide +kernel⟩, by decide⟩
set_option maxRecDepth 20000 in
theorem inX12_takeTurns : Cond.instanceMethod (mY (mdX12_takeTurns)) ∈ tblG := tb_in (t8_in (List.mem_of_getElem? (i := 53) rfl)) rfl
set_option maxRecDepth 20000 in
theorem viX12_takeTurns : MVi (mdX12_takeTurns) := ⟨inX12_takeTurns, tp_in (List.mem_of_getElem? (i := 100) rfl) rfl⟩
def mdX12_goAll : MD := (yX12_goAll, cX12_goAll, 3, some .boolean, 7, 0, 0)
set_option maxRecDepth 20000 in
theorem okX12_goAll : MOk (mdX12_goAll) 1 := ⟨tb_in (t8_in (List.mem_of_getElem? (i := 70) rfl)) rfl, tb_in (t1_in (List.mem_of_getElem? (i := 13) rfl)) rfl, ⟨by decide, by decide, by decide +kernel⟩, by decide⟩
set_option maxRecDepth 20000 in
theorem inX12_goAll : Cond.instanceMethod (mY (mdX12_goAll)) ∈ tblG := tb_in (t8_in (List.mem_of_getElem? (i := 69) rfl)) rfl
set_option maxRecDepth 20000 in
theorem viX12_goAll : MVi (mdX12_goAll) := ⟨inX12_goAll, tp_in (List.mem_of_getElem? (i := 104) rfl) rfl⟩
def mdX12_leadsOf : MD := (yX12_leadsOf, cX12_leadsOf, 3, some .int, 8, 0, 0)
set_option maxRecDepth 20000 in
theorem okX12_leadsOf : MOk (mdX12_leadsOf) 2 := ⟨tb_in (t8_in (List.mem_of_getElem? (i := 162) rfl)) rfl, tb_in (t1_in (List.mem_of_getElem? (i := 13) rfl)) rfl, ⟨by decide, by decide, by decide +kernel⟩, by decide⟩
set_option maxRecDepth 20000 in
theorem inX12_leadsOf : Cond.instanceMethod (mY (mdX12_leadsOf)) ∈ tblG := tb_in (t8_in (List.mem_of_getElem? (i := 161) rfl)) rfl
set_option maxRecDepth 20000 in
theorem viX12_leadsOf : MVi (mdX12_leadsOf) := ⟨inX12_leadsOf, tp_in (List.mem_of_getElem? (i := 118) rfl) rfl⟩
def mdX12_keep : MD := (yX12_keep, cX12_keep, 3, none, 0, 0, 0)
set_option maxRecDepth 20000 in
theorem okX12_keep : MOk (mdX12_keep) 0 := ⟨tb_in (t7_in (List.mem_of_getElem? (i := 203) rfl)) rfl, tb_in (t1_in (List.mem_of_getElem? (i := 13) rfl)) rfl, ⟨by decide, by decide, by decide +kernel⟩, by decide⟩
set_option maxRecDepth 20000 in
theorem inX12_keep : Cond.instanceMethod (mY (mdX12_keep)) ∈ tblG := tb_in (t7_in (List.mem_of_getElem? (i := 202) rfl)) rfl
set_option maxRecDepth 20000 in
theorem viX12_keep : MVi (mdX12_keep) := ⟨inX12_keep, tp_in (List.mem_of_getElem? (i := 84) rfl) rfl⟩
def mdX12_undo : MD := (yX12_undo, cX12_undo, 3, some .int, 0, 0, 0)
set_option maxRecDepth 20000 in
theorem okX12_undo : MOk (mdX12_undo) 0 := ⟨tb_in (t7_in (List.mem_of_getElem? (i := 195) rfl)) rfl, tb_in (t1_in (List.mem_of_getElem? (i := 13) rfl)) rfl, ⟨by decide, by decide, by decide +kernel⟩, by decide⟩
set_option maxRecDepth 20000 in
theorem inX12_undo : Cond.instanceMethod (mY (mdX12_undo)) ∈ tblG := tb_in (t7_in (List.mem_of_getElem? (i := 193) rfl)) rfl
set_option maxRecDepth 20000 in
theorem viX12_undo : MVi (mdX12_undo) := ⟨inX12_undo, tb_in (t7_in (List.mem_of_getElem? (i := 194) rfl)) rfl⟩
def mdX12_isWalker : MD := (yX12_isWalker, cX12_isWalker, 1, some .boolean, 0, 0, 0)
set_option maxRecDepth 20000 in
theorem okX12_isWalker : MOk (mdX12_isWalker) 0 := ⟨tb_in (t7_in (List.mem_of_getElem? (i := 215) rfl)) rfl, tb_in (t1_in (List.mem_of_getElem? (i := 13) rfl)) rfl, ⟨by decide, by decide, by decide +kernel⟩, by decide⟩
set_option maxRecDepth 20000 in
theorem inX12_isWalker : Cond.instanceMethod (mY (mdX12_isWalker)) ∈ tblG := tb_in (t7_in (List.mem_of_getElem? (i := 214) rfl)) rfl
set_option maxRecDepth 20000 in
theorem viX12_isWalker : MVi (mdX12_isWalker) := ⟨inX12_isWalker, tp_in (List.mem_of_getElem? (i := 86) rfl) rfl⟩
def mdX12_startNow : MD := (yX12_startNow, cX12_startNow, 3, none, 0, 0, 0)
set_option maxRecDepth 20000 in
theorem okX12_startNow : MOk (mdX12_startNow) 2 := ⟨tb_in (t7_in (List.mem_of_getElem? (i := 207) rfl)) rfl, tb_in (t1_in (List.mem_of_getElem? (i := 13) rfl)) rfl, ⟨by decide, by decide, by decide +kernel⟩, by decide⟩
set_option maxRecDepth 20000 in
theorem inX12_startNow : Cond.instanceMethod (mY (mdX12_startNow)) ∈ tblG := tb_in (t7_in (List.mem_of_getElem? (i := 206) rfl)) rfl
set_option maxRecDepth 20000 in
theorem viX12_startNow : MVi (mdX12_startNow) := ⟨inX12_startNow, tp_in (List.mem_of_getElem? (i := 85) rfl) rfl⟩
def mdX12_start : MD := (yX12_start, cX12_start, 3, some .boolean, 2, 0, 0)
set_option maxRecDepth 20000 in
theorem okX12_start : MOk (mdX12_start) 2 := ⟨tb_in (t7_in (List.mem_of_getElem? (i := 199) rfl)) rfl, tb_in (t1_in (List.mem_of_getElem? (i := 13) rfl)) rfl, ⟨by decide, by decide, by decide +kernel⟩, by decide⟩
set_option maxRecDepth 20000 in
theorem inX12_start : Cond.instanceMethod (mY (mdX12_start)) ∈ tblG := tb_in (t7_in (List.mem_of_getElem? (i := 197) rfl)) rfl
set_option maxRecDepth 20000 in
theorem viX12_start : MVi (mdX12_start) := ⟨inX12_start, tb_in (t7_in (List.mem_of_getElem? (i := 198) rfl)) rfl⟩
def mdX12_isAhead : MD := (yX12_isAhead, cX12_isAhead, 1, some .boolean, 1, 0, 0)
set_option maxRecDepth 20000 in
theorem okX12_isAhead : MOk (mdX12_isAhead) 0 := ⟨tb_in (t8_in (List.mem_of_getElem? (i := 126) rfl)) rfl, tb_in (t1_in (List.mem_of_getElem? (i := 13) rfl)) rfl, ⟨by decide, by decide, by decide +kernel⟩, by decide⟩
set_option maxRecDepth 20000 in
theorem inX12_isAhead : Cond.instanceMethod (mY (mdX12_isAhead)) ∈ tblG := tb_in (t8_in (List.mem_of_getElem? (i := 125) rfl)) rfl
set_option maxRecDepth 20000 in
theorem viX12_isAhead : MVi (mdX12_isAhead) := ⟨inX12_isAhead, tp_in (List.mem_of_getElem? (i := 114) rfl) rfl⟩
def mdX12_walkNow : MD := (yX12_walkNow, cX12_walkNow, 2, none, 5, 0, 0)
set_option maxRecDepth 20000 in
theorem okX12_walkNow : MOk (mdX12_walkNow) 0 := ⟨tb_in (t7_in (List.mem_of_getElem? (i := 227) rfl)) rfl, tb_in (t1_in (List.mem_of_getElem? (i := 13) rfl)) rfl, ⟨by decide, by decide, by decide +kernel⟩, by decide⟩
set_option maxRecDepth 20000 in
theorem inX12_walkNow : Cond.instanceMethod (mY (mdX12_walkNow)) ∈ tblG := tb_in (t7_in (List.mem_of_getElem? (i := 226) rfl)) rfl
set_option maxRecDepth 20000 in
theorem viX12_walkNow : MVi (mdX12_walkNow) := ⟨inX12_walkNow, tp_in (List.mem_of_getElem? (i := 89) rfl) rfl⟩
def mdX12_walkable : MD := (yX12_walkable, cX12_walkable, 4, some .int, 1, 0, 0)
set_option maxRecDepth 20000 in
theorem okX12_walkable : MOk (mdX12_walkable) 1 := ⟨tb_in (t7_in (List.mem_of_getElem? (i := 219) rfl)) rfl, tb_in (t1_in (List.mem_of_getElem? (i := 13) rfl)) rfl, ⟨by decide, by decide, by decide +kernel⟩, by decide⟩
set_option maxRecDepth 20000 in
theorem inX12_walkable : Cond.instanceMethod (mY (mdX12_walkable)) ∈ tblG := tb_in (t7_in (List.mem_of_getElem? (i := 218) rfl)) rfl
set_option maxRecDepth 20000 in
theorem viX12_walkable : MVi (mdX12_walkable) := ⟨inX12_walkable, tp_in (List.mem_of_getElem? (i := 87) rfl) rfl⟩
def mdX12_walkSo : MD := (yX12_walkSo, cX12_walkSo, 3, none, 6, 0, 0)
set_option maxRecDepth 20000 in
theorem okX12_walkSo : MOk (mdX12_walkSo) 1 := ⟨tb_in (t7_in (List.mem_of_getElem? (i := 223) rfl)) rfl, tb_in (t1_in (List.mem_of_getElem? (i := 13) rfl)) rfl, ⟨by decide, by decide, by decide +kernel⟩, by decide⟩
set_option maxRecDepth 20000 in
theorem inX12_walkSo : Cond.instanceMethod (mY (mdX12_walkSo)) ∈ tblG := tb_in (t7_in (List.mem_of_getElem? (i := 222) rfl)) rfl
set_option maxRecDepth 20000 in
theorem viX12_walkSo : MVi (mdX12_walkSo) := ⟨inX12_walkSo, tp_in (List.mem_of_getElem? (i := 88) rfl) rfl⟩
def mdX12_walk : MD := (yX12_walk, cX12_walk, 2, some .int, 7, 0, 0)
set_option maxRecDepth 20000 in
theorem okX12_walk : MOk (mdX12_walk) 1 := ⟨tb_in (t7_in (List.mem_of_getElem? (i := 211) rfl)) rfl, tb_in (t1_in (List.mem_of_getElem? (i := 13) rfl)) rfl, ⟨by decide, by decide, by decide +kernel⟩, by decide⟩
set_option maxRecDepth 20000 in
theorem inX12_walk : Cond.instanceMethod (mY (mdX12_walk)) ∈ tblG := tb_in (t7_in (List.mem_of_getElem? (i := 209) rfl)) rfl
set_option maxRecDepth 20000 in
theorem viX12_walk : MVi (mdX12_walk) := ⟨inX12_walk, tb_in (t7_in (List.mem_of_getElem? (i := 210) rfl)) rfl⟩
def mdX12_turned : MD := (yX12_turned, cX12_turned, 2, some .int, 0, 0, 0)
set_option maxRecDepth 20000 in
theorem okX12_turned : MOk (mdX12_turned) 2 := ⟨tb_in (t8_in (List.mem_of_getElem? (i := 22) rfl)) rfl, tb_in (t1_in (List.mem_of_getElem? (i := 13) rfl)) rfl, ⟨by decide, by decide, by decide +kernel⟩, by decide⟩
set_option maxRecDepth 20000 in
theorem stX12_turned : MSt (mdX12_turned) := tb_in (t8_in (List.mem_of_getElem? (i := 21) rfl)) rfl
def mdX12_turn : MD := (yX12_turn, cX12_turn, 2, some .int, 1, 0, 0)
set_option maxRecDepth 20000 in
theorem okX12_turn : MOk (mdX12_turn) 1 := ⟨tb_in (t8_in (List.mem_of_getElem? (i := 19) rfl)) rfl, tb_in (t1_in (List.mem_of_getElem? (i := 13) rfl)) rfl, ⟨by decide, by decide, by decide +kernel⟩, by decide⟩
set_option maxRecDepth 20000 in
theorem inX12_turn : Cond.instanceMethod (mY (mdX12_turn)) ∈ tblG := tb_in (t8_in (List.mem_of_getElem? (i := 17) rfl)) rfl
set_option maxRecDepth 20000 in
theorem viX12_turn : MVi (mdX12_turn) := ⟨inX12_turn, tb_in (t8_in (List.mem_of_getElem? (i := 18) rfl)) rfl⟩
def mdX12_askNow : MD := (yX12_askNow, cX12_askNow, 2, none, 5, 0, 0)
set_option maxRecDepth 20000 in
theorem okX12_askNow : MOk (mdX12_askNow) 1 := ⟨tb_in (t8_in (List.mem_of_getElem? (i := 34) rfl)) rfl, tb_in (t1_in (List.mem_of_getElem? (i := 13) rfl)) rfl, ⟨by decide, by decide, by decide +kernel⟩, by decide⟩
set_option maxRecDepth 20000 in
theorem inX12_askNow : Cond.instanceMethod (mY (mdX12_askNow)) ∈ tblG := tb_in (t8_in (List.mem_of_getElem? (i := 33) rfl)) rfl
set_option maxRecDepth 20000 in
theorem viX12_askNow : MVi (mdX12_askNow) := ⟨inX12_askNow, tp_in (List.mem_of_getElem? (i := 96) rfl) rfl⟩
def mdX12_ask : MD := (yX12_ask, cX12_ask, 2, some .int, 6, 0, 0)
set_option maxRecDepth 20000 in
theorem okX12_ask : MOk (mdX12_ask) 1 := ⟨tb_in (t8_in (List.mem_of_getElem? (i := 26) rfl)) rfl, tb_in (t1_in (List.mem_of_getElem? (i := 13) rfl)) rfl, ⟨by decide, by decide, by decide +kernel⟩, by decide⟩
set_option maxRecDepth 20000 in
theorem inX12_ask : Cond.instanceMethod (mY (mdX12_ask)) ∈ tblG := tb_in (t8_in (List.mem_of_getElem? (i := 24) rfl)) rfl
set_option maxRecDepth 20000 in
theorem viX12_ask : MVi (mdX12_ask) := ⟨inX12_ask, tb_in (t8_in (List.mem_of_getElem? (i := 25) rfl)) rfl⟩
def mdX12_follow : MD := (yX12_follow, cX12_follow, 3, some .int, 8, 0, 0)
set_option maxRecDepth 20000 in
theorem okX12_follow : MOk (mdX12_follow) 1 := ⟨tb_in (t8_in (List.mem_of_getElem? (i := 46) rfl)) rfl, tb_in (t1_in (List.mem_of_getElem? (i := 13) rfl)) rfl, ⟨by decide, by decide, by decide +kernel⟩, by decide⟩
set_option maxRecDepth 20000 in
theorem inX12_follow : Cond.instanceMethod (mY (mdX12_follow)) ∈ tblG := tb_in (t8_in (List.mem_of_getElem? (i := 44) rfl)) rfl
set_option maxRecDepth 20000 in
theorem viX12_follow : MVi (mdX12_follow) := ⟨inX12_follow, tb_in (t8_in (List.mem_of_getElem? (i := 45) rfl)) rfl⟩
def mdX12_isWalked : MD := (yX12_isWalked, cX12_isWalked, 3, some .boolean, 7, 0, 0)
set_option maxRecDepth 20000 in
theorem okX12_isWalked : MOk (mdX12_isWalked) 1 := ⟨tb_in (t8_in (List.mem_of_getElem? (i := 107) rfl)) rfl, tb_in (t1_in (List.mem_of_getElem? (i := 13) rfl)) rfl, ⟨by decide, by decide, by decide +kernel⟩, by decide⟩
set_option maxRecDepth 20000 in
theorem inX12_isWalked : Cond.instanceMethod (mY (mdX12_isWalked)) ∈ tblG := tb_in (t8_in (List.mem_of_getElem? (i := 106) rfl)) rfl
set_option maxRecDepth 20000 in
theorem viX12_isWalked : MVi (mdX12_isWalked) := ⟨inX12_isWalked, tp_in (List.mem_of_getElem? (i := 111) rfl) rfl⟩
def mdX12_isTaught : MD := (yX12_isTaught, cX12_isTaught, 3, some .boolean, 2, 0, 0)
set_option maxRecDepth 20000 in
theorem okX12_isTaught : MOk (mdX12_isTaught) 1 := ⟨tb_in (t8_in (List.mem_of_getElem? (i := 102) rfl)) rfl, tb_in (t1_in (List.mem_of_getElem? (i := 13) rfl)) rfl, ⟨by decide, by decide, by decide +kernel⟩, by decide⟩
set_option maxRecDepth 20000 in
theorem inX12_isTaught : Cond.instanceMethod (mY (mdX12_isTaught)) ∈ tblG := tb_in (t8_in (List.mem_of_getElem? (i := 101) rfl)) rfl
set_option maxRecDepth 20000 in
theorem viX12_isTaught : MVi (mdX12_isTaught) := ⟨inX12_isTaught, tp_in (List.mem_of_getElem? (i := 110) rfl) rfl⟩
def mdX12_isPlayed : MD := (yX12_isPlayed, cX12_isPlayed, 4, some .boolean, 9, 0, 0)
set_option maxRecDepth 20000 in
theorem okX12_isPlayed : MOk (mdX12_isPlayed) 1 := ⟨tb_in (t8_in (List.mem_of_getElem? (i := 94) rfl)) rfl, tb_in (t1_in (List.mem_of_getElem? (i := 13) rfl)) rfl, ⟨by decide, by decide, by decide +kernel⟩, by decide⟩
set_option maxRecDepth 20000 in
theorem inX12_isPlayed : Cond.instanceMethod (mY (mdX12_isPlayed)) ∈ tblG := tb_in (t8_in (List.mem_of_getElem? (i := 93) rfl)) rfl
set_option maxRecDepth 20000 in
theorem viX12_isPlayed : MVi (mdX12_isPlayed) := ⟨inX12_isPlayed, tp_in (List.mem_of_getElem? (i := 109) rfl) rfl⟩
def mdX12_played : MD := (yX12_played, cX12_played, 3, some .int, 10, 0, 0)
set_option maxRecDepth 20000 in
theorem okX12_played : MOk (mdX12_played) 1 := ⟨tb_in (t8_in (List.mem_of_getElem? (i := 90) rfl)) rfl, tb_in (t1_in (List.mem_of_getElem? (i := 13) rfl)) rfl, ⟨by decide, by decide, by decide +kernel⟩, by decide⟩
set_option maxRecDepth 20000 in
theorem inX12_played : Cond.instanceMethod (mY (mdX12_played)) ∈ tblG := tb_in (t8_in (List.mem_of_getElem? (i := 88) rfl)) rfl
set_option maxRecDepth 20000 in
theorem viX12_played : MVi (mdX12_played) := ⟨inX12_played, tb_in (t8_in (List.mem_of_getElem? (i := 89) rfl)) rfl⟩
def mdX12_anew : MD := (yX12_anew, cX12_anew, 1, none, 0, 0, 0)
set_option maxRecDepth 20000 in
theorem okX12_anew : MOk (mdX12_anew) 0 := ⟨tb_in (t8_in (List.mem_of_getElem? (i := 118) rfl)) rfl, tb_in (t1_in (List.mem_of_getElem? (i := 13) rfl)) rfl, ⟨by decide, by decide, by decide +kernel⟩, by decide⟩
set_option maxRecDepth 20000 in
theorem inX12_anew : Cond.instanceMethod (mY (mdX12_anew)) ∈ tblG := tb_in (t8_in (List.mem_of_getElem? (i := 117) rfl)) rfl
set_option maxRecDepth 20000 in
theorem viX12_anew : MVi (mdX12_anew) := ⟨inX12_anew, tp_in (List.mem_of_getElem? (i := 112) rfl) rfl⟩
def mdX12_oneOfDay : MD := (yX12_oneOfDay, cX12_oneOfDay, 3, none, 6, 0, 0)
set_option maxRecDepth 20000 in
theorem okX12_oneOfDay : MOk (mdX12_oneOfDay) 0 := ⟨tb_in (t8_in (List.mem_of_getElem? (i := 122) rfl)) rfl, tb_in (t1_in (List.mem_of_getElem? (i := 13) rfl)) rfl, ⟨by decide, by decide, by decide +kernel⟩, by decide⟩
set_option maxRecDepth 20000 in
theorem inX12_oneOfDay : Cond.instanceMethod (mY (mdX12_oneOfDay)) ∈ tblG := tb_in (t8_in (List.mem_of_getElem? (i := 121) rfl)) rfl
set_option maxRecDepth 20000 in
theorem viX12_oneOfDay : MVi (mdX12_oneOfDay) := ⟨inX12_oneOfDay, tp_in (List.mem_of_getElem? (i := 113) rfl) rfl⟩
def mdX12_day : MD := (yX12_day, cX12_day, 4, some .int, 7, 0, 0)
set_option maxRecDepth 20000 in
theorem okX12_day : MOk (mdX12_day) 2 := ⟨tb_in (t8_in (List.mem_of_getElem? (i := 114) rfl)) rfl, tb_in (t1_in (List.mem_of_getElem? (i := 13) rfl)) rfl, ⟨by decide, by decide, by decide +kernel⟩, by decide⟩
set_option maxRecDepth 20000 in
theorem inX12_day : Cond.instanceMethod (mY (mdX12_day)) ∈ tblG := tb_in (t8_in (List.mem_of_getElem? (i := 112) rfl)) rfl
set_option maxRecDepth 20000 in
theorem viX12_day : MVi (mdX12_day) := ⟨inX12_day, tb_in (t8_in (List.mem_of_getElem? (i := 113) rfl)) rfl⟩
def mdX12_walker : MD := (yX12_walker, cX12_walker, 2, some .int, 1, 0, 0)
set_option maxRecDepth 20000 in
theorem okX12_walker : MOk (mdX12_walker) 1 := ⟨tb_in (t8_in (List.mem_of_getElem? (i := 130) rfl)) rfl, tb_in (t1_in (List.mem_of_getElem? (i := 13) rfl)) rfl, ⟨by decide, by decide, by decide +kernel⟩, by decide⟩
set_option maxRecDepth 20000 in
theorem inX12_walker : Cond.instanceMethod (mY (mdX12_walker)) ∈ tblG := tb_in (t8_in (List.mem_of_getElem? (i := 128) rfl)) rfl
set_option maxRecDepth 20000 in
theorem viX12_walker : MVi (mdX12_walker) := ⟨inX12_walker, tb_in (t8_in (List.mem_of_getElem? (i := 129) rfl)) rfl⟩
def mdX12_ofCorner : MD := (yX12_ofCorner, cX12_ofCorner, 3, some .int, 2, 0, 0)
set_option maxRecDepth 20000 in
theorem okX12_ofCorner : MOk (mdX12_ofCorner) 2 := ⟨tb_in (t8_in (List.mem_of_getElem? (i := 134) rfl)) rfl, tb_in (t1_in (List.mem_of_getElem? (i := 13) rfl)) rfl, ⟨by decide, by decide, by decide +kernel⟩, by decide⟩
set_option maxRecDepth 20000 in
theorem inX12_ofCorner : Cond.instanceMethod (mY (mdX12_ofCorner)) ∈ tblG := tb_in (t8_in (List.mem_of_getElem? (i := 132) rfl)) rfl
set_option maxRecDepth 20000 in
theorem viX12_ofCorner : MVi (mdX12_ofCorner) := ⟨inX12_ofCorner, tb_in (t8_in (List.mem_of_getElem? (i := 133) rfl)) rfl⟩
def mdX12_ofTeller : MD := (yX12_ofTeller, cX12_ofTeller, 3, some .int, 2, 0, 0)
set_option maxRecDepth 20000 in
theorem okX12_ofTeller : MOk (mdX12_ofTeller) 2 := ⟨tb_in (t8_in (List.mem_of_getElem? (i := 138) rfl)) rfl, tb_in (t1_in (List.mem_of_getElem? (i := 13) rfl)) rfl, ⟨by decide, by decide, by decide +kernel⟩, by decide⟩
set_option maxRecDepth 20000 in
theorem inX12_ofTeller : Cond.instanceMethod (mY (mdX12_ofTeller)) ∈ tblG := tb_in (t8_in (List.mem_of_getElem? (i := 136) rfl)) rfl
set_option maxRecDepth 20000 in
theorem viX12_ofTeller : MVi (mdX12_ofTeller) := ⟨inX12_ofTeller, tb_in (t8_in (List.mem_of_getElem? (i := 137) rfl)) rfl⟩
def mdX12_ofTelling : MD := (yX12_ofTelling, cX12_ofTelling, 3, some .int, 5, 0, 0)
set_option maxRecDepth 20000 in
theorem okX12_ofTelling : MOk (mdX12_ofTelling) 2 := ⟨tb_in (t8_in (List.mem_of_getElem? (i := 142) rfl)) rfl, tb_in (t1_in (List.mem_of_getElem? (i := 13) rfl)) rfl, ⟨by decide, by decide, by decide +kernel⟩, by decide⟩
set_option maxRecDepth 20000 in
theorem inX12_ofTelling : Cond.instanceMethod (mY (mdX12_ofTelling)) ∈ tblG := tb_in (t8_in (List.mem_of_getElem? (i := 140) rfl)) rfl
set_option maxRecDepth 20000 in
theorem viX12_ofTelling : MVi (mdX12_ofTelling) := ⟨inX12_ofTelling, tb_in (t8_in (List.mem_of_getElem? (i := 141) rfl)) rfl⟩
def mdX12_leads : MD := (yX12_leads, cX12_leads, 3, some .int, 9, 0, 0)
set_option maxRecDepth 20000 in
theorem okX12_leads : MOk (mdX12_leads) 2 := ⟨tb_in (t8_in (List.mem_of_getElem? (i := 158) rfl)) rfl, tb_in (t1_in (List.mem_of_getElem? (i := 13) rfl)) rfl, ⟨by decide, by decide, by decide +kernel⟩, by decide⟩
set_option maxRecDepth 20000 in
theorem inX12_leads : Cond.instanceMethod (mY (mdX12_leads)) ∈ tblG := tb_in (t8_in (List.mem_of_getElem? (i := 156) rfl)) rfl
set_option maxRecDepth 20000 in
theorem viX12_leads : MVi (mdX12_leads) := ⟨inX12_leads, tb_in (t8_in (List.mem_of_getElem? (i := 157) rfl)) rfl⟩
def mdX12_findWeights : MD := (yX12_findWeights, cX12_findWeights, 5, none, 5, 0, 0)
set_option maxRecDepth 20000 in
theorem okX12_findWeights : MOk (mdX12_findWeights) 1 := ⟨tb_in (t8_in (List.mem_of_getElem? (i := 174) rfl)) rfl, tb_in (t1_in (List.mem_of_getElem? (i := 13) rfl)) rfl, ⟨by decide, by decide, by decide +kernel⟩, by decide⟩
set_option maxRecDepth 20000 in
theorem inX12_findWeights : Cond.instanceMethod (mY (mdX12_findWeights)) ∈ tblG := tb_in (t8_in (List.mem_of_getElem? (i := 173) rfl)) rfl
set_option maxRecDepth 20000 in
theorem viX12_findWeights : MVi (mdX12_findWeights) := ⟨inX12_findWeights, tp_in (List.mem_of_getElem? (i := 120) rfl) rfl⟩
def mdX12_findWays : MD := (yX12_findWays, cX12_findWays, 3, none, 9, 0, 0)
set_option maxRecDepth 20000 in
theorem okX12_findWays : MOk (mdX12_findWays) 1 := ⟨tb_in (t8_in (List.mem_of_getElem? (i := 170) rfl)) rfl, tb_in (t1_in (List.mem_of_getElem? (i := 13) rfl)) rfl, ⟨by decide, by decide, by decide +kernel⟩, by decide⟩
set_option maxRecDepth 20000 in
theorem inX12_findWays : Cond.instanceMethod (mY (mdX12_findWays)) ∈ tblG := tb_in (t8_in (List.mem_of_getElem? (i := 169) rfl)) rfl
set_option maxRecDepth 20000 in
theorem viX12_findWays : MVi (mdX12_findWays) := ⟨inX12_findWays, tp_in (List.mem_of_getElem? (i := 119) rfl) rfl⟩
def mdX12_weightTo : MD := (yX12_weightTo, cX12_weightTo, 4, some .int, 0, 0, 0)
set_option maxRecDepth 20000 in
theorem okX12_weightTo : MOk (mdX12_weightTo) 1 := ⟨tb_in (t8_in (List.mem_of_getElem? (i := 178) rfl)) rfl, tb_in (t1_in (List.mem_of_getElem? (i := 13) rfl)) rfl, ⟨by decide, by decide, by decide +kernel⟩, by decide⟩
set_option maxRecDepth 20000 in
theorem inX12_weightTo : Cond.instanceMethod (mY (mdX12_weightTo)) ∈ tblG := tb_in (t8_in (List.mem_of_getElem? (i := 177) rfl)) rfl
set_option maxRecDepth 20000 in
theorem viX12_weightTo : MVi (mdX12_weightTo) := ⟨inX12_weightTo, tp_in (List.mem_of_getElem? (i := 121) rfl) rfl⟩
def mdX12_likely : MD := (yX12_likely, cX12_likely, 3, some .int, 10, 0, 0)
set_option maxRecDepth 20000 in
theorem okX12_likely : MOk (mdX12_likely) 2 := ⟨tb_in (t8_in (List.mem_of_getElem? (i := 166) rfl)) rfl, tb_in (t1_in (List.mem_of_getElem? (i := 13) rfl)) rfl, ⟨by decide, by decide, by decide +kernel⟩, by decide⟩
set_option maxRecDepth 20000 in
theorem inX12_likely : Cond.instanceMethod (mY (mdX12_likely)) ∈ tblG := tb_in (t8_in (List.mem_of_getElem? (i := 164) rfl)) rfl
set_option maxRecDepth 20000 in
theorem viX12_likely : MVi (mdX12_likely) := ⟨inX12_likely, tb_in (t8_in (List.mem_of_getElem? (i := 165) rfl)) rfl⟩
def mdX12_common : MD := (yX12_common, cX12_common, 10, some .long, 0, 0, 0)
set_option maxRecDepth 20000 in
theorem okX12_common : MOk (mdX12_common) 2 := ⟨tb_in (t8_in (List.mem_of_getElem? (i := 196) rfl)) rfl, tb_in (t1_in (List.mem_of_getElem? (i := 13) rfl)) rfl, ⟨by decide, by decide, by decide +kernel⟩, by decide⟩
set_option maxRecDepth 20000 in
theorem stX12_common : MSt (mdX12_common) := tb_in (t8_in (List.mem_of_getElem? (i := 195) rfl)) rfl
def mdX12_part : MD := (yX12_part, cX12_part, 5, some .long, 1, 0, 0)
set_option maxRecDepth 20000 in
theorem okX12_part : MOk (mdX12_part) 3 := ⟨tb_in (t8_in (List.mem_of_getElem? (i := 193) rfl)) rfl, tb_in (t1_in (List.mem_of_getElem? (i := 13) rfl)) rfl, ⟨by decide, by decide, by decide +kernel⟩, by decide⟩
set_option maxRecDepth 20000 in
theorem stX12_part : MSt (mdX12_part) := tb_in (t8_in (List.mem_of_getElem? (i := 192) rfl)) rfl
def mdX12_findProducts : MD := (yX12_findProducts, cX12_findProducts, 4, some .boolean, 10, 0, 0)
set_option maxRecDepth 20000 in
theorem okX12_findProducts : MOk (mdX12_findProducts) 1 := ⟨tb_in (t8_in (List.mem_of_getElem? (i := 186) rfl)) rfl, tb_in (t1_in (List.mem_of_getElem? (i := 13) rfl)) rfl, ⟨by decide, by decide, by decide +kernel⟩, by decide⟩
set_option maxRecDepth 20000 in
theorem inX12_findProducts : Cond.instanceMethod (mY (mdX12_findProducts)) ∈ tblG := tb_in (t8_in (List.mem_of_getElem? (i := 185) rfl)) rfl
set_option maxRecDepth 20000 in
theorem viX12_findProducts : MVi (mdX12_findProducts) := ⟨inX12_findProducts, tp_in (List.mem_of_getElem? (i := 122) rfl) rfl⟩
def mdX12_byAll : MD := (yX12_byAll, cX12_byAll, 4, some .long, 11, 0, 0)
set_option maxRecDepth 20000 in
theorem okX12_byAll : MOk (mdX12_byAll) 3 := ⟨tb_in (t8_in (List.mem_of_getElem? (i := 182) rfl)) rfl, tb_in (t1_in (List.mem_of_getElem? (i := 13) rfl)) rfl, ⟨by decide, by decide, by decide +kernel⟩, by decide⟩
set_option maxRecDepth 20000 in
theorem inX12_byAll : Cond.instanceMethod (mY (mdX12_byAll)) ∈ tblG := tb_in (t8_in (List.mem_of_getElem? (i := 180) rfl)) rfl
set_option maxRecDepth 20000 in
theorem viX12_byAll : MVi (mdX12_byAll) := ⟨inX12_byAll, tb_in (t8_in (List.mem_of_getElem? (i := 181) rfl)) rfl⟩
def mdX12_findLeads : MD := (yX12_findLeads, cX12_findLeads, 3, none, 10, 0, 0)
set_option maxRecDepth 20000 in
theorem okX12_findLeads : MOk (mdX12_findLeads) 0 := ⟨tb_in (t8_in (List.mem_of_getElem? (i := 204) rfl)) rfl, tb_in (t1_in (List.mem_of_getElem? (i := 13) rfl)) rfl, ⟨by decide, by decide, by decide +kernel⟩, by decide⟩
set_option maxRecDepth 20000 in
theorem inX12_findLeads : Cond.instanceMethod (mY (mdX12_findLeads)) ∈ tblG := tb_in (t8_in (List.mem_of_getElem? (i := 203) rfl)) rfl
set_option maxRecDepth 20000 in
theorem viX12_findLeads : MVi (mdX12_findLeads) := ⟨inX12_findLeads, tp_in (List.mem_of_getElem? (i := 123) rfl) rfl⟩
def mdX12_clash : MD := (yX12_clash, cX12_clash, 5, some .int, 11, 0, 0)
set_option maxRecDepth 20000 in
theorem okX12_clash : MOk (mdX12_clash) 1 := ⟨tb_in (t8_in (List.mem_of_getElem? (i := 200) rfl)) rfl, tb_in (t1_in (List.mem_of_getElem? (i := 13) rfl)) rfl, ⟨by decide, by decide, by decide +kernel⟩, by decide⟩
set_option maxRecDepth 20000 in
theorem inX12_clash : Cond.instanceMethod (mY (mdX12_clash)) ∈ tblG := tb_in (t8_in (List.mem_of_getElem? (i := 198) rfl)) rfl
set_option maxRecDepth 20000 in
theorem viX12_clash : MVi (mdX12_clash) := ⟨inX12_clash, tb_in (t8_in (List.mem_of_getElem? (i := 199) rfl)) rfl⟩
def mdX12_wrong : MD := (yX12_wrong, cX12_wrong, 8, some .int, 11, 0, 0)
set_option maxRecDepth 20000 in
theorem okX12_wrong : MOk (mdX12_wrong) 2 := ⟨tb_in (t8_in (List.mem_of_getElem? (i := 208) rfl)) rfl, tb_in (t1_in (List.mem_of_getElem? (i := 13) rfl)) rfl, ⟨by decide, by decide, by decide +kernel⟩, by decide⟩
set_option maxRecDepth 20000 in
theorem inX12_wrong : Cond.instanceMethod (mY (mdX12_wrong)) ∈ tblG := tb_in (t8_in (List.mem_of_getElem? (i := 206) rfl)) rfl
set_option maxRecDepth 20000 in
theorem viX12_wrong : MVi (mdX12_wrong) := ⟨inX12_wrong, tb_in (t8_in (List.mem_of_getElem? (i := 207) rfl)) rfl⟩
def mdX12_heard : MD := (yX12_heard, cX12_heard, 4, some .int, 11, 0, 0)
set_option maxRecDepth 20000 in
theorem okX12_heard : MOk (mdX12_heard) 1 := ⟨tb_in (t8_in (List.mem_of_getElem? (i := 212) rfl)) rfl, tb_in (t1_in (List.mem_of_getElem? (i := 13) rfl)) rfl, ⟨by decide, by decide, by decide +kernel⟩, by decide⟩
set_option maxRecDepth 20000 in
theorem inX12_heard : Cond.instanceMethod (mY (mdX12_heard)) ∈ tblG := tb_in (t8_in (List.mem_of_getElem? (i := 210) rfl)) rfl
set_option maxRecDepth 20000 in
theorem viX12_heard : MVi (mdX12_heard) := ⟨inX12_heard, tb_in (t8_in (List.mem_of_getElem? (i := 211) rfl)) rfl⟩
def mdX12_whose : MD := (yX12_whose, cX12_whose, 8, some .int, 10, 0, 0)
set_option maxRecDepth 20000 in
theorem okX12_whose : MOk (mdX12_whose) 4 := ⟨tb_in (t8_in (List.mem_of_getElem? (i := 216) rfl)) rfl, tb_in (t1_in (List.mem_of_getElem? (i := 13) rfl)) rfl, ⟨by decide, by decide, by decide +kernel⟩, by decide⟩
set_option maxRecDepth 20000 in
theorem inX12_whose : Cond.instanceMethod (mY (mdX12_whose)) ∈ tblG := tb_in (t8_in (List.mem_of_getElem? (i := 214) rfl)) rfl
set_option maxRecDepth 20000 in
theorem viX12_whose : MVi (mdX12_whose) := ⟨inX12_whose, tb_in (t8_in (List.mem_of_getElem? (i := 215) rfl)) rfl⟩
def mdX12_nearest : MD := (yX12_nearest, cX12_nearest, 4, some .int, 0, 0, 0)
set_option maxRecDepth 20000 in
theorem okX12_nearest : MOk (mdX12_nearest) 1 := ⟨tb_in (t8_in (List.mem_of_getElem? (i := 229) rfl)) rfl, tb_in (t1_in (List.mem_of_getElem? (i := 13) rfl)) rfl, ⟨by decide, by decide, by decide +kernel⟩, by decide⟩
set_option maxRecDepth 20000 in
theorem inX12_nearest : Cond.instanceMethod (mY (mdX12_nearest)) ∈ tblG := tb_in (t8_in (List.mem_of_getElem? (i := 228) rfl)) rfl
set_option maxRecDepth 20000 in
theorem viX12_nearest : MVi (mdX12_nearest) := ⟨inX12_nearest, tp_in (List.mem_of_getElem? (i := 125) rfl) rfl⟩
def mdX12_findFar : MD := (yX12_findFar, cX12_findFar, 6, none, 5, 0, 0)
set_option maxRecDepth 20000 in
theorem okX12_findFar : MOk (mdX12_findFar) 1 := ⟨tb_in (t8_in (List.mem_of_getElem? (i := 224) rfl)) rfl, tb_in (t1_in (List.mem_of_getElem? (i := 13) rfl)) rfl, ⟨by decide, by decide, by decide +kernel⟩, by decide⟩
set_option maxRecDepth 20000 in
theorem inX12_findFar : Cond.instanceMethod (mY (mdX12_findFar)) ∈ tblG := tb_in (t8_in (List.mem_of_getElem? (i := 223) rfl)) rfl
set_option maxRecDepth 20000 in
theorem viX12_findFar : MVi (mdX12_findFar) := ⟨inX12_findFar, tp_in (List.mem_of_getElem? (i := 124) rfl) rfl⟩
def mdX12_far : MD := (yX12_far, cX12_far, 3, some .int, 6, 0, 0)
set_option maxRecDepth 20000 in
theorem okX12_far : MOk (mdX12_far) 2 := ⟨tb_in (t8_in (List.mem_of_getElem? (i := 220) rfl)) rfl, tb_in (t1_in (List.mem_of_getElem? (i := 13) rfl)) rfl, ⟨by decide, by decide, by decide +kernel⟩, by decide⟩
set_option maxRecDepth 20000 in
theorem inX12_far : Cond.instanceMethod (mY (mdX12_far)) ∈ tblG := tb_in (t8_in (List.mem_of_getElem? (i := 218) rfl)) rfl
set_option maxRecDepth 20000 in
theorem viX12_far : MVi (mdX12_far) := ⟨inX12_far, tb_in (t8_in (List.mem_of_getElem? (i := 219) rfl)) rfl⟩
def mdX12_timeOf : MD := (yX12_timeOf, cX12_timeOf, 7, some .long, 0, 0, 0)
set_option maxRecDepth 20000 in
theorem okX12_timeOf : MOk (mdX12_timeOf) 0 := ⟨tb_in (t9_in (List.mem_of_getElem? (i := 1) rfl)) rfl, tb_in (t1_in (List.mem_of_getElem? (i := 13) rfl)) rfl, ⟨by decide, by decide, by decide +kernel⟩, by decide⟩
set_option maxRecDepth 20000 in
theorem inX12_timeOf : Cond.instanceMethod (mY (mdX12_timeOf)) ∈ tblG := tb_in (t9_in (List.mem_of_getElem? (i := 0) rfl)) rfl
set_option maxRecDepth 20000 in
theorem viX12_timeOf : MVi (mdX12_timeOf) := ⟨inX12_timeOf, tp_in (List.mem_of_getElem? (i := 127) rfl) rfl⟩
def mdX12_nextOrder : MD := (yX12_nextOrder, cX12_nextOrder, 7, some .boolean, 0, 0, 0)
set_option maxRecDepth 20000 in
theorem okX12_nextOrder : MOk (mdX12_nextOrder) 0 := ⟨tb_in (t9_in (List.mem_of_getElem? (i := 5) rfl)) rfl, tb_in (t1_in (List.mem_of_getElem? (i := 13) rfl)) rfl, ⟨by decide, by decide, by decide +kernel⟩, by decide⟩
set_option maxRecDepth 20000 in
theorem inX12_nextOrder : Cond.instanceMethod (mY (mdX12_nextOrder)) ∈ tblG := tb_in (t9_in (List.mem_of_getElem? (i := 4) rfl)) rfl
set_option maxRecDepth 20000 in
theorem viX12_nextOrder : MVi (mdX12_nextOrder) := ⟨inX12_nextOrder, tp_in (List.mem_of_getElem? (i := 128) rfl) rfl⟩
def mdX12_findOrder : MD := (yX12_findOrder, cX12_findOrder, 6, some .boolean, 11, 0, 0)
set_option maxRecDepth 20000 in
theorem okX12_findOrder : MOk (mdX12_findOrder) 1 := ⟨tb_in (t8_in (List.mem_of_getElem? (i := 237) rfl)) rfl, tb_in (t1_in (List.mem_of_getElem? (i := 13) rfl)) rfl, ⟨by decide, by decide, by decide +kernel⟩, by decide⟩
set_option maxRecDepth 20000 in
theorem inX12_findOrder : Cond.instanceMethod (mY (mdX12_findOrder)) ∈ tblG := tb_in (t8_in (List.mem_of_getElem? (i := 236) rfl)) rfl
set_option maxRecDepth 20000 in
theorem viX12_findOrder : MVi (mdX12_findOrder) := ⟨inX12_findOrder, tp_in (List.mem_of_getElem? (i := 126) rfl) rfl⟩
def mdX12_see : MD := (yX12_see, cX12_see, 3, some .long, 12, 0, 0)
set_option maxRecDepth 20000 in
theorem okX12_see : MOk (mdX12_see) 2 := ⟨tb_in (t8_in (List.mem_of_getElem? (i := 233) rfl)) rfl, tb_in (t1_in (List.mem_of_getElem? (i := 13) rfl)) rfl, ⟨by decide, by decide, by decide +kernel⟩, by decide⟩
set_option maxRecDepth 20000 in
theorem inX12_see : Cond.instanceMethod (mY (mdX12_see)) ∈ tblG := tb_in (t8_in (List.mem_of_getElem? (i := 231) rfl)) rfl
set_option maxRecDepth 20000 in
theorem viX12_see : MVi (mdX12_see) := ⟨inX12_see, tb_in (t8_in (List.mem_of_getElem? (i := 232) rfl)) rfl⟩
def mdX12_timeByAsking : MD := (yX12_timeByAsking, cX12_timeByAsking, 8, some .long, 5, 0, 0)
set_option maxRecDepth 20000 in
theorem okX12_timeByAsking : MOk (mdX12_timeByAsking) 1 := ⟨tb_in (t9_in (List.mem_of_getElem? (i := 13) rfl)) rfl, tb_in (t1_in (List.mem_of_getElem? (i := 13) rfl)) rfl, ⟨by decide, by decide, by decide +kernel⟩, by decide⟩
set_option maxRecDepth 20000 in
theorem inX12_timeByAsking : Cond.instanceMethod (mY (mdX12_timeByAsking)) ∈ tblG := tb_in (t9_in (List.mem_of_getElem? (i := 12) rfl)) rfl
set_option maxRecDepth 20000 in
theorem viX12_timeByAsking : MVi (mdX12_timeByAsking) := ⟨inX12_timeByAsking, tp_in (List.mem_of_getElem? (i := 129) rfl) rfl⟩
def mdX12_orAsk : MD := (yX12_orAsk, cX12_orAsk, 8, some .int, 12, 0, 0)
set_option maxRecDepth 20000 in
theorem okX12_orAsk : MOk (mdX12_orAsk) 1 := ⟨tb_in (t9_in (List.mem_of_getElem? (i := 9) rfl)) rfl, tb_in (t1_in (List.mem_of_getElem? (i := 13) rfl)) rfl, ⟨by decide, by decide, by decide +kernel⟩, by decide⟩
set_option maxRecDepth 20000 in
theorem inX12_orAsk : Cond.instanceMethod (mY (mdX12_orAsk)) ∈ tblG := tb_in (t9_in (List.mem_of_getElem? (i := 7) rfl)) rfl
set_option maxRecDepth 20000 in
theorem viX12_orAsk : MVi (mdX12_orAsk) := ⟨inX12_orAsk, tb_in (t9_in (List.mem_of_getElem? (i := 8) rfl)) rfl⟩
def mdX12_stateOf : MD := (yX12_stateOf, cX12_stateOf, 5, some .int, 7, 0, 0)
set_option maxRecDepth 20000 in
theorem okX12_stateOf : MOk (mdX12_stateOf) 3 := ⟨tb_in (t9_in (List.mem_of_getElem? (i := 25) rfl)) rfl, tb_in (t1_in (List.mem_of_getElem? (i := 13) rfl)) rfl, ⟨by decide, by decide, by decide +kernel⟩, by decide⟩
set_option maxRecDepth 20000 in
theorem inX12_stateOf : Cond.instanceMethod (mY (mdX12_stateOf)) ∈ tblG := tb_in (t9_in (List.mem_of_getElem? (i := 24) rfl)) rfl
set_option maxRecDepth 20000 in
theorem viX12_stateOf : MVi (mdX12_stateOf) := ⟨inX12_stateOf, tp_in (List.mem_of_getElem? (i := 131) rfl) rfl⟩
def mdX12_safeOf : MD := (yX12_safeOf, cX12_safeOf, 6, some .int, 8, 0, 0)
set_option maxRecDepth 20000 in
theorem okX12_safeOf : MOk (mdX12_safeOf) 2 := ⟨tb_in (t9_in (List.mem_of_getElem? (i := 21) rfl)) rfl, tb_in (t1_in (List.mem_of_getElem? (i := 13) rfl)) rfl, ⟨by decide, by decide, by decide +kernel⟩, by decide⟩
set_option maxRecDepth 20000 in
theorem inX12_safeOf : Cond.instanceMethod (mY (mdX12_safeOf)) ∈ tblG := tb_in (t9_in (List.mem_of_getElem? (i := 20) rfl)) rfl
set_option maxRecDepth 20000 in
theorem viX12_safeOf : MVi (mdX12_safeOf) := ⟨inX12_safeOf, tp_in (List.mem_of_getElem? (i := 130) rfl) rfl⟩
def mdX12_safeSoFar : MD := (yX12_safeSoFar, cX12_safeSoFar, 4, some .int, 9, 0, 0)
set_option maxRecDepth 20000 in
theorem okX12_safeSoFar : MOk (mdX12_safeSoFar) 3 := ⟨tb_in (t9_in (List.mem_of_getElem? (i := 17) rfl)) rfl, tb_in (t1_in (List.mem_of_getElem? (i := 13) rfl)) rfl, ⟨by decide, by decide, by decide +kernel⟩, by decide⟩
set_option maxRecDepth 20000 in
theorem inX12_safeSoFar : Cond.instanceMethod (mY (mdX12_safeSoFar)) ∈ tblG := tb_in (t9_in (List.mem_of_getElem? (i := 15) rfl)) rfl
set_option maxRecDepth 20000 in
theorem viX12_safeSoFar : MVi (mdX12_safeSoFar) := ⟨inX12_safeSoFar, tb_in (t9_in (List.mem_of_getElem? (i := 16) rfl)) rfl⟩
def mdX12_howFar : MD := (yX12_howFar, cX12_howFar, 4, some .int, 9, 0, 0)
set_option maxRecDepth 20000 in
theorem okX12_howFar : MOk (mdX12_howFar) 2 := ⟨tb_in (t9_in (List.mem_of_getElem? (i := 30) rfl)) rfl, tb_in (t1_in (List.mem_of_getElem? (i := 13) rfl)) rfl, ⟨by decide, by decide, by decide +kernel⟩, by decide⟩
set_option maxRecDepth 20000 in
theorem inX12_howFar : Cond.instanceMethod (mY (mdX12_howFar)) ∈ tblG := tb_in (t9_in (List.mem_of_getElem? (i := 28) rfl)) rfl
set_option maxRecDepth 20000 in
theorem viX12_howFar : MVi (mdX12_howFar) := ⟨inX12_howFar, tb_in (t9_in (List.mem_of_getElem? (i := 29) rfl)) rfl⟩
def mdX12_lost : MD := (yX12_lost, cX12_lost, 4, some .int, 8, 0, 0)
set_option maxRecDepth 20000 in
theorem okX12_lost : MOk (mdX12_lost) 2 := ⟨tb_in (t9_in (List.mem_of_getElem? (i := 34) rfl)) rfl, tb_in (t1_in (List.mem_of_getElem? (i := 13) rfl)) rfl, ⟨by decide, by decide, by decide +kernel⟩, by decide⟩
set_option maxRecDepth 20000 in
theorem inX12_lost : Cond.instanceMethod (mY (mdX12_lost)) ∈ tblG := tb_in (t9_in (List.mem_of_getElem? (i := 32) rfl)) rfl
set_option maxRecDepth 20000 in
theorem viX12_lost : MVi (mdX12_lost) := ⟨inX12_lost, tb_in (t9_in (List.mem_of_getElem? (i := 33) rfl)) rfl⟩
def mdX12_power : MD := (yX12_power, cX12_power, 6, some .long, 0, 0, 0)
set_option maxRecDepth 20000 in
theorem okX12_power : MOk (mdX12_power) 2 := ⟨tb_in (t9_in (List.mem_of_getElem? (i := 41) rfl)) rfl, tb_in (t1_in (List.mem_of_getElem? (i := 13) rfl)) rfl, ⟨by decide, by decide, by decide +kernel⟩, by decide⟩
set_option maxRecDepth 20000 in
theorem stX12_power : MSt (mdX12_power) := tb_in (t9_in (List.mem_of_getElem? (i := 40) rfl)) rfl
def mdX12_listen : MD := (yX12_listen, cX12_listen, 12, some .long, 2, 0, 0)
set_option maxRecDepth 20000 in
theorem okX12_listen : MOk (mdX12_listen) 5 := ⟨tb_in (t9_in (List.mem_of_getElem? (i := 38) rfl)) rfl, tb_in (t1_in (List.mem_of_getElem? (i := 13) rfl)) rfl, ⟨by decide, by decide, by decide +kernel⟩, by decide⟩
set_option maxRecDepth 20000 in
theorem inX12_listen : Cond.instanceMethod (mY (mdX12_listen)) ∈ tblG := tb_in (t9_in (List.mem_of_getElem? (i := 36) rfl)) rfl
set_option maxRecDepth 20000 in
theorem viX12_listen : MVi (mdX12_listen) := ⟨inX12_listen, tb_in (t9_in (List.mem_of_getElem? (i := 37) rfl)) rfl⟩
def mdX12_turnOf : MD := (yX12_turnOf, cX12_turnOf, 1, some .int, 0, 0, 0)
set_option maxRecDepth 20000 in
theorem okX12_turnOf : MOk (mdX12_turnOf) 1 := ⟨tb_in (t9_in (List.mem_of_getElem? (i := 53) rfl)) rfl, tb_in (t1_in (List.mem_of_getElem? (i := 13) rfl)) rfl, ⟨by decide, by decide, by decide +kernel⟩, by decide⟩
set_option maxRecDepth 20000 in
theorem stX12_turnOf : MSt (mdX12_turnOf) := tb_in (t9_in (List.mem_of_getElem? (i := 52) rfl)) rfl
def mdX12_leadsToGoal : MD := (yX12_leadsToGoal, cX12_leadsToGoal, 5, some .boolean, 8, 0, 0)
set_option maxRecDepth 20000 in
theorem okX12_leadsToGoal : MOk (mdX12_leadsToGoal) 3 := ⟨tb_in (t9_in (List.mem_of_getElem? (i := 57) rfl)) rfl, tb_in (t1_in (List.mem_of_getElem? (i := 13) rfl)) rfl, ⟨by decide, by decide, by decide +kernel⟩, by decide⟩
set_option maxRecDepth 20000 in
theorem inX12_leadsToGoal : Cond.instanceMethod (mY (mdX12_leadsToGoal)) ∈ tblG := tb_in (t9_in (List.mem_of_getElem? (i := 56) rfl)) rfl
set_option maxRecDepth 20000 in
theorem viX12_leadsToGoal : MVi (mdX12_leadsToGoal) := ⟨inX12_leadsToGoal, tp_in (List.mem_of_getElem? (i := 133) rfl) rfl⟩
def mdX12_findTelling : MD := (yX12_findTelling, cX12_findTelling, 9, some .boolean, 9, 0, 0)
set_option maxRecDepth 20000 in
theorem okX12_findTelling : MOk (mdX12_findTelling) 3 := ⟨tb_in (t9_in (List.mem_of_getElem? (i := 50) rfl)) rfl, tb_in (t1_in (List.mem_of_getElem? (i := 13) rfl)) rfl, ⟨by decide, by decide, by decide +kernel⟩, by decide⟩
set_option maxRecDepth 20000 in
theorem inX12_findTelling : Cond.instanceMethod (mY (mdX12_findTelling)) ∈ tblG := tb_in (t9_in (List.mem_of_getElem? (i := 49) rfl)) rfl
set_option maxRecDepth 20000 in
theorem viX12_findTelling : MVi (mdX12_findTelling) := ⟨inX12_findTelling, tp_in (List.mem_of_getElem? (i := 132) rfl) rfl⟩
def mdX12_tell : MD := (yX12_tell, cX12_tell, 5, some .int, 10, 0, 0)
set_option maxRecDepth 20000 in
theorem okX12_tell : MOk (mdX12_tell) 4 := ⟨tb_in (t9_in (List.mem_of_getElem? (i := 46) rfl)) rfl, tb_in (t1_in (List.mem_of_getElem? (i := 13) rfl)) rfl, ⟨by decide, by decide, by decide +kernel⟩, by decide⟩
set_option maxRecDepth 20000 in
theorem inX12_tell : Cond.instanceMethod (mY (mdX12_tell)) ∈ tblG := tb_in (t9_in (List.mem_of_getElem? (i := 44) rfl)) rfl
set_option maxRecDepth 20000 in
theorem viX12_tell : MVi (mdX12_tell) := ⟨inX12_tell, tb_in (t9_in (List.mem_of_getElem? (i := 45) rfl)) rfl⟩
def mdX12_where : MD := (yX12_where, cX12_where, 3, some .int, 9, 0, 0)
set_option maxRecDepth 20000 in
theorem okX12_where : MOk (mdX12_where) 2 := ⟨tb_in (t9_in (List.mem_of_getElem? (i := 61) rfl)) rfl, tb_in (t1_in (List.mem_of_getElem? (i := 13) rfl)) rfl, ⟨by decide, by decide, by decide +kernel⟩, by decide⟩
set_option maxRecDepth 20000 in
theorem inX12_where : Cond.instanceMethod (mY (mdX12_where)) ∈ tblG := tb_in (t9_in (List.mem_of_getElem? (i := 59) rfl)) rfl
set_option maxRecDepth 20000 in
theorem viX12_where : MVi (mdX12_where) := ⟨inX12_where, tb_in (t9_in (List.mem_of_getElem? (i := 60) rfl)) rfl⟩
def mdX12_map : MD := (yX12_map, cX12_map, 8, some .int, 2, 0, 0)
set_option maxRecDepth 20000 in
theorem okX12_map : MOk (mdX12_map) 3 := ⟨tb_in (t9_in (List.mem_of_getElem? (i := 65) rfl)) rfl, tb_in (t1_in (List.mem_of_getElem? (i := 13) rfl)) rfl, ⟨by decide, by decide, by decide +kernel⟩, by decide⟩
set_option maxRecDepth 20000 in
theorem inX12_map : Cond.instanceMethod (mY (mdX12_map)) ∈ tblG := tb_in (t9_in (List.mem_of_getElem? (i := 63) rfl)) rfl
set_option maxRecDepth 20000 in
theorem viX12_map : MVi (mdX12_map) := ⟨inX12_map, tb_in (t9_in (List.mem_of_getElem? (i := 64) rfl)) rfl⟩
def mdX12_findShown : MD := (yX12_findShown, cX12_findShown, 4, none, 1, 0, 0)
set_option maxRecDepth 20000 in
theorem okX12_findShown : MOk (mdX12_findShown) 0 := ⟨tb_in (t9_in (List.mem_of_getElem? (i := 73) rfl)) rfl, tb_in (t1_in (List.mem_of_getElem? (i := 13) rfl)) rfl, ⟨by decide, by decide, by decide +kernel⟩, by decide⟩
set_option maxRecDepth 20000 in
theorem inX12_findShown : Cond.instanceMethod (mY (mdX12_findShown)) ∈ tblG := tb_in (t9_in (List.mem_of_getElem? (i := 72) rfl)) rfl
set_option maxRecDepth 20000 in
theorem viX12_findShown : MVi (mdX12_findShown) := ⟨inX12_findShown, tp_in (List.mem_of_getElem? (i := 134) rfl) rfl⟩
def mdX12_directionFrom : MD := (yX12_directionFrom, cX12_directionFrom, 4, some .int, 1, 0, 0)
set_option maxRecDepth 20000 in
theorem okX12_directionFrom : MOk (mdX12_directionFrom) 3 := ⟨tb_in (t9_in (List.mem_of_getElem? (i := 85) rfl)) rfl, tb_in (t1_in (List.mem_of_getElem? (i := 13) rfl)) rfl, ⟨by decide, by decide, by decide +kernel⟩, by decide⟩
set_option maxRecDepth 20000 in
theorem inX12_directionFrom : Cond.instanceMethod (mY (mdX12_directionFrom)) ∈ tblG := tb_in (t9_in (List.mem_of_getElem? (i := 84) rfl)) rfl
set_option maxRecDepth 20000 in
theorem viX12_directionFrom : MVi (mdX12_directionFrom) := ⟨inX12_directionFrom, tp_in (List.mem_of_getElem? (i := 137) rfl) rfl⟩
def mdX12_comesToGoal : MD := (yX12_comesToGoal, cX12_comesToGoal, 8, some .boolean, 2, 0, 0)
set_option maxRecDepth 20000 in
theorem okX12_comesToGoal : MOk (mdX12_comesToGoal) 3 := ⟨tb_in (t9_in (List.mem_of_getElem? (i := 81) rfl)) rfl, tb_in (t1_in (List.mem_of_getElem? (i := 13) rfl)) rfl, ⟨by decide, by decide, by decide +kernel⟩, by decide⟩
set_option maxRecDepth 20000 in
theorem inX12_comesToGoal : Cond.instanceMethod (mY (mdX12_comesToGoal)) ∈ tblG := tb_in (t9_in (List.mem_of_getElem? (i := 80) rfl)) rfl
set_option maxRecDepth 20000 in
theorem viX12_comesToGoal : MVi (mdX12_comesToGoal) := ⟨inX12_comesToGoal, tp_in (List.mem_of_getElem? (i := 136) rfl) rfl⟩
def mdX12_areEnough : MD := (yX12_areEnough, cX12_areEnough, 4, some .boolean, 3, 0, 0)
set_option maxRecDepth 20000 in
theorem okX12_areEnough : MOk (mdX12_areEnough) 1 := ⟨tb_in (t9_in (List.mem_of_getElem? (i := 77) rfl)) rfl, tb_in (t1_in (List.mem_of_getElem? (i := 13) rfl)) rfl, ⟨by decide, by decide, by decide +kernel⟩, by decide⟩
set_option maxRecDepth 20000 in
theorem inX12_areEnough : Cond.instanceMethod (mY (mdX12_areEnough)) ∈ tblG := tb_in (t9_in (List.mem_of_getElem? (i := 76) rfl)) rfl
set_option maxRecDepth 20000 in
theorem viX12_areEnough : MVi (mdX12_areEnough) := ⟨inX12_areEnough, tp_in (List.mem_of_getElem? (i := 135) rfl) rfl⟩
def mdX12_signs : MD := (yX12_signs, cX12_signs, 3, some .int, 4, 0, 0)
set_option maxRecDepth 20000 in
theorem okX12_signs : MOk (mdX12_signs) 0 := ⟨tb_in (t9_in (List.mem_of_getElem? (i := 69) rfl)) rfl, tb_in (t1_in (List.mem_of_getElem? (i := 13) rfl)) rfl, ⟨by decide, by decide, by decide +kernel⟩, by decide⟩
set_option maxRecDepth 20000 in
theorem inX12_signs : Cond.instanceMethod (mY (mdX12_signs)) ∈ tblG := tb_in (t9_in (List.mem_of_getElem? (i := 67) rfl)) rfl
set_option maxRecDepth 20000 in
theorem viX12_signs : MVi (mdX12_signs) := ⟨inX12_signs, tb_in (t9_in (List.mem_of_getElem? (i := 68) rfl)) rfl⟩
def mdX12_image : MD := (yX12_image, cX12_image, 1, some .int, 1, 0, 0)
set_option maxRecDepth 20000 in
theorem okX12_image : MOk (mdX12_image) 0 := ⟨tb_in (t9_in (List.mem_of_getElem? (i := 89) rfl)) rfl, tb_in (t1_in (List.mem_of_getElem? (i := 13) rfl)) rfl, ⟨by decide, by decide, by decide +kernel⟩, by decide⟩
set_option maxRecDepth 20000 in
theorem inX12_image : Cond.instanceMethod (mY (mdX12_image)) ∈ tblG := tb_in (t9_in (List.mem_of_getElem? (i := 87) rfl)) rfl
set_option maxRecDepth 20000 in
theorem viX12_image : MVi (mdX12_image) := ⟨inX12_image, tb_in (t9_in (List.mem_of_getElem? (i := 88) rfl)) rfl⟩
def mdX12_back : MD := (yX12_back, cX12_back, 1, some .int, 1, 0, 0)
set_option maxRecDepth 20000 in
theorem okX12_back : MOk (mdX12_back) 0 := ⟨tb_in (t9_in (List.mem_of_getElem? (i := 93) rfl)) rfl, tb_in (t1_in (List.mem_of_getElem? (i := 13) rfl)) rfl, ⟨by decide, by decide, by decide +kernel⟩, by decide⟩
set_option maxRecDepth 20000 in
theorem inX12_back : Cond.instanceMethod (mY (mdX12_back)) ∈ tblG := tb_in (t9_in (List.mem_of_getElem? (i := 91) rfl)) rfl
set_option maxRecDepth 20000 in
theorem viX12_back : MVi (mdX12_back) := ⟨inX12_back, tb_in (t9_in (List.mem_of_getElem? (i := 92) rfl)) rfl⟩
def mdX12_about : MD := (yX12_about, cX12_about, 2, some .int, 1, 0, 0)
set_option maxRecDepth 20000 in
theorem okX12_about : MOk (mdX12_about) 1 := ⟨tb_in (t9_in (List.mem_of_getElem? (i := 97) rfl)) rfl, tb_in (t1_in (List.mem_of_getElem? (i := 13) rfl)) rfl, ⟨by decide, by decide, by decide +kernel⟩, by decide⟩
set_option maxRecDepth 20000 in
theorem inX12_about : Cond.instanceMethod (mY (mdX12_about)) ∈ tblG := tb_in (t9_in (List.mem_of_getElem? (i := 95) rfl)) rfl
set_option maxRecDepth 20000 in
theorem viX12_about : MVi (mdX12_about) := ⟨inX12_about, tb_in (t9_in (List.mem_of_getElem? (i := 96) rfl)) rfl⟩
def mdJ6_bitCount_0f7a4 : MD := (yJ6_bitCount_0f7a4, cJ6_bitCount_0f7a4, 1, some .int, 0, 0, 0)
set_option maxRecDepth 20000 in
theorem okJ6_bitCount_0f7a4 : MOk (mdJ6_bitCount_0f7a4) 1 := ⟨tb_in (t5_in (List.mem_of_getElem? (i := 61) rfl)) rfl, tb_in (t1_in (List.mem_of_getElem? (i := 21) rfl)) rfl, ⟨by decide, by decide, by decide +kernel⟩, by decide⟩
set_option maxRecDepth 20000 in
theorem stJ6_bitCount_0f7a4 : MSt (mdJ6_bitCount_0f7a4) := tb_in (t5_in (List.mem_of_getElem? (i := 60) rfl)) rfl
def mdJ9_max_7cf53 : MD := (yJ9_max_7cf53, cJ9_max_7cf53, 2, some .int, 0, 0, 0)
set_option maxRecDepth 20000 in
theorem okJ9_max_7cf53 : MOk (mdJ9_max_7cf53) 2 := ⟨tb_in (t4_in (List.mem_of_getElem? (i := 83) rfl)) rfl, tb_in (t1_in (List.mem_of_getElem? (i := 14) rfl)) rfl, ⟨by decide, by decide, by decide +kernel⟩, by decide⟩
set_option maxRecDepth 20000 in
theorem stJ9_max_7cf53 : MSt (mdJ9_max_7cf53) := tb_in (t4_in (List.mem_of_getElem? (i := 82) rfl)) rfl
def mdJ9_max_f86c9 : MD := (yJ9_max_f86c9, cJ9_max_f86c9, 4, some .long, 0, 0, 0)
set_option maxRecDepth 20000 in
theorem okJ9_max_f86c9 : MOk (mdJ9_max_f86c9) 2 := ⟨tb_in (t4_in (List.mem_of_getElem? (i := 74) rfl)) rfl, tb_in (t1_in (List.mem_of_getElem? (i := 14) rfl)) rfl, ⟨by decide, by decide, by decide +kernel⟩, by decide⟩
set_option maxRecDepth 20000 in
theorem stJ9_max_f86c9 : MSt (mdJ9_max_f86c9) := tb_in (t4_in (List.mem_of_getElem? (i := 73) rfl)) rfl
def mdJ9_min_7cf53 : MD := (yJ9_min_7cf53, cJ9_min_7cf53, 2, some .int, 0, 0, 0)
set_option maxRecDepth 20000 in
theorem okJ9_min_7cf53 : MOk (mdJ9_min_7cf53) 2 := ⟨tb_in (t3_in (List.mem_of_getElem? (i := 26) rfl)) rfl, tb_in (t1_in (List.mem_of_getElem? (i := 14) rfl)) rfl, ⟨by decide, by decide, by decide +kernel⟩, by decide⟩
set_option maxRecDepth 20000 in
theorem stJ9_min_7cf53 : MSt (mdJ9_min_7cf53) := tb_in (t3_in (List.mem_of_getElem? (i := 25) rfl)) rfl
def mdJ9_min_f86c9 : MD := (yJ9_min_f86c9, cJ9_min_f86c9, 4, some .long, 0, 0, 0)
set_option maxRecDepth 20000 in
theorem okJ9_min_f86c9 : MOk (mdJ9_min_f86c9) 2 := ⟨tb_in (t4_in (List.mem_of_getElem? (i := 71) rfl)) rfl, tb_in (t1_in (List.mem_of_getElem? (i := 14) rfl)) rfl, ⟨by decide, by decide, by decide +kernel⟩, by decide⟩
set_option maxRecDepth 20000 in
theorem stJ9_min_f86c9 : MSt (mdJ9_min_f86c9) := tb_in (t4_in (List.mem_of_getElem? (i := 70) rfl)) rfl
def mdJ0_length_8abf5 : MD := (yJ0_length_8abf5, cJ0_length_8abf5, 1, some .int, 1, 0, 0)
set_option maxRecDepth 20000 in
theorem okJ0_length_8abf5 : MOk (mdJ0_length_8abf5) 0 := ⟨tb_in (t3_in (List.mem_of_getElem? (i := 56) rfl)) rfl, tb_in (t1_in (List.mem_of_getElem? (i := 15) rfl)) rfl, ⟨by decide, by decide, by decide +kernel⟩, by decide⟩
set_option maxRecDepth 20000 in
theorem inJ0_length_8abf5 : Cond.instanceMethod (mY (mdJ0_length_8abf5)) ∈ tblG := tb_in (t3_in (List.mem_of_getElem? (i := 54) rfl)) rfl
set_option maxRecDepth 20000 in
theorem viJ0_length_8abf5 : MVi (mdJ0_length_8abf5) := ⟨inJ0_length_8abf5, tb_in (t3_in (List.mem_of_getElem? (i := 55) rfl)) rfl⟩
def mdJ0_charAt_5068e : MD := (yJ0_charAt_5068e, cJ0_charAt_5068e, 2, some .char, 4, 0, 0)
set_option maxRecDepth 20000 in
theorem okJ0_charAt_5068e : MOk (mdJ0_charAt_5068e) 1 := ⟨tb_in (t3_in (List.mem_of_getElem? (i := 66) rfl)) rfl, tb_in (t1_in (List.mem_of_getElem? (i := 15) rfl)) rfl, ⟨by decide, by decide, by decide +kernel⟩, by decide⟩
set_option maxRecDepth 20000 in
theorem inJ0_charAt_5068e : Cond.instanceMethod (mY (mdJ0_charAt_5068e)) ∈ tblG := tb_in (t3_in (List.mem_of_getElem? (i := 64) rfl)) rfl
set_option maxRecDepth 20000 in
theorem viJ0_charAt_5068e : MVi (mdJ0_charAt_5068e) := ⟨inJ0_charAt_5068e, tb_in (t3_in (List.mem_of_getElem? (i := 65) rfl)) rfl⟩
def mdJ0_coder_7d493 : MD := (yJ0_coder_7d493, cJ0_coder_7d493, 1, some .byte, 0, 0, 0)
set_option maxRecDepth 20000 in
theorem okJ0_coder_7d493 : MOk (mdJ0_coder_7d493) 0 := ⟨tb_in (t3_in (List.mem_of_getElem? (i := 60) rfl)) rfl, tb_in (t1_in (List.mem_of_getElem? (i := 15) rfl)) rfl, ⟨by decide, by decide, by decide +kernel⟩, by decide⟩
set_option maxRecDepth 20000 in
theorem inJ0_coder_7d493 : Cond.instanceMethod (mY (mdJ0_coder_7d493)) ∈ tblG := tb_in (t3_in (List.mem_of_getElem? (i := 58) rfl)) rfl
set_option maxRecDepth 20000 in
theorem viJ0_coder_7d493 : MVi (mdJ0_coder_7d493) := ⟨inJ0_coder_7d493, tb_in (t3_in (List.mem_of_getElem? (i := 59) rfl)) rfl⟩
def mdJ0_isLatin1_aae02 : MD := (yJ0_isLatin1_aae02, cJ0_isLatin1_aae02, 1, some .boolean, 0, 0, 0)
set_option maxRecDepth 20000 in
theorem okJ0_isLatin1_aae02 : MOk (mdJ0_isLatin1_aae02) 0 := ⟨tb_in (t3_in (List.mem_of_getElem? (i := 70) rfl)) rfl, tb_in (t1_in (List.mem_of_getElem? (i := 15) rfl)) rfl, ⟨by decide, by decide, by decide +kernel⟩, by decide⟩
set_option maxRecDepth 20000 in
theorem inJ0_isLatin1_aae02 : Cond.instanceMethod (mY (mdJ0_isLatin1_aae02)) ∈ tblG := tb_in (t3_in (List.mem_of_getElem? (i := 68) rfl)) rfl
set_option maxRecDepth 20000 in
theorem viJ0_isLatin1_aae02 : MVi (mdJ0_isLatin1_aae02) := ⟨inJ0_isLatin1_aae02, tb_in (t3_in (List.mem_of_getElem? (i := 69) rfl)) rfl⟩
def mdJ0_checkIndex_df160 : MD := (yJ0_checkIndex_df160, cJ0_checkIndex_df160, 2, none, 1, 0, 0)
set_option maxRecDepth 20000 in
theorem okJ0_checkIndex_df160 : MOk (mdJ0_checkIndex_df160) 2 := ⟨tb_in (t3_in (List.mem_of_getElem? (i := 76) rfl)) rfl, tb_in (t1_in (List.mem_of_getElem? (i := 15) rfl)) rfl, ⟨by decide, by decide, by decide +kernel⟩, by decide⟩
set_option maxRecDepth 20000 in
theorem stJ0_checkIndex_df160 : MSt (mdJ0_checkIndex_df160) := tb_in (t3_in (List.mem_of_getElem? (i := 75) rfl)) rfl
def mdJ1_charAt_3b067 : MD := (yJ1_charAt_3b067, cJ1_charAt_3b067, 2, some .char, 2, 0, 0)
set_option maxRecDepth 20000 in
theorem okJ1_charAt_3b067 : MOk (mdJ1_charAt_3b067) 2 := ⟨tb_in (t3_in (List.mem_of_getElem? (i := 73) rfl)) rfl, tb_in (t1_in (List.mem_of_getElem? (i := 16) rfl)) rfl, ⟨by decide, by decide, by decide +kernel⟩, by decide⟩
set_option maxRecDepth 20000 in
theorem stJ1_charAt_3b067 : MSt (mdJ1_charAt_3b067) := tb_in (t3_in (List.mem_of_getElem? (i := 72) rfl)) rfl
def mdJ2_getChar_3b067 : MD := (yJ2_getChar_3b067, cJ2_getChar_3b067, 2, some .char, 1, 0, 0)
set_option maxRecDepth 20000 in
theorem okJ2_getChar_3b067 : MOk (mdJ2_getChar_3b067) 2 := ⟨tb_in (t3_in (List.mem_of_getElem? (i := 94) rfl)) rfl, tb_in (t1_in (List.mem_of_getElem? (i := 18) rfl)) rfl, ⟨by decide, by decide, by decide +kernel⟩, by decide⟩
set_option maxRecDepth 20000 in
theorem stJ2_getChar_3b067 : MSt (mdJ2_getChar_3b067) := tb_in (t3_in (List.mem_of_getElem? (i := 93) rfl)) rfl
def mdJ2_length_9d52b : MD := (yJ2_length_9d52b, cJ2_length_9d52b, 1, some .int, 0, 0, 0)
set_option maxRecDepth 20000 in
theorem okJ2_length_9d52b : MOk (mdJ2_length_9d52b) 1 := ⟨tb_in (t3_in (List.mem_of_getElem? (i := 90) rfl)) rfl, tb_in (t1_in (List.mem_of_getElem? (i := 18) rfl)) rfl, ⟨by decide, by decide, by decide +kernel⟩, by decide⟩
set_option maxRecDepth 20000 in
theorem stJ2_length_9d52b : MSt (mdJ2_length_9d52b) := tb_in (t3_in (List.mem_of_getElem? (i := 89) rfl)) rfl
def mdJ2_charAt_3b067 : MD := (yJ2_charAt_3b067, cJ2_charAt_3b067, 2, some .char, 3, 0, 0)
set_option maxRecDepth 20000 in
theorem okJ2_charAt_3b067 : MOk (mdJ2_charAt_3b067) 2 := ⟨tb_in (t3_in (List.mem_of_getElem? (i := 84) rfl)) rfl, tb_in (t1_in (List.mem_of_getElem? (i := 18) rfl)) rfl, ⟨by decide, by decide, by decide +kernel⟩, by decide⟩
set_option maxRecDepth 20000 in
theorem stJ2_charAt_3b067 : MSt (mdJ2_charAt_3b067) := tb_in (t3_in (List.mem_of_getElem? (i := 83) rfl)) rfl
def mdJ2_checkIndex_2214a : MD := (yJ2_checkIndex_2214a, cJ2_checkIndex_2214a, 2, none, 2, 0, 0)
set_option maxRecDepth 20000 in
theorem okJ2_checkIndex_2214a : MOk (mdJ2_checkIndex_2214a) 2 := ⟨tb_in (t3_in (List.mem_of_getElem? (i := 87) rfl)) rfl, tb_in (t1_in (List.mem_of_getElem? (i := 18) rfl)) rfl, ⟨by decide, by decide, by decide +kernel⟩, by decide⟩
set_option maxRecDepth 20000 in
theorem stJ2_checkIndex_2214a : MSt (mdJ2_checkIndex_2214a) := tb_in (t3_in (List.mem_of_getElem? (i := 86) rfl)) rfl
def mdJ7_fill_d0a16 : MD := (yJ7_fill_d0a16, cJ7_fill_d0a16, 5, none, 0, 0, 0)
set_option maxRecDepth 20000 in
theorem okJ7_fill_d0a16 : MOk (mdJ7_fill_d0a16) 2 := ⟨tb_in (t5_in (List.mem_of_getElem? (i := 72) rfl)) rfl, tb_in (t1_in (List.mem_of_getElem? (i := 3) rfl)) rfl, ⟨by decide, by decide, by decide +kernel⟩, by decide⟩
set_option maxRecDepth 20000 in
theorem stJ7_fill_d0a16 : MSt (mdJ7_fill_d0a16) := tb_in (t5_in (List.mem_of_getElem? (i := 71) rfl)) rfl
def mdJ7_fill_53178 : MD := (yJ7_fill_53178, cJ7_fill_53178, 4, none, 0, 0, 0)
set_option maxRecDepth 20000 in
theorem okJ7_fill_53178 : MOk (mdJ7_fill_53178) 2 := ⟨tb_in (t1_in (List.mem_of_getElem? (i := 40) rfl)) rfl, tb_in (t1_in (List.mem_of_getElem? (i := 3) rfl)) rfl, ⟨by decide, by decide, by decide +kernel⟩, by decide⟩
set_option maxRecDepth 20000 in
theorem stJ7_fill_53178 : MSt (mdJ7_fill_53178) := tb_in (t1_in (List.mem_of_getElem? (i := 39) rfl)) rfl
def mdJ7_copyOf_59c91 : MD := (yJ7_copyOf_59c91, cJ7_copyOf_59c91, 3, some (.array .int), 1, 1, 300)
set_option maxRecDepth 20000 in
theorem okJ7_copyOf_59c91 : MOk (mdJ7_copyOf_59c91) 2 := ⟨tb_in (t3_in (List.mem_of_getElem? (i := 194) rfl)) rfl, tb_in (t1_in (List.mem_of_getElem? (i := 3) rfl)) rfl, ⟨by decide, by decide, by decide +kernel⟩, by decide⟩
set_option maxRecDepth 20000 in
theorem stJ7_copyOf_59c91 : MSt (mdJ7_copyOf_59c91) := tb_in (t3_in (List.mem_of_getElem? (i := 193) rfl)) rfl
def mdJ3_checkIndex_8e157 : MD := (yJ3_checkIndex_8e157, cJ3_checkIndex_8e157, 3, some .int, 0, 0, 0)
set_option maxRecDepth 20000 in
theorem okJ3_checkIndex_8e157 : MOk (mdJ3_checkIndex_8e157) 3 := ⟨tb_in (t3_in (List.mem_of_getElem? (i := 81) rfl)) rfl, tb_in (t1_in (List.mem_of_getElem? (i := 17) rfl)) rfl, ⟨by decide, by decide, by decide +kernel⟩, by decide⟩
set_option maxRecDepth 20000 in
theorem stJ3_checkIndex_8e157 : MSt (mdJ3_checkIndex_8e157) := tb_in (t3_in (List.mem_of_getElem? (i := 80) rfl)) rfl
set_option maxRecDepth 20000 in
theorem flX6_9 : FLk RX6 9 6 0 := ⟨RX6, TX6, 12, rfl, by decide, rfl, tb_in (t1_in (List.mem_of_getElem? (i := 41) rfl)) rfl⟩
set_option maxRecDepth 20000 in
theorem plX6_9 (D : MD) (h : (mY D).cls = RX6) (h2 : (mY D).name = "<init>") : PLk D 9 6 0 := ⟨RX6, TX6, 12, rfl, by decide, rfl, by rw [h]; exact tb_in (t1_in (List.mem_of_getElem? (i := 41) rfl)) rfl, Or.inr ⟨rfl, h2, h.symm⟩⟩
set_option maxRecDepth 20000 in
theorem flX6_15 : FLk RX6 15 6 1 := ⟨RX6, TX6, 12, rfl, by decide, rfl, tb_in (t1_in (List.mem_of_getElem? (i := 42) rfl)) rfl⟩
set_option maxRecDepth 20000 in
theorem plX6_15 (D : MD) (h : (mY D).cls = RX6) (h2 : (mY D).name = "<init>") : PLk D 15 6 1 := ⟨RX6, TX6, 12, rfl, by decide, rfl, by rw [h]; exact tb_in (t1_in (List.mem_of_getElem? (i := 42) rfl)) rfl, Or.inr ⟨rfl, h2, h.symm⟩⟩
set_option maxRecDepth 20000 in
theorem flX6_18 : FLk RX6 18 6 2 := ⟨RX6, TX6, 12, rfl, by decide, rfl, tb_in (t1_in (List.mem_of_getElem? (i := 43) rfl)) rfl⟩
set_option maxRecDepth 20000 in
theorem plX6_18 (D : MD) (h : (mY D).cls = RX6) (h2 : (mY D).name = "<init>") : PLk D 18 6 2 := ⟨RX6, TX6, 12, rfl, by decide, rfl, by rw [h]; exact tb_in (t1_in (List.mem_of_getElem? (i := 43) rfl)) rfl, Or.inr ⟨rfl, h2, h.symm⟩⟩
set_option maxRecDepth 20000 in
theorem flX6_21 : FLk RX6 21 6 3 := ⟨RX6, TX6, 12, rfl, by decide, rfl, tb_in (t1_in (List.mem_of_getElem? (i := 44) rfl)) rfl⟩
set_option maxRecDepth 20000 in
theorem plX6_21 (D : MD) (h : (mY D).cls = RX6) (h2 : (mY D).name = "<init>") : PLk D 21 6 3 := ⟨RX6, TX6, 12, rfl, by decide, rfl, by rw [h]; exact tb_in (t1_in (List.mem_of_getElem? (i := 44) rfl)) rfl, Or.inr ⟨rfl, h2, h.symm⟩⟩
set_option maxRecDepth 20000 in
theorem flX6_24 : FLk RX6 24 6 4 := ⟨RX6, TX6, 12, rfl, by decide, rfl, tb_in (t1_in (List.mem_of_getElem? (i := 45) rfl)) rfl⟩
set_option maxRecDepth 20000 in
theorem plX6_24 (D : MD) (h : (mY D).cls = RX6) (h2 : (mY D).name = "<init>") : PLk D 24 6 4 := ⟨RX6, TX6, 12, rfl, by decide, rfl, by rw [h]; exact tb_in (t1_in (List.mem_of_getElem? (i := 45) rfl)) rfl, Or.inr ⟨rfl, h2, h.symm⟩⟩
set_option maxRecDepth 20000 in
theorem flX6_29 : FLk RX6 29 6 5 := ⟨RX6, TX6, 12, rfl, by decide, rfl, tb_in (t1_in (List.mem_of_getElem? (i := 46) rfl)) rfl⟩
set_option maxRecDepth 20000 in
theorem plX6_29 (D : MD) (h : (mY D).cls = RX6) (h2 : (mY D).name = "<init>") : PLk D 29 6 5 := ⟨RX6, TX6, 12, rfl, by decide, rfl, by rw [h]; exact tb_in (t1_in (List.mem_of_getElem? (i := 46) rfl)) rfl, Or.inr ⟨rfl, h2, h.symm⟩⟩
set_option maxRecDepth 20000 in
theorem flX7_43 : FLk RX7 43 6 6 := ⟨RX6, TX6, 12, rfl, by decide, rfl, tb_in (t1_in (List.mem_of_getElem? (i := 47) rfl)) rfl⟩
set_option maxRecDepth 20000 in
theorem plX7_43 (D : MD) (h : (mY D).cls = RX7) : PLk D 43 6 6 := ⟨RX6, TX6, 12, rfl, by decide, rfl, by rw [h]; exact tb_in (t1_in (List.mem_of_getElem? (i := 47) rfl)) rfl, Or.inl rfl⟩
set_option maxRecDepth 20000 in
theorem flX6_52 : FLk RX6 52 6 6 := ⟨RX6, TX6, 12, rfl, by decide, rfl, tb_in (t1_in (List.mem_of_getElem? (i := 48) rfl)) rfl⟩
set_option maxRecDepth 20000 in
theorem plX6_52 (D : MD) (h : (mY D).cls = RX6) : PLk D 52 6 6 := ⟨RX6, TX6, 12, rfl, by decide, rfl, by rw [h]; exact tb_in (t1_in (List.mem_of_getElem? (i := 48) rfl)) rfl, Or.inl rfl⟩
set_option maxRecDepth 20000 in
theorem flX3_60 : FLk RX3 60 6 6 := ⟨RX6, TX6, 12, rfl, by decide, rfl, tb_in (t1_in (List.mem_of_getElem? (i := 49) rfl)) rfl⟩
set_option maxRecDepth 20000 in
theorem plX3_60 (D : MD) (h : (mY D).cls = RX3) : PLk D 60 6 6 := ⟨RX6, TX6, 12, rfl, by decide, rfl, by rw [h]; exact tb_in (t1_in (List.mem_of_getElem? (i := 49) rfl)) rfl, Or.inl rfl⟩
set_option maxRecDepth 20000 in
theorem flX10_66 : FLk RX10 66 6 6 := ⟨RX6, TX6, 12, rfl, by decide, rfl, tb_in (t1_in (List.mem_of_getElem? (i := 50) rfl)) rfl⟩
set_option maxRecDepth 20000 in
theorem plX10_66 (D : MD) (h : (mY D).cls = RX10) : PLk D 66 6 6 := ⟨RX6, TX6, 12, rfl, by decide, rfl, by rw [h]; exact tb_in (t1_in (List.mem_of_getElem? (i := 50) rfl)) rfl, Or.inl rfl⟩
set_option maxRecDepth 20000 in
theorem flX9_114 : FLk RX9 114 6 6 := ⟨RX6, TX6, 12, rfl, by decide, rfl, tb_in (t1_in (List.mem_of_getElem? (i := 51) rfl)) rfl⟩
set_option maxRecDepth 20000 in
theorem plX9_114 (D : MD) (h : (mY D).cls = RX9) : PLk D 114 6 6 := ⟨RX6, TX6, 12, rfl, by decide, rfl, by rw [h]; exact tb_in (t1_in (List.mem_of_getElem? (i := 51) rfl)) rfl, Or.inl rfl⟩
set_option maxRecDepth 20000 in
theorem flX11_265 : FLk RX11 265 6 6 := ⟨RX6, TX6, 12, rfl, by decide, rfl, tb_in (t1_in (List.mem_of_getElem? (i := 52) rfl)) rfl⟩
set_option maxRecDepth 20000 in
theorem plX11_265 (D : MD) (h : (mY D).cls = RX11) : PLk D 265 6 6 := ⟨RX6, TX6, 12, rfl, by decide, rfl, by rw [h]; exact tb_in (t1_in (List.mem_of_getElem? (i := 52) rfl)) rfl, Or.inl rfl⟩
set_option maxRecDepth 20000 in
theorem flX6_39 : FLk RX6 39 6 7 := ⟨RX6, TX6, 12, rfl, by decide, rfl, tb_in (t1_in (List.mem_of_getElem? (i := 53) rfl)) rfl⟩
set_option maxRecDepth 20000 in
theorem plX6_39 (D : MD) (h : (mY D).cls = RX6) : PLk D 39 6 7 := ⟨RX6, TX6, 12, rfl, by decide, rfl, by rw [h]; exact tb_in (t1_in (List.mem_of_getElem? (i := 53) rfl)) rfl, Or.inl rfl⟩
set_option maxRecDepth 20000 in
theorem flX3_25 : FLk RX3 25 6 7 := ⟨RX6, TX6, 12, rfl, by decide, rfl, tb_in (t1_in (List.mem_of_getElem? (i := 54) rfl)) rfl⟩
set_option maxRecDepth 20000 in
theorem plX3_25 (D : MD) (h : (mY D).cls = RX3) : PLk D 25 6 7 := ⟨RX6, TX6, 12, rfl, by decide, rfl, by rw [h]; exact tb_in (t1_in (List.mem_of_getElem? (i := 54) rfl)) rfl, Or.inl rfl⟩
set_option maxRecDepth 20000 in
theorem flX0_82 : FLk RX0 82 6 7 := ⟨RX6, TX6, 12, rfl, by decide, rfl, tb_in (t1_in (List.mem_of_getElem? (i := 55) rfl)) rfl⟩
set_option maxRecDepth 20000 in
theorem plX0_82 (D : MD) (h : (mY D).cls = RX0) : PLk D 82 6 7 := ⟨RX6, TX6, 12, rfl, by decide, rfl, by rw [h]; exact tb_in (t1_in (List.mem_of_getElem? (i := 55) rfl)) rfl, Or.inl rfl⟩
set_option maxRecDepth 20000 in
theorem flX11_325 : FLk RX11 325 6 7 := ⟨RX6, TX6, 12, rfl, by decide, rfl, tb_in (t1_in (List.mem_of_getElem? (i := 56) rfl)) rfl⟩
set_option maxRecDepth 20000 in
theorem plX11_325 (D : MD) (h : (mY D).cls = RX11) : PLk D 325 6 7 := ⟨RX6, TX6, 12, rfl, by decide, rfl, by rw [h]; exact tb_in (t1_in (List.mem_of_getElem? (i := 56) rfl)) rfl, Or.inl rfl⟩
set_option maxRecDepth 20000 in
theorem flX6_55 : FLk RX6 55 6 8 := ⟨RX6, TX6, 12, rfl, by decide, rfl, tb_in (t1_in (List.mem_of_getElem? (i := 57) rfl)) rfl⟩
set_option maxRecDepth 20000 in
theorem plX6_55 (D : MD) (h : (mY D).cls = RX6) : PLk D 55 6 8 := ⟨RX6, TX6, 12, rfl, by decide, rfl, by rw [h]; exact tb_in (t1_in (List.mem_of_getElem? (i := 57) rfl)) rfl, Or.inl rfl⟩
set_option maxRecDepth 20000 in
theorem flX7_116 : FLk RX7 116 6 8 := ⟨RX6, TX6, 12, rfl, by decide, rfl, tb_in (t1_in (List.mem_of_getElem? (i := 58) rfl)) rfl⟩
set_option maxRecDepth 20000 in
theorem plX7_116 (D : MD) (h : (mY D).cls = RX7) : PLk D 116 6 8 := ⟨RX6, TX6, 12, rfl, by decide, rfl, by rw [h]; exact tb_in (t1_in (List.mem_of_getElem? (i := 58) rfl)) rfl, Or.inl rfl⟩
set_option maxRecDepth 20000 in
theorem flX9_126 : FLk RX9 126 6 8 := ⟨RX6, TX6, 12, rfl, by decide, rfl, tb_in (t1_in (List.mem_of_getElem? (i := 59) rfl)) rfl⟩
set_option maxRecDepth 20000 in
theorem plX9_126 (D : MD) (h : (mY D).cls = RX9) : PLk D 126 6 8 := ⟨RX6, TX6, 12, rfl, by decide, rfl, by rw [h]; exact tb_in (t1_in (List.mem_of_getElem? (i := 59) rfl)) rfl, Or.inl rfl⟩
set_option maxRecDepth 20000 in
theorem flX11_353 : FLk RX11 353 6 8 := ⟨RX6, TX6, 12, rfl, by decide, rfl, tb_in (t1_in (List.mem_of_getElem? (i := 60) rfl)) rfl⟩
set_option maxRecDepth 20000 in
theorem plX11_353 (D : MD) (h : (mY D).cls = RX11) : PLk D 353 6 8 := ⟨RX6, TX6, 12, rfl, by decide, rfl, by rw [h]; exact tb_in (t1_in (List.mem_of_getElem? (i := 60) rfl)) rfl, Or.inl rfl⟩
set_option maxRecDepth 20000 in
theorem flX6_58 : FLk RX6 58 6 9 := ⟨RX6, TX6, 12, rfl, by decide, rfl, tb_in (t1_in (List.mem_of_getElem? (i := 61) rfl)) rfl⟩
set_option maxRecDepth 20000 in
theorem plX6_58 (D : MD) (h : (mY D).cls = RX6) : PLk D 58 6 9 := ⟨RX6, TX6, 12, rfl, by decide, rfl, by rw [h]; exact tb_in (t1_in (List.mem_of_getElem? (i := 61) rfl)) rfl, Or.inl rfl⟩
set_option maxRecDepth 20000 in
theorem flX10_70 : FLk RX10 70 6 9 := ⟨RX6, TX6, 12, rfl, by decide, rfl, tb_in (t1_in (List.mem_of_getElem? (i := 62) rfl)) rfl⟩
set_option maxRecDepth 20000 in
theorem plX10_70 (D : MD) (h : (mY D).cls = RX10) : PLk D 70 6 9 := ⟨RX6, TX6, 12, rfl, by decide, rfl, by rw [h]; exact tb_in (t1_in (List.mem_of_getElem? (i := 62) rfl)) rfl, Or.inl rfl⟩
set_option maxRecDepth 20000 in
theorem flX11_259 : FLk RX11 259 6 9 := ⟨RX6, TX6, 12, rfl, by decide, rfl, tb_in (t1_in (List.mem_of_getElem? (i := 63) rfl)) rfl⟩
set_option maxRecDepth 20000 in
theorem plX11_259 (D : MD) (h : (mY D).cls = RX11) : PLk D 259 6 9 := ⟨RX6, TX6, 12, rfl, by decide, rfl, by rw [h]; exact tb_in (t1_in (List.mem_of_getElem? (i := 63) rfl)) rfl, Or.inl rfl⟩
set_option maxRecDepth 20000 in
theorem flX6_61 : FLk RX6 61 6 10 := ⟨RX6, TX6, 12, rfl, by decide, rfl, tb_in (t1_in (List.mem_of_getElem? (i := 64) rfl)) rfl⟩
set_option maxRecDepth 20000 in
theorem plX6_61 (D : MD) (h : (mY D).cls = RX6) : PLk D 61 6 10 := ⟨RX6, TX6, 12, rfl, by decide, rfl, by rw [h]; exact tb_in (t1_in (List.mem_of_getElem? (i := 64) rfl)) rfl, Or.inl rfl⟩
set_option maxRecDepth 20000 in
theorem flX11_136 : FLk RX11 136 6 10 := ⟨RX6, TX6, 12, rfl, by decide, rfl, tb_in (t1_in (List.mem_of_getElem? (i := 65) rfl)) rfl⟩
set_option maxRecDepth 20000 in
theorem plX11_136 (D : MD) (h : (mY D).cls = RX11) : PLk D 136 6 10 := ⟨RX6, TX6, 12, rfl, by decide, rfl, by rw [h]; exact tb_in (t1_in (List.mem_of_getElem? (i := 65) rfl)) rfl, Or.inl rfl⟩
set_option maxRecDepth 20000 in
theorem flX6_43 : FLk RX6 43 6 11 := ⟨RX6, TX6, 12, rfl, by decide, rfl, tb_in (t1_in (List.mem_of_getElem? (i := 66) rfl)) rfl⟩
set_option maxRecDepth 20000 in
theorem plX6_43 (D : MD) (h : (mY D).cls = RX6) : PLk D 43 6 11 := ⟨RX6, TX6, 12, rfl, by decide, rfl, by rw [h]; exact tb_in (t1_in (List.mem_of_getElem? (i := 66) rfl)) rfl, Or.inl rfl⟩
set_option maxRecDepth 20000 in
theorem flX2_35 : FLk RX2 35 6 11 := ⟨RX6, TX6, 12, rfl, by decide, rfl, tb_in (t1_in (List.mem_of_getElem? (i := 67) rfl)) rfl⟩
set_option maxRecDepth 20000 in
theorem plX2_35 (D : MD) (h : (mY D).cls = RX2) : PLk D 35 6 11 := ⟨RX6, TX6, 12, rfl, by decide, rfl, by rw [h]; exact tb_in (t1_in (List.mem_of_getElem? (i := 67) rfl)) rfl, Or.inl rfl⟩
set_option maxRecDepth 20000 in
theorem flX11_156 : FLk RX11 156 6 11 := ⟨RX6, TX6, 12, rfl, by decide, rfl, tb_in (t1_in (List.mem_of_getElem? (i := 68) rfl)) rfl⟩
set_option maxRecDepth 20000 in
theorem plX11_156 (D : MD) (h : (mY D).cls = RX11) : PLk D 156 6 11 := ⟨RX6, TX6, 12, rfl, by decide, rfl, by rw [h]; exact tb_in (t1_in (List.mem_of_getElem? (i := 68) rfl)) rfl, Or.inl rfl⟩
set_option maxRecDepth 20000 in
theorem flX8_9 : FLk RX8 9 8 0 := ⟨RX8, TX8, 4, rfl, by decide, rfl, tb_in (t1_in (List.mem_of_getElem? (i := 101) rfl)) rfl⟩
set_option maxRecDepth 20000 in
theorem plX8_9 (D : MD) (h : (mY D).cls = RX8) (h2 : (mY D).name = "<init>") : PLk D 9 8 0 := ⟨RX8, TX8, 4, rfl, by decide, rfl, by rw [h]; exact tb_in (t1_in (List.mem_of_getElem? (i := 101) rfl)) rfl, Or.inr ⟨rfl, h2, h.symm⟩⟩
set_option maxRecDepth 20000 in
theorem flX9_27 : FLk RX9 27 8 0 := ⟨RX8, TX8, 4, rfl, by decide, rfl, tb_in (t1_in (List.mem_of_getElem? (i := 102) rfl)) rfl⟩
set_option maxRecDepth 20000 in
theorem flX2_74 : FLk RX2 74 8 0 := ⟨RX8, TX8, 4, rfl, by decide, rfl, tb_in (t1_in (List.mem_of_getElem? (i := 103) rfl)) rfl⟩
set_option maxRecDepth 20000 in
theorem flX7_72 : FLk RX7 72 8 0 := ⟨RX8, TX8, 4, rfl, by decide, rfl, tb_in (t1_in (List.mem_of_getElem? (i := 104) rfl)) rfl⟩
set_option maxRecDepth 20000 in
theorem flX11_169 : FLk RX11 169 8 0 := ⟨RX8, TX8, 4, rfl, by decide, rfl, tb_in (t1_in (List.mem_of_getElem? (i := 105) rfl)) rfl⟩
set_option maxRecDepth 20000 in
theorem flX8_15 : FLk RX8 15 8 1 := ⟨RX8, TX8, 4, rfl, by decide, rfl, tb_in (t1_in (List.mem_of_getElem? (i := 106) rfl)) rfl⟩
set_option maxRecDepth 20000 in
theorem plX8_15 (D : MD) (h : (mY D).cls = RX8) (h2 : (mY D).name = "<init>") : PLk D 15 8 1 := ⟨RX8, TX8, 4, rfl, by decide, rfl, by rw [h]; exact tb_in (t1_in (List.mem_of_getElem? (i := 106) rfl)) rfl, Or.inr ⟨rfl, h2, h.symm⟩⟩
set_option maxRecDepth 20000 in
theorem flX8_24 : FLk RX8 24 8 2 := ⟨RX8, TX8, 4, rfl, by decide, rfl, tb_in (t1_in (List.mem_of_getElem? (i := 107) rfl)) rfl⟩
set_option maxRecDepth 20000 in
theorem plX8_24 (D : MD) (h : (mY D).cls = RX8) : PLk D 24 8 2 := ⟨RX8, TX8, 4, rfl, by decide, rfl, by rw [h]; exact tb_in (t1_in (List.mem_of_getElem? (i := 107) rfl)) rfl, Or.inl rfl⟩
set_option maxRecDepth 20000 in
theorem flX11_356 : FLk RX11 356 8 2 := ⟨RX8, TX8, 4, rfl, by decide, rfl, tb_in (t1_in (List.mem_of_getElem? (i := 108) rfl)) rfl⟩
set_option maxRecDepth 20000 in
theorem plX11_356 (D : MD) (h : (mY D).cls = RX11) : PLk D 356 8 2 := ⟨RX8, TX8, 4, rfl, by decide, rfl, by rw [h]; exact tb_in (t1_in (List.mem_of_getElem? (i := 108) rfl)) rfl, Or.inl rfl⟩
set_option maxRecDepth 20000 in
theorem flX8_28 : FLk RX8 28 8 3 := ⟨RX8, TX8, 4, rfl, by decide, rfl, tb_in (t1_in (List.mem_of_getElem? (i := 109) rfl)) rfl⟩
set_option maxRecDepth 20000 in
theorem plX8_28 (D : MD) (h : (mY D).cls = RX8) : PLk D 28 8 3 := ⟨RX8, TX8, 4, rfl, by decide, rfl, by rw [h]; exact tb_in (t1_in (List.mem_of_getElem? (i := 109) rfl)) rfl, Or.inl rfl⟩
set_option maxRecDepth 20000 in
theorem flX4_9 : FLk RX4 9 4 0 := ⟨RX4, TX4, 15, rfl, by decide, rfl, tb_in (t1_in (List.mem_of_getElem? (i := 125) rfl)) rfl⟩
set_option maxRecDepth 20000 in
theorem plX4_9 (D : MD) (h : (mY D).cls = RX4) (h2 : (mY D).name = "<init>") : PLk D 9 4 0 := ⟨RX4, TX4, 15, rfl, by decide, rfl, by rw [h]; exact tb_in (t1_in (List.mem_of_getElem? (i := 125) rfl)) rfl, Or.inr ⟨rfl, h2, h.symm⟩⟩
set_option maxRecDepth 20000 in
theorem flX4_15 : FLk RX4 15 4 1 := ⟨RX4, TX4, 15, rfl, by decide, rfl, tb_in (t1_in (List.mem_of_getElem? (i := 126) rfl)) rfl⟩
set_option maxRecDepth 20000 in
theorem plX4_15 (D : MD) (h : (mY D).cls = RX4) (h2 : (mY D).name = "<init>") : PLk D 15 4 1 := ⟨RX4, TX4, 15, rfl, by decide, rfl, by rw [h]; exact tb_in (t1_in (List.mem_of_getElem? (i := 126) rfl)) rfl, Or.inr ⟨rfl, h2, h.symm⟩⟩
set_option maxRecDepth 20000 in
theorem flX4_18 : FLk RX4 18 4 2 := ⟨RX4, TX4, 15, rfl, by decide, rfl, tb_in (t1_in (List.mem_of_getElem? (i := 127) rfl)) rfl⟩
set_option maxRecDepth 20000 in
theorem plX4_18 (D : MD) (h : (mY D).cls = RX4) (h2 : (mY D).name = "<init>") : PLk D 18 4 2 := ⟨RX4, TX4, 15, rfl, by decide, rfl, by rw [h]; exact tb_in (t1_in (List.mem_of_getElem? (i := 127) rfl)) rfl, Or.inr ⟨rfl, h2, h.symm⟩⟩
set_option maxRecDepth 20000 in
theorem flX4_21 : FLk RX4 21 4 3 := ⟨RX4, TX4, 15, rfl, by decide, rfl, tb_in (t1_in (List.mem_of_getElem? (i := 128) rfl)) rfl⟩
set_option maxRecDepth 20000 in
theorem plX4_21 (D : MD) (h : (mY D).cls = RX4) (h2 : (mY D).name = "<init>") : PLk D 21 4 3 := ⟨RX4, TX4, 15, rfl, by decide, rfl, by rw [h]; exact tb_in (t1_in (List.mem_of_getElem? (i := 128) rfl)) rfl, Or.inr ⟨rfl, h2, h.symm⟩⟩
set_option maxRecDepth 20000 in
theorem flX4_24 : FLk RX4 24 4 4 := ⟨RX4, TX4, 15, rfl, by decide, rfl, tb_in (t1_in (List.mem_of_getElem? (i := 129) rfl)) rfl⟩
set_option maxRecDepth 20000 in
theorem plX4_24 (D : MD) (h : (mY D).cls = RX4) (h2 : (mY D).name = "<init>") : PLk D 24 4 4 := ⟨RX4, TX4, 15, rfl, by decide, rfl, by rw [h]; exact tb_in (t1_in (List.mem_of_getElem? (i := 129) rfl)) rfl, Or.inr ⟨rfl, h2, h.symm⟩⟩
set_option maxRecDepth 20000 in
theorem flX4_27 : FLk RX4 27 4 5 := ⟨RX4, TX4, 15, rfl, by decide, rfl, tb_in (t1_in (List.mem_of_getElem? (i := 130) rfl)) rfl⟩
set_option maxRecDepth 20000 in
theorem plX4_27 (D : MD) (h : (mY D).cls = RX4) (h2 : (mY D).name = "<init>") : PLk D 27 4 5 := ⟨RX4, TX4, 15, rfl, by decide, rfl, by rw [h]; exact tb_in (t1_in (List.mem_of_getElem? (i := 130) rfl)) rfl, Or.inr ⟨rfl, h2, h.symm⟩⟩
set_option maxRecDepth 20000 in
theorem flX4_30 : FLk RX4 30 4 6 := ⟨RX4, TX4, 15, rfl, by decide, rfl, tb_in (t1_in (List.mem_of_getElem? (i := 131) rfl)) rfl⟩
set_option maxRecDepth 20000 in
theorem plX4_30 (D : MD) (h : (mY D).cls = RX4) (h2 : (mY D).name = "<init>") : PLk D 30 4 6 := ⟨RX4, TX4, 15, rfl, by decide, rfl, by rw [h]; exact tb_in (t1_in (List.mem_of_getElem? (i := 131) rfl)) rfl, Or.inr ⟨rfl, h2, h.symm⟩⟩
set_option maxRecDepth 20000 in
theorem flX4_43 : FLk RX4 43 4 7 := ⟨RX4, TX4, 15, rfl, by decide, rfl, tb_in (t1_in (List.mem_of_getElem? (i := 132) rfl)) rfl⟩
set_option maxRecDepth 20000 in
theorem plX4_43 (D : MD) (h : (mY D).cls = RX4) : PLk D 43 4 7 := ⟨RX4, TX4, 15, rfl, by decide, rfl, by rw [h]; exact tb_in (t1_in (List.mem_of_getElem? (i := 132) rfl)) rfl, Or.inl rfl⟩
set_option maxRecDepth 20000 in
theorem flX11_142 : FLk RX11 142 4 7 := ⟨RX4, TX4, 15, rfl, by decide, rfl, tb_in (t1_in (List.mem_of_getElem? (i := 133) rfl)) rfl⟩
set_option maxRecDepth 20000 in
theorem plX11_142 (D : MD) (h : (mY D).cls = RX11) : PLk D 142 4 7 := ⟨RX4, TX4, 15, rfl, by decide, rfl, by rw [h]; exact tb_in (t1_in (List.mem_of_getElem? (i := 133) rfl)) rfl, Or.inl rfl⟩
set_option maxRecDepth 20000 in
theorem flX4_47 : FLk RX4 47 4 8 := ⟨RX4, TX4, 15, rfl, by decide, rfl, tb_in (t1_in (List.mem_of_getElem? (i := 134) rfl)) rfl⟩
set_option maxRecDepth 20000 in
theorem plX4_47 (D : MD) (h : (mY D).cls = RX4) : PLk D 47 4 8 := ⟨RX4, TX4, 15, rfl, by decide, rfl, by rw [h]; exact tb_in (t1_in (List.mem_of_getElem? (i := 134) rfl)) rfl, Or.inl rfl⟩
set_option maxRecDepth 20000 in
theorem flX11_145 : FLk RX11 145 4 8 := ⟨RX4, TX4, 15, rfl, by decide, rfl, tb_in (t1_in (List.mem_of_getElem? (i := 135) rfl)) rfl⟩
set_option maxRecDepth 20000 in
theorem plX11_145 (D : MD) (h : (mY D).cls = RX11) : PLk D 145 4 8 := ⟨RX4, TX4, 15, rfl, by decide, rfl, by rw [h]; exact tb_in (t1_in (List.mem_of_getElem? (i := 135) rfl)) rfl, Or.inl rfl⟩
set_option maxRecDepth 20000 in
theorem flX4_62 : FLk RX4 62 4 9 := ⟨RX4, TX4, 15, rfl, by decide, rfl, tb_in (t1_in (List.mem_of_getElem? (i := 136) rfl)) rfl⟩
set_option maxRecDepth 20000 in
theorem plX4_62 (D : MD) (h : (mY D).cls = RX4) : PLk D 62 4 9 := ⟨RX4, TX4, 15, rfl, by decide, rfl, by rw [h]; exact tb_in (t1_in (List.mem_of_getElem? (i := 136) rfl)) rfl, Or.inl rfl⟩
set_option maxRecDepth 20000 in
theorem flX4_69 : FLk RX4 69 4 10 := ⟨RX4, TX4, 15, rfl, by decide, rfl, tb_in (t1_in (List.mem_of_getElem? (i := 137) rfl)) rfl⟩
set_option maxRecDepth 20000 in
theorem plX4_69 (D : MD) (h : (mY D).cls = RX4) : PLk D 69 4 10 := ⟨RX4, TX4, 15, rfl, by decide, rfl, by rw [h]; exact tb_in (t1_in (List.mem_of_getElem? (i := 137) rfl)) rfl, Or.inl rfl⟩
set_option maxRecDepth 20000 in
theorem flX4_119 : FLk RX4 119 4 11 := ⟨RX4, TX4, 15, rfl, by decide, rfl, tb_in (t1_in (List.mem_of_getElem? (i := 138) rfl)) rfl⟩
set_option maxRecDepth 20000 in
theorem plX4_119 (D : MD) (h : (mY D).cls = RX4) : PLk D 119 4 11 := ⟨RX4, TX4, 15, rfl, by decide, rfl, by rw [h]; exact tb_in (t1_in (List.mem_of_getElem? (i := 138) rfl)) rfl, Or.inl rfl⟩
set_option maxRecDepth 20000 in
theorem flX4_50 : FLk RX4 50 4 12 := ⟨RX4, TX4, 15, rfl, by decide, rfl, tb_in (t1_in (List.mem_of_getElem? (i := 139) rfl)) rfl⟩
set_option maxRecDepth 20000 in
theorem plX4_50 (D : MD) (h : (mY D).cls = RX4) : PLk D 50 4 12 := ⟨RX4, TX4, 15, rfl, by decide, rfl, by rw [h]; exact tb_in (t1_in (List.mem_of_getElem? (i := 139) rfl)) rfl, Or.inl rfl⟩
set_option maxRecDepth 20000 in
theorem flX4_53 : FLk RX4 53 4 13 := ⟨RX4, TX4, 15, rfl, by decide, rfl, tb_in (t1_in (List.mem_of_getElem? (i := 140) rfl)) rfl⟩
set_option maxRecDepth 20000 in
theorem plX4_53 (D : MD) (h : (mY D).cls = RX4) : PLk D 53 4 13 := ⟨RX4, TX4, 15, rfl, by decide, rfl, by rw [h]; exact tb_in (t1_in (List.mem_of_getElem? (i := 140) rfl)) rfl, Or.inl rfl⟩
set_option maxRecDepth 20000 in
theorem flX4_170 : FLk RX4 170 4 14 := ⟨RX4, TX4, 15, rfl, by decide, rfl, tb_in (t1_in (List.mem_of_getElem? (i := 141) rfl)) rfl⟩
set_option maxRecDepth 20000 in
theorem plX4_170 (D : MD) (h : (mY D).cls = RX4) : PLk D 170 4 14 := ⟨RX4, TX4, 15, rfl, by decide, rfl, by rw [h]; exact tb_in (t1_in (List.mem_of_getElem? (i := 141) rfl)) rfl, Or.inl rfl⟩
set_option maxRecDepth 20000 in
theorem flX2_9 : FLk RX2 9 2 0 := ⟨RX2, TX2, 4, rfl, by decide, rfl, tb_in (t1_in (List.mem_of_getElem? (i := 179) rfl)) rfl⟩
set_option maxRecDepth 20000 in
theorem plX2_9 (D : MD) (h : (mY D).cls = RX2) (h2 : (mY D).name = "<init>") : PLk D 9 2 0 := ⟨RX2, TX2, 4, rfl, by decide, rfl, by rw [h]; exact tb_in (t1_in (List.mem_of_getElem? (i := 179) rfl)) rfl, Or.inr ⟨rfl, h2, h.symm⟩⟩
set_option maxRecDepth 20000 in
theorem flX2_15 : FLk RX2 15 2 1 := ⟨RX2, TX2, 4, rfl, by decide, rfl, tb_in (t1_in (List.mem_of_getElem? (i := 180) rfl)) rfl⟩
set_option maxRecDepth 20000 in
theorem plX2_15 (D : MD) (h : (mY D).cls = RX2) (h2 : (mY D).name = "<init>") : PLk D 15 2 1 := ⟨RX2, TX2, 4, rfl, by decide, rfl, by rw [h]; exact tb_in (t1_in (List.mem_of_getElem? (i := 180) rfl)) rfl, Or.inr ⟨rfl, h2, h.symm⟩⟩
set_option maxRecDepth 20000 in
theorem flX2_19 : FLk RX2 19 2 2 := ⟨RX2, TX2, 4, rfl, by decide, rfl, tb_in (t1_in (List.mem_of_getElem? (i := 181) rfl)) rfl⟩
set_option maxRecDepth 20000 in
theorem plX2_19 (D : MD) (h : (mY D).cls = RX2) (h2 : (mY D).name = "<init>") : PLk D 19 2 2 := ⟨RX2, TX2, 4, rfl, by decide, rfl, by rw [h]; exact tb_in (t1_in (List.mem_of_getElem? (i := 181) rfl)) rfl, Or.inr ⟨rfl, h2, h.symm⟩⟩
set_option maxRecDepth 20000 in
theorem flX2_23 : FLk RX2 23 2 3 := ⟨RX2, TX2, 4, rfl, by decide, rfl, tb_in (t1_in (List.mem_of_getElem? (i := 182) rfl)) rfl⟩
set_option maxRecDepth 20000 in
theorem plX2_23 (D : MD) (h : (mY D).cls = RX2) (h2 : (mY D).name = "<init>") : PLk D 23 2 3 := ⟨RX2, TX2, 4, rfl, by decide, rfl, by rw [h]; exact tb_in (t1_in (List.mem_of_getElem? (i := 182) rfl)) rfl, Or.inr ⟨rfl, h2, h.symm⟩⟩
set_option maxRecDepth 20000 in
theorem flX1_9 : FLk RX1 9 1 0 := ⟨RX1, TX1, 5, rfl, by decide, rfl, tb_in (t1_in (List.mem_of_getElem? (i := 198) rfl)) rfl⟩
set_option maxRecDepth 20000 in
theorem plX1_9 (D : MD) (h : (mY D).cls = RX1) (h2 : (mY D).name = "<init>") : PLk D 9 1 0 := ⟨RX1, TX1, 5, rfl, by decide, rfl, by rw [h]; exact tb_in (t1_in (List.mem_of_getElem? (i := 198) rfl)) rfl, Or.inr ⟨rfl, h2, h.symm⟩⟩
set_option maxRecDepth 20000 in
theorem flX1_15 : FLk RX1 15 1 1 := ⟨RX1, TX1, 5, rfl, by decide, rfl, tb_in (t1_in (List.mem_of_getElem? (i := 199) rfl)) rfl⟩
set_option maxRecDepth 20000 in
theorem plX1_15 (D : MD) (h : (mY D).cls = RX1) (h2 : (mY D).name = "<init>") : PLk D 15 1 1 := ⟨RX1, TX1, 5, rfl, by decide, rfl, by rw [h]; exact tb_in (t1_in (List.mem_of_getElem? (i := 199) rfl)) rfl, Or.inr ⟨rfl, h2, h.symm⟩⟩
set_option maxRecDepth 20000 in
theorem flX9_105 : FLk RX9 105 1 1 := ⟨RX1, TX1, 5, rfl, by decide, rfl, tb_in (t1_in (List.mem_of_getElem? (i := 200) rfl)) rfl⟩
set_option maxRecDepth 20000 in
theorem flX11_337 : FLk RX11 337 1 1 := ⟨RX1, TX1, 5, rfl, by decide, rfl, tb_in (t1_in (List.mem_of_getElem? (i := 201) rfl)) rfl⟩
set_option maxRecDepth 20000 in
theorem flX1_19 : FLk RX1 19 1 2 := ⟨RX1, TX1, 5, rfl, by decide, rfl, tb_in (t1_in (List.mem_of_getElem? (i := 202) rfl)) rfl⟩
set_option maxRecDepth 20000 in
theorem plX1_19 (D : MD) (h : (mY D).cls = RX1) : PLk D 19 1 2 := ⟨RX1, TX1, 5, rfl, by decide, rfl, by rw [h]; exact tb_in (t1_in (List.mem_of_getElem? (i := 202) rfl)) rfl, Or.inl rfl⟩
set_option maxRecDepth 20000 in
theorem flX10_56 : FLk RX10 56 1 2 := ⟨RX1, TX1, 5, rfl, by decide, rfl, tb_in (t1_in (List.mem_of_getElem? (i := 203) rfl)) rfl⟩
set_option maxRecDepth 20000 in
theorem plX10_56 (D : MD) (h : (mY D).cls = RX10) : PLk D 56 1 2 := ⟨RX1, TX1, 5, rfl, by decide, rfl, by rw [h]; exact tb_in (t1_in (List.mem_of_getElem? (i := 203) rfl)) rfl, Or.inl rfl⟩
set_option maxRecDepth 20000 in
theorem flX0_76 : FLk RX0 76 1 2 := ⟨RX1, TX1, 5, rfl, by decide, rfl, tb_in (t1_in (List.mem_of_getElem? (i := 204) rfl)) rfl⟩
set_option maxRecDepth 20000 in
theorem plX0_76 (D : MD) (h : (mY D).cls = RX0) : PLk D 76 1 2 := ⟨RX1, TX1, 5, rfl, by decide, rfl, by rw [h]; exact tb_in (t1_in (List.mem_of_getElem? (i := 204) rfl)) rfl, Or.inl rfl⟩
set_option maxRecDepth 20000 in
theorem flX9_108 : FLk RX9 108 1 2 := ⟨RX1, TX1, 5, rfl, by decide, rfl, tb_in (t1_in (List.mem_of_getElem? (i := 205) rfl)) rfl⟩
set_option maxRecDepth 20000 in
theorem plX9_108 (D : MD) (h : (mY D).cls = RX9) : PLk D 108 1 2 := ⟨RX1, TX1, 5, rfl, by decide, rfl, by rw [h]; exact tb_in (t1_in (List.mem_of_getElem? (i := 205) rfl)) rfl, Or.inl rfl⟩
set_option maxRecDepth 20000 in
theorem flX1_23 : FLk RX1 23 1 3 := ⟨RX1, TX1, 5, rfl, by decide, rfl, tb_in (t1_in (List.mem_of_getElem? (i := 206) rfl)) rfl⟩
set_option maxRecDepth 20000 in
theorem plX1_23 (D : MD) (h : (mY D).cls = RX1) : PLk D 23 1 3 := ⟨RX1, TX1, 5, rfl, by decide, rfl, by rw [h]; exact tb_in (t1_in (List.mem_of_getElem? (i := 206) rfl)) rfl, Or.inl rfl⟩
set_option maxRecDepth 20000 in
theorem flX0_79 : FLk RX0 79 1 3 := ⟨RX1, TX1, 5, rfl, by decide, rfl, tb_in (t1_in (List.mem_of_getElem? (i := 207) rfl)) rfl⟩
set_option maxRecDepth 20000 in
theorem plX0_79 (D : MD) (h : (mY D).cls = RX0) : PLk D 79 1 3 := ⟨RX1, TX1, 5, rfl, by decide, rfl, by rw [h]; exact tb_in (t1_in (List.mem_of_getElem? (i := 207) rfl)) rfl, Or.inl rfl⟩
set_option maxRecDepth 20000 in
theorem flX10_86 : FLk RX10 86 1 3 := ⟨RX1, TX1, 5, rfl, by decide, rfl, tb_in (t1_in (List.mem_of_getElem? (i := 208) rfl)) rfl⟩
set_option maxRecDepth 20000 in
theorem plX10_86 (D : MD) (h : (mY D).cls = RX10) : PLk D 86 1 3 := ⟨RX1, TX1, 5, rfl, by decide, rfl, by rw [h]; exact tb_in (t1_in (List.mem_of_getElem? (i := 208) rfl)) rfl, Or.inl rfl⟩
set_option maxRecDepth 20000 in
theorem flX9_111 : FLk RX9 111 1 3 := ⟨RX1, TX1, 5, rfl, by decide, rfl, tb_in (t1_in (List.mem_of_getElem? (i := 209) rfl)) rfl⟩
set_option maxRecDepth 20000 in
theorem plX9_111 (D : MD) (h : (mY D).cls = RX9) : PLk D 111 1 3 := ⟨RX1, TX1, 5, rfl, by decide, rfl, by rw [h]; exact tb_in (t1_in (List.mem_of_getElem? (i := 209) rfl)) rfl, Or.inl rfl⟩
set_option maxRecDepth 20000 in
theorem flX1_26 : FLk RX1 26 1 4 := ⟨RX1, TX1, 5, rfl, by decide, rfl, tb_in (t1_in (List.mem_of_getElem? (i := 210) rfl)) rfl⟩
set_option maxRecDepth 20000 in
theorem plX1_26 (D : MD) (h : (mY D).cls = RX1) : PLk D 26 1 4 := ⟨RX1, TX1, 5, rfl, by decide, rfl, by rw [h]; exact tb_in (t1_in (List.mem_of_getElem? (i := 210) rfl)) rfl, Or.inl rfl⟩
set_option maxRecDepth 20000 in
theorem flX0_72 : FLk RX0 72 1 4 := ⟨RX1, TX1, 5, rfl, by decide, rfl, tb_in (t1_in (List.mem_of_getElem? (i := 211) rfl)) rfl⟩
set_option maxRecDepth 20000 in
theorem plX0_72 (D : MD) (h : (mY D).cls = RX0) : PLk D 72 1 4 := ⟨RX1, TX1, 5, rfl, by decide, rfl, by rw [h]; exact tb_in (t1_in (List.mem_of_getElem? (i := 211) rfl)) rfl, Or.inl rfl⟩
set_option maxRecDepth 20000 in
theorem flX9_101 : FLk RX9 101 1 4 := ⟨RX1, TX1, 5, rfl, by decide, rfl, tb_in (t1_in (List.mem_of_getElem? (i := 212) rfl)) rfl⟩
set_option maxRecDepth 20000 in
theorem plX9_101 (D : MD) (h : (mY D).cls = RX9) : PLk D 101 1 4 := ⟨RX1, TX1, 5, rfl, by decide, rfl, by rw [h]; exact tb_in (t1_in (List.mem_of_getElem? (i := 212) rfl)) rfl, Or.inl rfl⟩
set_option maxRecDepth 20000 in
theorem flX11_334 : FLk RX11 334 1 4 := ⟨RX1, TX1, 5, rfl, by decide, rfl, tb_in (t1_in (List.mem_of_getElem? (i := 213) rfl)) rfl⟩
set_option maxRecDepth 20000 in
theorem plX11_334 (D : MD) (h : (mY D).cls = RX11) : PLk D 334 1 4 := ⟨RX1, TX1, 5, rfl, by decide, rfl, by rw [h]; exact tb_in (t1_in (List.mem_of_getElem? (i := 213) rfl)) rfl, Or.inl rfl⟩
set_option maxRecDepth 20000 in
theorem flX9_9 : FLk RX9 9 9 0 := ⟨RX9, TX9, 4, rfl, by decide, rfl, tb_in (t1_in (List.mem_of_getElem? (i := 231) rfl)) rfl⟩
set_option maxRecDepth 20000 in
theorem plX9_9 (D : MD) (h : (mY D).cls = RX9) (h2 : (mY D).name = "<init>") : PLk D 9 9 0 := ⟨RX9, TX9, 4, rfl, by decide, rfl, by rw [h]; exact tb_in (t1_in (List.mem_of_getElem? (i := 231) rfl)) rfl, Or.inr ⟨rfl, h2, h.symm⟩⟩
set_option maxRecDepth 20000 in
theorem flX9_15 : FLk RX9 15 9 1 := ⟨RX9, TX9, 4, rfl, by decide, rfl, tb_in (t1_in (List.mem_of_getElem? (i := 232) rfl)) rfl⟩
set_option maxRecDepth 20000 in
theorem plX9_15 (D : MD) (h : (mY D).cls = RX9) (h2 : (mY D).name = "<init>") : PLk D 15 9 1 := ⟨RX9, TX9, 4, rfl, by decide, rfl, by rw [h]; exact tb_in (t1_in (List.mem_of_getElem? (i := 232) rfl)) rfl, Or.inr ⟨rfl, h2, h.symm⟩⟩
set_option maxRecDepth 20000 in
theorem flX9_19 : FLk RX9 19 9 2 := ⟨RX9, TX9, 4, rfl, by decide, rfl, tb_in (t1_in (List.mem_of_getElem? (i := 233) rfl)) rfl⟩
set_option maxRecDepth 20000 in
theorem plX9_19 (D : MD) (h : (mY D).cls = RX9) (h2 : (mY D).name = "<init>") : PLk D 19 9 2 := ⟨RX9, TX9, 4, rfl, by decide, rfl, by rw [h]; exact tb_in (t1_in (List.mem_of_getElem? (i := 233) rfl)) rfl, Or.inr ⟨rfl, h2, h.symm⟩⟩
set_option maxRecDepth 20000 in
theorem flX9_23 : FLk RX9 23 9 3 := ⟨RX9, TX9, 4, rfl, by decide, rfl, tb_in (t1_in (List.mem_of_getElem? (i := 234) rfl)) rfl⟩
set_option maxRecDepth 20000 in
theorem plX9_23 (D : MD) (h : (mY D).cls = RX9) (h2 : (mY D).name = "<init>") : PLk D 23 9 3 := ⟨RX9, TX9, 4, rfl, by decide, rfl, by rw [h]; exact tb_in (t1_in (List.mem_of_getElem? (i := 234) rfl)) rfl, Or.inr ⟨rfl, h2, h.symm⟩⟩
set_option maxRecDepth 20000 in
theorem flX10_9 : FLk RX10 9 10 0 := ⟨RX10, TX10, 8, rfl, by decide, rfl, tb_in (t2_in (List.mem_of_getElem? (i := 10) rfl)) rfl⟩
set_option maxRecDepth 20000 in
theorem plX10_9 (D : MD) (h : (mY D).cls = RX10) (h2 : (mY D).name = "<init>") : PLk D 9 10 0 := ⟨RX10, TX10, 8, rfl, by decide, rfl, by rw [h]; exact tb_in (t2_in (List.mem_of_getElem? (i := 10) rfl)) rfl, Or.inr ⟨rfl, h2, h.symm⟩⟩
set_option maxRecDepth 20000 in
theorem flX10_15 : FLk RX10 15 10 1 := ⟨RX10, TX10, 8, rfl, by decide, rfl, tb_in (t2_in (List.mem_of_getElem? (i := 11) rfl)) rfl⟩
set_option maxRecDepth 20000 in
theorem plX10_15 (D : MD) (h : (mY D).cls = RX10) (h2 : (mY D).name = "<init>") : PLk D 15 10 1 := ⟨RX10, TX10, 8, rfl, by decide, rfl, by rw [h]; exact tb_in (t2_in (List.mem_of_getElem? (i := 11) rfl)) rfl, Or.inr ⟨rfl, h2, h.symm⟩⟩
set_option maxRecDepth 20000 in
theorem flX10_19 : FLk RX10 19 10 2 := ⟨RX10, TX10, 8, rfl, by decide, rfl, tb_in (t2_in (List.mem_of_getElem? (i := 12) rfl)) rfl⟩
set_option maxRecDepth 20000 in
theorem plX10_19 (D : MD) (h : (mY D).cls = RX10) (h2 : (mY D).name = "<init>") : PLk D 19 10 2 := ⟨RX10, TX10, 8, rfl, by decide, rfl, by rw [h]; exact tb_in (t2_in (List.mem_of_getElem? (i := 12) rfl)) rfl, Or.inr ⟨rfl, h2, h.symm⟩⟩
set_option maxRecDepth 20000 in
theorem flX10_23 : FLk RX10 23 10 3 := ⟨RX10, TX10, 8, rfl, by decide, rfl, tb_in (t2_in (List.mem_of_getElem? (i := 13) rfl)) rfl⟩
set_option maxRecDepth 20000 in
theorem plX10_23 (D : MD) (h : (mY D).cls = RX10) (h2 : (mY D).name = "<init>") : PLk D 23 10 3 := ⟨RX10, TX10, 8, rfl, by decide, rfl, by rw [h]; exact tb_in (t2_in (List.mem_of_getElem? (i := 13) rfl)) rfl, Or.inr ⟨rfl, h2, h.symm⟩⟩
set_option maxRecDepth 20000 in
theorem flX10_27 : FLk RX10 27 10 4 := ⟨RX10, TX10, 8, rfl, by decide, rfl, tb_in (t2_in (List.mem_of_getElem? (i := 14) rfl)) rfl⟩
set_option maxRecDepth 20000 in
theorem plX10_27 (D : MD) (h : (mY D).cls = RX10) (h2 : (mY D).name = "<init>") : PLk D 27 10 4 := ⟨RX10, TX10, 8, rfl, by decide, rfl, by rw [h]; exact tb_in (t2_in (List.mem_of_getElem? (i := 14) rfl)) rfl, Or.inr ⟨rfl, h2, h.symm⟩⟩
set_option maxRecDepth 20000 in
theorem flX10_30 : FLk RX10 30 10 5 := ⟨RX10, TX10, 8, rfl, by decide, rfl, tb_in (t2_in (List.mem_of_getElem? (i := 15) rfl)) rfl⟩
set_option maxRecDepth 20000 in
theorem plX10_30 (D : MD) (h : (mY D).cls = RX10) (h2 : (mY D).name = "<init>") : PLk D 30 10 5 := ⟨RX10, TX10, 8, rfl, by decide, rfl, by rw [h]; exact tb_in (t2_in (List.mem_of_getElem? (i := 15) rfl)) rfl, Or.inr ⟨rfl, h2, h.symm⟩⟩
set_option maxRecDepth 20000 in
theorem flX11_262 : FLk RX11 262 10 5 := ⟨RX10, TX10, 8, rfl, by decide, rfl, tb_in (t2_in (List.mem_of_getElem? (i := 16) rfl)) rfl⟩
set_option maxRecDepth 20000 in
theorem flX10_33 : FLk RX10 33 10 6 := ⟨RX10, TX10, 8, rfl, by decide, rfl, tb_in (t2_in (List.mem_of_getElem? (i := 17) rfl)) rfl⟩
set_option maxRecDepth 20000 in
theorem plX10_33 (D : MD) (h : (mY D).cls = RX10) (h2 : (mY D).name = "<init>") : PLk D 33 10 6 := ⟨RX10, TX10, 8, rfl, by decide, rfl, by rw [h]; exact tb_in (t2_in (List.mem_of_getElem? (i := 17) rfl)) rfl, Or.inr ⟨rfl, h2, h.symm⟩⟩
set_option maxRecDepth 20000 in
theorem flX7_106 : FLk RX7 106 10 6 := ⟨RX10, TX10, 8, rfl, by decide, rfl, tb_in (t2_in (List.mem_of_getElem? (i := 18) rfl)) rfl⟩
set_option maxRecDepth 20000 in
theorem flX11_244 : FLk RX11 244 10 6 := ⟨RX10, TX10, 8, rfl, by decide, rfl, tb_in (t2_in (List.mem_of_getElem? (i := 19) rfl)) rfl⟩
set_option maxRecDepth 20000 in
theorem flX10_79 : FLk RX10 79 10 7 := ⟨RX10, TX10, 8, rfl, by decide, rfl, tb_in (t2_in (List.mem_of_getElem? (i := 20) rfl)) rfl⟩
set_option maxRecDepth 20000 in
theorem plX10_79 (D : MD) (h : (mY D).cls = RX10) : PLk D 79 10 7 := ⟨RX10, TX10, 8, rfl, by decide, rfl, by rw [h]; exact tb_in (t2_in (List.mem_of_getElem? (i := 20) rfl)) rfl, Or.inl rfl⟩
set_option maxRecDepth 20000 in
theorem flX7_126 : FLk RX7 126 10 7 := ⟨RX10, TX10, 8, rfl, by decide, rfl, tb_in (t2_in (List.mem_of_getElem? (i := 21) rfl)) rfl⟩
set_option maxRecDepth 20000 in
theorem plX7_126 (D : MD) (h : (mY D).cls = RX7) : PLk D 126 10 7 := ⟨RX10, TX10, 8, rfl, by decide, rfl, by rw [h]; exact tb_in (t2_in (List.mem_of_getElem? (i := 21) rfl)) rfl, Or.inl rfl⟩
set_option maxRecDepth 20000 in
theorem flX11_248 : FLk RX11 248 10 7 := ⟨RX10, TX10, 8, rfl, by decide, rfl, tb_in (t2_in (List.mem_of_getElem? (i := 22) rfl)) rfl⟩
set_option maxRecDepth 20000 in
theorem plX11_248 (D : MD) (h : (mY D).cls = RX11) : PLk D 248 10 7 := ⟨RX10, TX10, 8, rfl, by decide, rfl, by rw [h]; exact tb_in (t2_in (List.mem_of_getElem? (i := 22) rfl)) rfl, Or.inl rfl⟩
set_option maxRecDepth 20000 in
theorem flX7_9 : FLk RX7 9 7 0 := ⟨RX7, TX7, 11, rfl, by decide, rfl, tb_in (t2_in (List.mem_of_getElem? (i := 47) rfl)) rfl⟩
set_option maxRecDepth 20000 in
theorem plX7_9 (D : MD) (h : (mY D).cls = RX7) (h2 : (mY D).name = "<init>") : PLk D 9 7 0 := ⟨RX7, TX7, 11, rfl, by decide, rfl, by rw [h]; exact tb_in (t2_in (List.mem_of_getElem? (i := 47) rfl)) rfl, Or.inr ⟨rfl, h2, h.symm⟩⟩
set_option maxRecDepth 20000 in
theorem flX7_15 : FLk RX7 15 7 1 := ⟨RX7, TX7, 11, rfl, by decide, rfl, tb_in (t2_in (List.mem_of_getElem? (i := 48) rfl)) rfl⟩
set_option maxRecDepth 20000 in
theorem plX7_15 (D : MD) (h : (mY D).cls = RX7) (h2 : (mY D).name = "<init>") : PLk D 15 7 1 := ⟨RX7, TX7, 11, rfl, by decide, rfl, by rw [h]; exact tb_in (t2_in (List.mem_of_getElem? (i := 48) rfl)) rfl, Or.inr ⟨rfl, h2, h.symm⟩⟩
set_option maxRecDepth 20000 in
theorem flX7_19 : FLk RX7 19 7 2 := ⟨RX7, TX7, 11, rfl, by decide, rfl, tb_in (t2_in (List.mem_of_getElem? (i := 49) rfl)) rfl⟩
set_option maxRecDepth 20000 in
theorem plX7_19 (D : MD) (h : (mY D).cls = RX7) (h2 : (mY D).name = "<init>") : PLk D 19 7 2 := ⟨RX7, TX7, 11, rfl, by decide, rfl, by rw [h]; exact tb_in (t2_in (List.mem_of_getElem? (i := 49) rfl)) rfl, Or.inr ⟨rfl, h2, h.symm⟩⟩
set_option maxRecDepth 20000 in
theorem flX7_23 : FLk RX7 23 7 3 := ⟨RX7, TX7, 11, rfl, by decide, rfl, tb_in (t2_in (List.mem_of_getElem? (i := 50) rfl)) rfl⟩
set_option maxRecDepth 20000 in
theorem plX7_23 (D : MD) (h : (mY D).cls = RX7) (h2 : (mY D).name = "<init>") : PLk D 23 7 3 := ⟨RX7, TX7, 11, rfl, by decide, rfl, by rw [h]; exact tb_in (t2_in (List.mem_of_getElem? (i := 50) rfl)) rfl, Or.inr ⟨rfl, h2, h.symm⟩⟩
set_option maxRecDepth 20000 in
theorem flX7_27 : FLk RX7 27 7 4 := ⟨RX7, TX7, 11, rfl, by decide, rfl, tb_in (t2_in (List.mem_of_getElem? (i := 51) rfl)) rfl⟩
set_option maxRecDepth 20000 in
theorem plX7_27 (D : MD) (h : (mY D).cls = RX7) (h2 : (mY D).name = "<init>") : PLk D 27 7 4 := ⟨RX7, TX7, 11, rfl, by decide, rfl, by rw [h]; exact tb_in (t2_in (List.mem_of_getElem? (i := 51) rfl)) rfl, Or.inr ⟨rfl, h2, h.symm⟩⟩
set_option maxRecDepth 20000 in
theorem flX7_31 : FLk RX7 31 7 5 := ⟨RX7, TX7, 11, rfl, by decide, rfl, tb_in (t2_in (List.mem_of_getElem? (i := 52) rfl)) rfl⟩
set_option maxRecDepth 20000 in
theorem plX7_31 (D : MD) (h : (mY D).cls = RX7) (h2 : (mY D).name = "<init>") : PLk D 31 7 5 := ⟨RX7, TX7, 11, rfl, by decide, rfl, by rw [h]; exact tb_in (t2_in (List.mem_of_getElem? (i := 52) rfl)) rfl, Or.inr ⟨rfl, h2, h.symm⟩⟩
set_option maxRecDepth 20000 in
theorem flX7_34 : FLk RX7 34 7 6 := ⟨RX7, TX7, 11, rfl, by decide, rfl, tb_in (t2_in (List.mem_of_getElem? (i := 53) rfl)) rfl⟩
set_option maxRecDepth 20000 in
theorem plX7_34 (D : MD) (h : (mY D).cls = RX7) (h2 : (mY D).name = "<init>") : PLk D 34 7 6 := ⟨RX7, TX7, 11, rfl, by decide, rfl, by rw [h]; exact tb_in (t2_in (List.mem_of_getElem? (i := 53) rfl)) rfl, Or.inr ⟨rfl, h2, h.symm⟩⟩
set_option maxRecDepth 20000 in
theorem flX7_37 : FLk RX7 37 7 7 := ⟨RX7, TX7, 11, rfl, by decide, rfl, tb_in (t2_in (List.mem_of_getElem? (i := 54) rfl)) rfl⟩
set_option maxRecDepth 20000 in
theorem plX7_37 (D : MD) (h : (mY D).cls = RX7) (h2 : (mY D).name = "<init>") : PLk D 37 7 7 := ⟨RX7, TX7, 11, rfl, by decide, rfl, by rw [h]; exact tb_in (t2_in (List.mem_of_getElem? (i := 54) rfl)) rfl, Or.inr ⟨rfl, h2, h.symm⟩⟩
set_option maxRecDepth 20000 in
theorem flX7_40 : FLk RX7 40 7 8 := ⟨RX7, TX7, 11, rfl, by decide, rfl, tb_in (t2_in (List.mem_of_getElem? (i := 55) rfl)) rfl⟩
set_option maxRecDepth 20000 in
theorem plX7_40 (D : MD) (h : (mY D).cls = RX7) (h2 : (mY D).name = "<init>") : PLk D 40 7 8 := ⟨RX7, TX7, 11, rfl, by decide, rfl, by rw [h]; exact tb_in (t2_in (List.mem_of_getElem? (i := 55) rfl)) rfl, Or.inr ⟨rfl, h2, h.symm⟩⟩
set_option maxRecDepth 20000 in
theorem flX11_296 : FLk RX11 296 7 8 := ⟨RX7, TX7, 11, rfl, by decide, rfl, tb_in (t2_in (List.mem_of_getElem? (i := 56) rfl)) rfl⟩
set_option maxRecDepth 20000 in
theorem flX7_93 : FLk RX7 93 7 9 := ⟨RX7, TX7, 11, rfl, by decide, rfl, tb_in (t2_in (List.mem_of_getElem? (i := 57) rfl)) rfl⟩
set_option maxRecDepth 20000 in
theorem plX7_93 (D : MD) (h : (mY D).cls = RX7) : PLk D 93 7 9 := ⟨RX7, TX7, 11, rfl, by decide, rfl, by rw [h]; exact tb_in (t2_in (List.mem_of_getElem? (i := 57) rfl)) rfl, Or.inl rfl⟩
set_option maxRecDepth 20000 in
theorem flX11_293 : FLk RX11 293 7 9 := ⟨RX7, TX7, 11, rfl, by decide, rfl, tb_in (t2_in (List.mem_of_getElem? (i := 58) rfl)) rfl⟩
set_option maxRecDepth 20000 in
theorem plX11_293 (D : MD) (h : (mY D).cls = RX11) : PLk D 293 7 9 := ⟨RX7, TX7, 11, rfl, by decide, rfl, by rw [h]; exact tb_in (t2_in (List.mem_of_getElem? (i := 58) rfl)) rfl, Or.inl rfl⟩
set_option maxRecDepth 20000 in
theorem flX7_98 : FLk RX7 98 7 10 := ⟨RX7, TX7, 11, rfl, by decide, rfl, tb_in (t2_in (List.mem_of_getElem? (i := 59) rfl)) rfl⟩
set_option maxRecDepth 20000 in
theorem plX7_98 (D : MD) (h : (mY D).cls = RX7) : PLk D 98 7 10 := ⟨RX7, TX7, 11, rfl, by decide, rfl, by rw [h]; exact tb_in (t2_in (List.mem_of_getElem? (i := 59) rfl)) rfl, Or.inl rfl⟩
set_option maxRecDepth 20000 in
theorem flX11_290 : FLk RX11 290 7 10 := ⟨RX7, TX7, 11, rfl, by decide, rfl, tb_in (t2_in (List.mem_of_getElem? (i := 60) rfl)) rfl⟩
set_option maxRecDepth 20000 in
theorem plX11_290 (D : MD) (h : (mY D).cls = RX11) : PLk D 290 7 10 := ⟨RX7, TX7, 11, rfl, by decide, rfl, by rw [h]; exact tb_in (t2_in (List.mem_of_getElem? (i := 60) rfl)) rfl, Or.inl rfl⟩
set_option maxRecDepth 20000 in
theorem flX0_9 : FLk RX0 9 0 0 := ⟨RX0, TX0, 5, rfl, by decide, rfl, tb_in (t2_in (List.mem_of_getElem? (i := 90) rfl)) rfl⟩
set_option maxRecDepth 20000 in
theorem plX0_9 (D : MD) (h : (mY D).cls = RX0) (h2 : (mY D).name = "<init>") : PLk D 9 0 0 := ⟨RX0, TX0, 5, rfl, by decide, rfl, by rw [h]; exact tb_in (t2_in (List.mem_of_getElem? (i := 90) rfl)) rfl, Or.inr ⟨rfl, h2, h.symm⟩⟩
set_option maxRecDepth 20000 in
theorem flX0_15 : FLk RX0 15 0 1 := ⟨RX0, TX0, 5, rfl, by decide, rfl, tb_in (t2_in (List.mem_of_getElem? (i := 91) rfl)) rfl⟩
set_option maxRecDepth 20000 in
theorem plX0_15 (D : MD) (h : (mY D).cls = RX0) (h2 : (mY D).name = "<init>") : PLk D 15 0 1 := ⟨RX0, TX0, 5, rfl, by decide, rfl, by rw [h]; exact tb_in (t2_in (List.mem_of_getElem? (i := 91) rfl)) rfl, Or.inr ⟨rfl, h2, h.symm⟩⟩
set_option maxRecDepth 20000 in
theorem flX0_19 : FLk RX0 19 0 2 := ⟨RX0, TX0, 5, rfl, by decide, rfl, tb_in (t2_in (List.mem_of_getElem? (i := 92) rfl)) rfl⟩
set_option maxRecDepth 20000 in
theorem plX0_19 (D : MD) (h : (mY D).cls = RX0) (h2 : (mY D).name = "<init>") : PLk D 19 0 2 := ⟨RX0, TX0, 5, rfl, by decide, rfl, by rw [h]; exact tb_in (t2_in (List.mem_of_getElem? (i := 92) rfl)) rfl, Or.inr ⟨rfl, h2, h.symm⟩⟩
set_option maxRecDepth 20000 in
theorem flX0_23 : FLk RX0 23 0 3 := ⟨RX0, TX0, 5, rfl, by decide, rfl, tb_in (t2_in (List.mem_of_getElem? (i := 93) rfl)) rfl⟩
set_option maxRecDepth 20000 in
theorem plX0_23 (D : MD) (h : (mY D).cls = RX0) (h2 : (mY D).name = "<init>") : PLk D 23 0 3 := ⟨RX0, TX0, 5, rfl, by decide, rfl, by rw [h]; exact tb_in (t2_in (List.mem_of_getElem? (i := 93) rfl)) rfl, Or.inr ⟨rfl, h2, h.symm⟩⟩
set_option maxRecDepth 20000 in
theorem flX0_26 : FLk RX0 26 0 4 := ⟨RX0, TX0, 5, rfl, by decide, rfl, tb_in (t2_in (List.mem_of_getElem? (i := 94) rfl)) rfl⟩
set_option maxRecDepth 20000 in
theorem plX0_26 (D : MD) (h : (mY D).cls = RX0) (h2 : (mY D).name = "<init>") : PLk D 26 0 4 := ⟨RX0, TX0, 5, rfl, by decide, rfl, by rw [h]; exact tb_in (t2_in (List.mem_of_getElem? (i := 94) rfl)) rfl, Or.inr ⟨rfl, h2, h.symm⟩⟩
set_option maxRecDepth 20000 in
theorem flX11_331 : FLk RX11 331 0 4 := ⟨RX0, TX0, 5, rfl, by decide, rfl, tb_in (t2_in (List.mem_of_getElem? (i := 95) rfl)) rfl⟩
set_option maxRecDepth 20000 in
theorem flX3_9 : FLk RX3 9 3 0 := ⟨RX3, TX3, 6, rfl, by decide, rfl, tb_in (t2_in (List.mem_of_getElem? (i := 113) rfl)) rfl⟩
set_option maxRecDepth 20000 in
theorem plX3_9 (D : MD) (h : (mY D).cls = RX3) (h2 : (mY D).name = "<init>") : PLk D 9 3 0 := ⟨RX3, TX3, 6, rfl, by decide, rfl, by rw [h]; exact tb_in (t2_in (List.mem_of_getElem? (i := 113) rfl)) rfl, Or.inr ⟨rfl, h2, h.symm⟩⟩
set_option maxRecDepth 20000 in
theorem flX3_15 : FLk RX3 15 3 1 := ⟨RX3, TX3, 6, rfl, by decide, rfl, tb_in (t2_in (List.mem_of_getElem? (i := 114) rfl)) rfl⟩
set_option maxRecDepth 20000 in
theorem plX3_15 (D : MD) (h : (mY D).cls = RX3) (h2 : (mY D).name = "<init>") : PLk D 15 3 1 := ⟨RX3, TX3, 6, rfl, by decide, rfl, by rw [h]; exact tb_in (t2_in (List.mem_of_getElem? (i := 114) rfl)) rfl, Or.inr ⟨rfl, h2, h.symm⟩⟩
set_option maxRecDepth 20000 in
theorem flX3_19 : FLk RX3 19 3 2 := ⟨RX3, TX3, 6, rfl, by decide, rfl, tb_in (t2_in (List.mem_of_getElem? (i := 115) rfl)) rfl⟩
set_option maxRecDepth 20000 in
theorem plX3_19 (D : MD) (h : (mY D).cls = RX3) (h2 : (mY D).name = "<init>") : PLk D 19 3 2 := ⟨RX3, TX3, 6, rfl, by decide, rfl, by rw [h]; exact tb_in (t2_in (List.mem_of_getElem? (i := 115) rfl)) rfl, Or.inr ⟨rfl, h2, h.symm⟩⟩
set_option maxRecDepth 20000 in
theorem flX3_22 : FLk RX3 22 3 3 := ⟨RX3, TX3, 6, rfl, by decide, rfl, tb_in (t2_in (List.mem_of_getElem? (i := 116) rfl)) rfl⟩
set_option maxRecDepth 20000 in
theorem plX3_22 (D : MD) (h : (mY D).cls = RX3) (h2 : (mY D).name = "<init>") : PLk D 22 3 3 := ⟨RX3, TX3, 6, rfl, by decide, rfl, by rw [h]; exact tb_in (t2_in (List.mem_of_getElem? (i := 116) rfl)) rfl, Or.inr ⟨rfl, h2, h.symm⟩⟩
set_option maxRecDepth 20000 in
theorem flX3_41 : FLk RX3 41 3 4 := ⟨RX3, TX3, 6, rfl, by decide, rfl, tb_in (t2_in (List.mem_of_getElem? (i := 117) rfl)) rfl⟩
set_option maxRecDepth 20000 in
theorem plX3_41 (D : MD) (h : (mY D).cls = RX3) : PLk D 41 3 4 := ⟨RX3, TX3, 6, rfl, by decide, rfl, by rw [h]; exact tb_in (t2_in (List.mem_of_getElem? (i := 117) rfl)) rfl, Or.inl rfl⟩
set_option maxRecDepth 20000 in
theorem flX3_86 : FLk RX3 86 3 5 := ⟨RX3, TX3, 6, rfl, by decide, rfl, tb_in (t2_in (List.mem_of_getElem? (i := 118) rfl)) rfl⟩
set_option maxRecDepth 20000 in
theorem plX3_86 (D : MD) (h : (mY D).cls = RX3) : PLk D 86 3 5 := ⟨RX3, TX3, 6, rfl, by decide, rfl, by rw [h]; exact tb_in (t2_in (List.mem_of_getElem? (i := 118) rfl)) rfl, Or.inl rfl⟩
set_option maxRecDepth 20000 in
theorem flX11_10 : FLk RX11 10 11 0 := ⟨RX11, TX11, 16, rfl, by decide, rfl, tb_in (t2_in (List.mem_of_getElem? (i := 132) rfl)) rfl⟩
set_option maxRecDepth 20000 in
theorem plX11_10 (D : MD) (h : (mY D).cls = RX11) (h2 : (mY D).name = "<init>") : PLk D 10 11 0 := ⟨RX11, TX11, 16, rfl, by decide, rfl, by rw [h]; exact tb_in (t2_in (List.mem_of_getElem? (i := 132) rfl)) rfl, Or.inr ⟨rfl, h2, h.symm⟩⟩
set_option maxRecDepth 20000 in
theorem flX11_16 : FLk RX11 16 11 1 := ⟨RX11, TX11, 16, rfl, by decide, rfl, tb_in (t2_in (List.mem_of_getElem? (i := 133) rfl)) rfl⟩
set_option maxRecDepth 20000 in
theorem plX11_16 (D : MD) (h : (mY D).cls = RX11) (h2 : (mY D).name = "<init>") : PLk D 16 11 1 := ⟨RX11, TX11, 16, rfl, by decide, rfl, by rw [h]; exact tb_in (t2_in (List.mem_of_getElem? (i := 133) rfl)) rfl, Or.inr ⟨rfl, h2, h.symm⟩⟩
set_option maxRecDepth 20000 in
theorem flX11_22 : FLk RX11 22 11 2 := ⟨RX11, TX11, 16, rfl, by decide, rfl, tb_in (t2_in (List.mem_of_getElem? (i := 134) rfl)) rfl⟩
set_option maxRecDepth 20000 in
theorem plX11_22 (D : MD) (h : (mY D).cls = RX11) (h2 : (mY D).name = "<init>") : PLk D 22 11 2 := ⟨RX11, TX11, 16, rfl, by decide, rfl, by rw [h]; exact tb_in (t2_in (List.mem_of_getElem? (i := 134) rfl)) rfl, Or.inr ⟨rfl, h2, h.symm⟩⟩
set_option maxRecDepth 20000 in
theorem flX11_26 : FLk RX11 26 11 3 := ⟨RX11, TX11, 16, rfl, by decide, rfl, tb_in (t2_in (List.mem_of_getElem? (i := 135) rfl)) rfl⟩
set_option maxRecDepth 20000 in
theorem plX11_26 (D : MD) (h : (mY D).cls = RX11) (h2 : (mY D).name = "<init>") : PLk D 26 11 3 := ⟨RX11, TX11, 16, rfl, by decide, rfl, by rw [h]; exact tb_in (t2_in (List.mem_of_getElem? (i := 135) rfl)) rfl, Or.inr ⟨rfl, h2, h.symm⟩⟩
set_option maxRecDepth 20000 in
theorem flX11_29 : FLk RX11 29 11 4 := ⟨RX11, TX11, 16, rfl, by decide, rfl, tb_in (t2_in (List.mem_of_getElem? (i := 136) rfl)) rfl⟩
set_option maxRecDepth 20000 in
theorem plX11_29 (D : MD) (h : (mY D).cls = RX11) (h2 : (mY D).name = "<init>") : PLk D 29 11 4 := ⟨RX11, TX11, 16, rfl, by decide, rfl, by rw [h]; exact tb_in (t2_in (List.mem_of_getElem? (i := 136) rfl)) rfl, Or.inr ⟨rfl, h2, h.symm⟩⟩
set_option maxRecDepth 20000 in
theorem flX11_38 : FLk RX11 38 11 5 := ⟨RX11, TX11, 16, rfl, by decide, rfl, tb_in (t2_in (List.mem_of_getElem? (i := 137) rfl)) rfl⟩
set_option maxRecDepth 20000 in
theorem plX11_38 (D : MD) (h : (mY D).cls = RX11) (h2 : (mY D).name = "<init>") : PLk D 38 11 5 := ⟨RX11, TX11, 16, rfl, by decide, rfl, by rw [h]; exact tb_in (t2_in (List.mem_of_getElem? (i := 137) rfl)) rfl, Or.inr ⟨rfl, h2, h.symm⟩⟩
set_option maxRecDepth 20000 in
theorem flX11_47 : FLk RX11 47 11 6 := ⟨RX11, TX11, 16, rfl, by decide, rfl, tb_in (t2_in (List.mem_of_getElem? (i := 138) rfl)) rfl⟩
set_option maxRecDepth 20000 in
theorem plX11_47 (D : MD) (h : (mY D).cls = RX11) (h2 : (mY D).name = "<init>") : PLk D 47 11 6 := ⟨RX11, TX11, 16, rfl, by decide, rfl, by rw [h]; exact tb_in (t2_in (List.mem_of_getElem? (i := 138) rfl)) rfl, Or.inr ⟨rfl, h2, h.symm⟩⟩
set_option maxRecDepth 20000 in
theorem flX11_56 : FLk RX11 56 11 7 := ⟨RX11, TX11, 16, rfl, by decide, rfl, tb_in (t2_in (List.mem_of_getElem? (i := 139) rfl)) rfl⟩
set_option maxRecDepth 20000 in
theorem plX11_56 (D : MD) (h : (mY D).cls = RX11) (h2 : (mY D).name = "<init>") : PLk D 56 11 7 := ⟨RX11, TX11, 16, rfl, by decide, rfl, by rw [h]; exact tb_in (t2_in (List.mem_of_getElem? (i := 139) rfl)) rfl, Or.inr ⟨rfl, h2, h.symm⟩⟩
set_option maxRecDepth 20000 in
theorem flX11_65 : FLk RX11 65 11 8 := ⟨RX11, TX11, 16, rfl, by decide, rfl, tb_in (t2_in (List.mem_of_getElem? (i := 140) rfl)) rfl⟩
set_option maxRecDepth 20000 in
theorem plX11_65 (D : MD) (h : (mY D).cls = RX11) (h2 : (mY D).name = "<init>") : PLk D 65 11 8 := ⟨RX11, TX11, 16, rfl, by decide, rfl, by rw [h]; exact tb_in (t2_in (List.mem_of_getElem? (i := 140) rfl)) rfl, Or.inr ⟨rfl, h2, h.symm⟩⟩
set_option maxRecDepth 20000 in
theorem flX11_74 : FLk RX11 74 11 9 := ⟨RX11, TX11, 16, rfl, by decide, rfl, tb_in (t2_in (List.mem_of_getElem? (i := 141) rfl)) rfl⟩
set_option maxRecDepth 20000 in
theorem plX11_74 (D : MD) (h : (mY D).cls = RX11) (h2 : (mY D).name = "<init>") : PLk D 74 11 9 := ⟨RX11, TX11, 16, rfl, by decide, rfl, by rw [h]; exact tb_in (t2_in (List.mem_of_getElem? (i := 141) rfl)) rfl, Or.inr ⟨rfl, h2, h.symm⟩⟩
set_option maxRecDepth 20000 in
theorem flX11_83 : FLk RX11 83 11 10 := ⟨RX11, TX11, 16, rfl, by decide, rfl, tb_in (t2_in (List.mem_of_getElem? (i := 142) rfl)) rfl⟩
set_option maxRecDepth 20000 in
theorem plX11_83 (D : MD) (h : (mY D).cls = RX11) (h2 : (mY D).name = "<init>") : PLk D 83 11 10 := ⟨RX11, TX11, 16, rfl, by decide, rfl, by rw [h]; exact tb_in (t2_in (List.mem_of_getElem? (i := 142) rfl)) rfl, Or.inr ⟨rfl, h2, h.symm⟩⟩
set_option maxRecDepth 20000 in
theorem flX11_92 : FLk RX11 92 11 11 := ⟨RX11, TX11, 16, rfl, by decide, rfl, tb_in (t2_in (List.mem_of_getElem? (i := 143) rfl)) rfl⟩
set_option maxRecDepth 20000 in
theorem plX11_92 (D : MD) (h : (mY D).cls = RX11) (h2 : (mY D).name = "<init>") : PLk D 92 11 11 := ⟨RX11, TX11, 16, rfl, by decide, rfl, by rw [h]; exact tb_in (t2_in (List.mem_of_getElem? (i := 143) rfl)) rfl, Or.inr ⟨rfl, h2, h.symm⟩⟩
set_option maxRecDepth 20000 in
theorem flX11_99 : FLk RX11 99 11 12 := ⟨RX11, TX11, 16, rfl, by decide, rfl, tb_in (t2_in (List.mem_of_getElem? (i := 144) rfl)) rfl⟩
set_option maxRecDepth 20000 in
theorem plX11_99 (D : MD) (h : (mY D).cls = RX11) (h2 : (mY D).name = "<init>") : PLk D 99 11 12 := ⟨RX11, TX11, 16, rfl, by decide, rfl, by rw [h]; exact tb_in (t2_in (List.mem_of_getElem? (i := 144) rfl)) rfl, Or.inr ⟨rfl, h2, h.symm⟩⟩
set_option maxRecDepth 20000 in
theorem flX11_103 : FLk RX11 103 11 13 := ⟨RX11, TX11, 16, rfl, by decide, rfl, tb_in (t2_in (List.mem_of_getElem? (i := 145) rfl)) rfl⟩
set_option maxRecDepth 20000 in
theorem plX11_103 (D : MD) (h : (mY D).cls = RX11) : PLk D 103 11 13 := ⟨RX11, TX11, 16, rfl, by decide, rfl, by rw [h]; exact tb_in (t2_in (List.mem_of_getElem? (i := 145) rfl)) rfl, Or.inl rfl⟩
set_option maxRecDepth 20000 in
theorem flX11_107 : FLk RX11 107 11 14 := ⟨RX11, TX11, 16, rfl, by decide, rfl, tb_in (t2_in (List.mem_of_getElem? (i := 146) rfl)) rfl⟩
set_option maxRecDepth 20000 in
theorem plX11_107 (D : MD) (h : (mY D).cls = RX11) : PLk D 107 11 14 := ⟨RX11, TX11, 16, rfl, by decide, rfl, by rw [h]; exact tb_in (t2_in (List.mem_of_getElem? (i := 146) rfl)) rfl, Or.inl rfl⟩
set_option maxRecDepth 20000 in
theorem flX11_110 : FLk RX11 110 11 15 := ⟨RX11, TX11, 16, rfl, by decide, rfl, tb_in (t2_in (List.mem_of_getElem? (i := 147) rfl)) rfl⟩
set_option maxRecDepth 20000 in
theorem plX11_110 (D : MD) (h : (mY D).cls = RX11) : PLk D 110 11 15 := ⟨RX11, TX11, 16, rfl, by decide, rfl, by rw [h]; exact tb_in (t2_in (List.mem_of_getElem? (i := 147) rfl)) rfl, Or.inl rfl⟩
set_option maxRecDepth 20000 in
theorem flX5_9 : FLk RX5 9 5 0 := ⟨RX5, TX5, 4, rfl, by decide, rfl, tb_in (t3_in (List.mem_of_getElem? (i := 210) rfl)) rfl⟩
set_option maxRecDepth 20000 in
theorem plX5_9 (D : MD) (h : (mY D).cls = RX5) (h2 : (mY D).name = "<init>") : PLk D 9 5 0 := ⟨RX5, TX5, 4, rfl, by decide, rfl, by rw [h]; exact tb_in (t3_in (List.mem_of_getElem? (i := 210) rfl)) rfl, Or.inr ⟨rfl, h2, h.symm⟩⟩
set_option maxRecDepth 20000 in
theorem flX5_15 : FLk RX5 15 5 1 := ⟨RX5, TX5, 4, rfl, by decide, rfl, tb_in (t3_in (List.mem_of_getElem? (i := 211) rfl)) rfl⟩
set_option maxRecDepth 20000 in
theorem plX5_15 (D : MD) (h : (mY D).cls = RX5) (h2 : (mY D).name = "<init>") : PLk D 15 5 1 := ⟨RX5, TX5, 4, rfl, by decide, rfl, by rw [h]; exact tb_in (t3_in (List.mem_of_getElem? (i := 211) rfl)) rfl, Or.inr ⟨rfl, h2, h.symm⟩⟩
set_option maxRecDepth 20000 in
theorem flX5_18 : FLk RX5 18 5 2 := ⟨RX5, TX5, 4, rfl, by decide, rfl, tb_in (t3_in (List.mem_of_getElem? (i := 212) rfl)) rfl⟩
set_option maxRecDepth 20000 in
theorem plX5_18 (D : MD) (h : (mY D).cls = RX5) (h2 : (mY D).name = "<init>") : PLk D 18 5 2 := ⟨RX5, TX5, 4, rfl, by decide, rfl, by rw [h]; exact tb_in (t3_in (List.mem_of_getElem? (i := 212) rfl)) rfl, Or.inr ⟨rfl, h2, h.symm⟩⟩
set_option maxRecDepth 20000 in
theorem flX9_134 : FLk RX9 134 5 2 := ⟨RX5, TX5, 4, rfl, by decide, rfl, tb_in (t3_in (List.mem_of_getElem? (i := 213) rfl)) rfl⟩
set_option maxRecDepth 20000 in
theorem flX5_21 : FLk RX5 21 5 3 := ⟨RX5, TX5, 4, rfl, by decide, rfl, tb_in (t3_in (List.mem_of_getElem? (i := 214) rfl)) rfl⟩
set_option maxRecDepth 20000 in
theorem plX5_21 (D : MD) (h : (mY D).cls = RX5) (h2 : (mY D).name = "<init>") : PLk D 21 5 3 := ⟨RX5, TX5, 4, rfl, by decide, rfl, by rw [h]; exact tb_in (t3_in (List.mem_of_getElem? (i := 214) rfl)) rfl, Or.inr ⟨rfl, h2, h.symm⟩⟩
set_option maxRecDepth 20000 in
theorem flX9_129 : FLk RX9 129 5 3 := ⟨RX5, TX5, 4, rfl, by decide, rfl, tb_in (t3_in (List.mem_of_getElem? (i := 215) rfl)) rfl⟩
set_option maxRecDepth 20000 in
theorem flX12_7 : FLk RX12 7 12 0 := ⟨RX12, TX12, 47, rfl, by decide, rfl, tb_in (t6_in (List.mem_of_getElem? (i := 81) rfl)) rfl⟩
set_option maxRecDepth 20000 in
theorem plX12_7 (D : MD) (h : (mY D).cls = RX12) (h2 : (mY D).name = "<init>") : PLk D 7 12 0 := ⟨RX12, TX12, 47, rfl, by decide, rfl, by rw [h]; exact tb_in (t6_in (List.mem_of_getElem? (i := 81) rfl)) rfl, Or.inr ⟨rfl, h2, h.symm⟩⟩
set_option maxRecDepth 20000 in
theorem flX12_13 : FLk RX12 13 12 1 := ⟨RX12, TX12, 47, rfl, by decide, rfl, tb_in (t6_in (List.mem_of_getElem? (i := 82) rfl)) rfl⟩
set_option maxRecDepth 20000 in
theorem plX12_13 (D : MD) (h : (mY D).cls = RX12) (h2 : (mY D).name = "<init>") : PLk D 13 12 1 := ⟨RX12, TX12, 47, rfl, by decide, rfl, by rw [h]; exact tb_in (t6_in (List.mem_of_getElem? (i := 82) rfl)) rfl, Or.inr ⟨rfl, h2, h.symm⟩⟩
set_option maxRecDepth 20000 in
theorem flX12_16 : FLk RX12 16 12 2 := ⟨RX12, TX12, 47, rfl, by decide, rfl, tb_in (t6_in (List.mem_of_getElem? (i := 83) rfl)) rfl⟩
set_option maxRecDepth 20000 in
theorem plX12_16 (D : MD) (h : (mY D).cls = RX12) (h2 : (mY D).name = "<init>") : PLk D 16 12 2 := ⟨RX12, TX12, 47, rfl, by decide, rfl, by rw [h]; exact tb_in (t6_in (List.mem_of_getElem? (i := 83) rfl)) rfl, Or.inr ⟨rfl, h2, h.symm⟩⟩
set_option maxRecDepth 20000 in
theorem flX12_19 : FLk RX12 19 12 3 := ⟨RX12, TX12, 47, rfl, by decide, rfl, tb_in (t6_in (List.mem_of_getElem? (i := 84) rfl)) rfl⟩
set_option maxRecDepth 20000 in
theorem plX12_19 (D : MD) (h : (mY D).cls = RX12) (h2 : (mY D).name = "<init>") : PLk D 19 12 3 := ⟨RX12, TX12, 47, rfl, by decide, rfl, by rw [h]; exact tb_in (t6_in (List.mem_of_getElem? (i := 84) rfl)) rfl, Or.inr ⟨rfl, h2, h.symm⟩⟩
set_option maxRecDepth 20000 in
theorem flX12_97 : FLk RX12 97 12 4 := ⟨RX12, TX12, 47, rfl, by decide, rfl, tb_in (t6_in (List.mem_of_getElem? (i := 85) rfl)) rfl⟩
set_option maxRecDepth 20000 in
theorem plX12_97 (D : MD) (h : (mY D).cls = RX12) : PLk D 97 12 4 := ⟨RX12, TX12, 47, rfl, by decide, rfl, by rw [h]; exact tb_in (t6_in (List.mem_of_getElem? (i := 85) rfl)) rfl, Or.inl rfl⟩
set_option maxRecDepth 20000 in
theorem flX12_22 : FLk RX12 22 12 5 := ⟨RX12, TX12, 47, rfl, by decide, rfl, tb_in (t6_in (List.mem_of_getElem? (i := 86) rfl)) rfl⟩
set_option maxRecDepth 20000 in
theorem plX12_22 (D : MD) (h : (mY D).cls = RX12) (h2 : (mY D).name = "<init>") : PLk D 22 12 5 := ⟨RX12, TX12, 47, rfl, by decide, rfl, by rw [h]; exact tb_in (t6_in (List.mem_of_getElem? (i := 86) rfl)) rfl, Or.inr ⟨rfl, h2, h.symm⟩⟩
set_option maxRecDepth 20000 in
theorem flX12_112 : FLk RX12 112 12 6 := ⟨RX12, TX12, 47, rfl, by decide, rfl, tb_in (t6_in (List.mem_of_getElem? (i := 87) rfl)) rfl⟩
set_option maxRecDepth 20000 in
theorem plX12_112 (D : MD) (h : (mY D).cls = RX12) : PLk D 112 12 6 := ⟨RX12, TX12, 47, rfl, by decide, rfl, by rw [h]; exact tb_in (t6_in (List.mem_of_getElem? (i := 87) rfl)) rfl, Or.inl rfl⟩
set_option maxRecDepth 20000 in
theorem flX12_25 : FLk RX12 25 12 7 := ⟨RX12, TX12, 47, rfl, by decide, rfl, tb_in (t6_in (List.mem_of_getElem? (i := 88) rfl)) rfl⟩
set_option maxRecDepth 20000 in
theorem plX12_25 (D : MD) (h : (mY D).cls = RX12) : PLk D 25 12 7 := ⟨RX12, TX12, 47, rfl, by decide, rfl, by rw [h]; exact tb_in (t6_in (List.mem_of_getElem? (i := 88) rfl)) rfl, Or.inl rfl⟩
set_option maxRecDepth 20000 in
theorem flX12_29 : FLk RX12 29 12 8 := ⟨RX12, TX12, 47, rfl, by decide, rfl, tb_in (t6_in (List.mem_of_getElem? (i := 89) rfl)) rfl⟩
set_option maxRecDepth 20000 in
theorem plX12_29 (D : MD) (h : (mY D).cls = RX12) : PLk D 29 12 8 := ⟨RX12, TX12, 47, rfl, by decide, rfl, by rw [h]; exact tb_in (t6_in (List.mem_of_getElem? (i := 89) rfl)) rfl, Or.inl rfl⟩
set_option maxRecDepth 20000 in
theorem flX12_119 : FLk RX12 119 12 9 := ⟨RX12, TX12, 47, rfl, by decide, rfl, tb_in (t6_in (List.mem_of_getElem? (i := 90) rfl)) rfl⟩
set_option maxRecDepth 20000 in
theorem plX12_119 (D : MD) (h : (mY D).cls = RX12) : PLk D 119 12 9 := ⟨RX12, TX12, 47, rfl, by decide, rfl, by rw [h]; exact tb_in (t6_in (List.mem_of_getElem? (i := 90) rfl)) rfl, Or.inl rfl⟩
set_option maxRecDepth 20000 in
theorem flX12_126 : FLk RX12 126 12 10 := ⟨RX12, TX12, 47, rfl, by decide, rfl, tb_in (t6_in (List.mem_of_getElem? (i := 91) rfl)) rfl⟩
set_option maxRecDepth 20000 in
theorem plX12_126 (D : MD) (h : (mY D).cls = RX12) : PLk D 126 12 10 := ⟨RX12, TX12, 47, rfl, by decide, rfl, by rw [h]; exact tb_in (t6_in (List.mem_of_getElem? (i := 91) rfl)) rfl, Or.inl rfl⟩
set_option maxRecDepth 20000 in
theorem flX12_129 : FLk RX12 129 12 11 := ⟨RX12, TX12, 47, rfl, by decide, rfl, tb_in (t6_in (List.mem_of_getElem? (i := 92) rfl)) rfl⟩
set_option maxRecDepth 20000 in
theorem plX12_129 (D : MD) (h : (mY D).cls = RX12) : PLk D 129 12 11 := ⟨RX12, TX12, 47, rfl, by decide, rfl, by rw [h]; exact tb_in (t6_in (List.mem_of_getElem? (i := 92) rfl)) rfl, Or.inl rfl⟩
set_option maxRecDepth 20000 in
theorem flX12_135 : FLk RX12 135 12 12 := ⟨RX12, TX12, 47, rfl, by decide, rfl, tb_in (t6_in (List.mem_of_getElem? (i := 93) rfl)) rfl⟩
set_option maxRecDepth 20000 in
theorem plX12_135 (D : MD) (h : (mY D).cls = RX12) : PLk D 135 12 12 := ⟨RX12, TX12, 47, rfl, by decide, rfl, by rw [h]; exact tb_in (t6_in (List.mem_of_getElem? (i := 93) rfl)) rfl, Or.inl rfl⟩
set_option maxRecDepth 20000 in
theorem flX12_142 : FLk RX12 142 12 13 := ⟨RX12, TX12, 47, rfl, by decide, rfl, tb_in (t6_in (List.mem_of_getElem? (i := 94) rfl)) rfl⟩
set_option maxRecDepth 20000 in
theorem plX12_142 (D : MD) (h : (mY D).cls = RX12) : PLk D 142 12 13 := ⟨RX12, TX12, 47, rfl, by decide, rfl, by rw [h]; exact tb_in (t6_in (List.mem_of_getElem? (i := 94) rfl)) rfl, Or.inl rfl⟩
set_option maxRecDepth 20000 in
theorem flX12_167 : FLk RX12 167 12 14 := ⟨RX12, TX12, 47, rfl, by decide, rfl, tb_in (t6_in (List.mem_of_getElem? (i := 95) rfl)) rfl⟩
set_option maxRecDepth 20000 in
theorem plX12_167 (D : MD) (h : (mY D).cls = RX12) : PLk D 167 12 14 := ⟨RX12, TX12, 47, rfl, by decide, rfl, by rw [h]; exact tb_in (t6_in (List.mem_of_getElem? (i := 95) rfl)) rfl, Or.inl rfl⟩
set_option maxRecDepth 20000 in
theorem flX12_170 : FLk RX12 170 12 15 := ⟨RX12, TX12, 47, rfl, by decide, rfl, tb_in (t6_in (List.mem_of_getElem? (i := 96) rfl)) rfl⟩
set_option maxRecDepth 20000 in
theorem plX12_170 (D : MD) (h : (mY D).cls = RX12) : PLk D 170 12 15 := ⟨RX12, TX12, 47, rfl, by decide, rfl, by rw [h]; exact tb_in (t6_in (List.mem_of_getElem? (i := 96) rfl)) rfl, Or.inl rfl⟩
set_option maxRecDepth 20000 in
theorem flX12_177 : FLk RX12 177 12 16 := ⟨RX12, TX12, 47, rfl, by decide, rfl, tb_in (t6_in (List.mem_of_getElem? (i := 97) rfl)) rfl⟩
set_option maxRecDepth 20000 in
theorem plX12_177 (D : MD) (h : (mY D).cls = RX12) : PLk D 177 12 16 := ⟨RX12, TX12, 47, rfl, by decide, rfl, by rw [h]; exact tb_in (t6_in (List.mem_of_getElem? (i := 97) rfl)) rfl, Or.inl rfl⟩
set_option maxRecDepth 20000 in
theorem flX12_32 : FLk RX12 32 12 17 := ⟨RX12, TX12, 47, rfl, by decide, rfl, tb_in (t6_in (List.mem_of_getElem? (i := 98) rfl)) rfl⟩
set_option maxRecDepth 20000 in
theorem plX12_32 (D : MD) (h : (mY D).cls = RX12) (h2 : (mY D).name = "<init>") : PLk D 32 12 17 := ⟨RX12, TX12, 47, rfl, by decide, rfl, by rw [h]; exact tb_in (t6_in (List.mem_of_getElem? (i := 98) rfl)) rfl, Or.inr ⟨rfl, h2, h.symm⟩⟩
set_option maxRecDepth 20000 in
theorem flX12_180 : FLk RX12 180 12 18 := ⟨RX12, TX12, 47, rfl, by decide, rfl, tb_in (t6_in (List.mem_of_getElem? (i := 99) rfl)) rfl⟩
set_option maxRecDepth 20000 in
theorem plX12_180 (D : MD) (h : (mY D).cls = RX12) : PLk D 180 12 18 := ⟨RX12, TX12, 47, rfl, by decide, rfl, by rw [h]; exact tb_in (t6_in (List.mem_of_getElem? (i := 99) rfl)) rfl, Or.inl rfl⟩
set_option maxRecDepth 20000 in
theorem flX12_190 : FLk RX12 190 12 19 := ⟨RX12, TX12, 47, rfl, by decide, rfl, tb_in (t6_in (List.mem_of_getElem? (i := 100) rfl)) rfl⟩
set_option maxRecDepth 20000 in
theorem plX12_190 (D : MD) (h : (mY D).cls = RX12) : PLk D 190 12 19 := ⟨RX12, TX12, 47, rfl, by decide, rfl, by rw [h]; exact tb_in (t6_in (List.mem_of_getElem? (i := 100) rfl)) rfl, Or.inl rfl⟩
set_option maxRecDepth 20000 in
theorem flX12_207 : FLk RX12 207 12 20 := ⟨RX12, TX12, 47, rfl, by decide, rfl, tb_in (t6_in (List.mem_of_getElem? (i := 101) rfl)) rfl⟩
set_option maxRecDepth 20000 in
theorem plX12_207 (D : MD) (h : (mY D).cls = RX12) : PLk D 207 12 20 := ⟨RX12, TX12, 47, rfl, by decide, rfl, by rw [h]; exact tb_in (t6_in (List.mem_of_getElem? (i := 101) rfl)) rfl, Or.inl rfl⟩
set_option maxRecDepth 20000 in
theorem flX12_265 : FLk RX12 265 12 21 := ⟨RX12, TX12, 47, rfl, by decide, rfl, tb_in (t6_in (List.mem_of_getElem? (i := 102) rfl)) rfl⟩
set_option maxRecDepth 20000 in
theorem plX12_265 (D : MD) (h : (mY D).cls = RX12) : PLk D 265 12 21 := ⟨RX12, TX12, 47, rfl, by decide, rfl, by rw [h]; exact tb_in (t6_in (List.mem_of_getElem? (i := 102) rfl)) rfl, Or.inl rfl⟩
set_option maxRecDepth 20000 in
theorem flX12_35 : FLk RX12 35 12 22 := ⟨RX12, TX12, 47, rfl, by decide, rfl, tb_in (t6_in (List.mem_of_getElem? (i := 103) rfl)) rfl⟩
set_option maxRecDepth 20000 in
theorem plX12_35 (D : MD) (h : (mY D).cls = RX12) (h2 : (mY D).name = "<init>") : PLk D 35 12 22 := ⟨RX12, TX12, 47, rfl, by decide, rfl, by rw [h]; exact tb_in (t6_in (List.mem_of_getElem? (i := 103) rfl)) rfl, Or.inr ⟨rfl, h2, h.symm⟩⟩
set_option maxRecDepth 20000 in
theorem flX12_38 : FLk RX12 38 12 23 := ⟨RX12, TX12, 47, rfl, by decide, rfl, tb_in (t6_in (List.mem_of_getElem? (i := 104) rfl)) rfl⟩
set_option maxRecDepth 20000 in
theorem plX12_38 (D : MD) (h : (mY D).cls = RX12) (h2 : (mY D).name = "<init>") : PLk D 38 12 23 := ⟨RX12, TX12, 47, rfl, by decide, rfl, by rw [h]; exact tb_in (t6_in (List.mem_of_getElem? (i := 104) rfl)) rfl, Or.inr ⟨rfl, h2, h.symm⟩⟩
set_option maxRecDepth 20000 in
theorem flX12_321 : FLk RX12 321 12 24 := ⟨RX12, TX12, 47, rfl, by decide, rfl, tb_in (t6_in (List.mem_of_getElem? (i := 105) rfl)) rfl⟩
set_option maxRecDepth 20000 in
theorem plX12_321 (D : MD) (h : (mY D).cls = RX12) : PLk D 321 12 24 := ⟨RX12, TX12, 47, rfl, by decide, rfl, by rw [h]; exact tb_in (t6_in (List.mem_of_getElem? (i := 105) rfl)) rfl, Or.inl rfl⟩
set_option maxRecDepth 20000 in
theorem flX12_324 : FLk RX12 324 12 25 := ⟨RX12, TX12, 47, rfl, by decide, rfl, tb_in (t6_in (List.mem_of_getElem? (i := 106) rfl)) rfl⟩
set_option maxRecDepth 20000 in
theorem plX12_324 (D : MD) (h : (mY D).cls = RX12) : PLk D 324 12 25 := ⟨RX12, TX12, 47, rfl, by decide, rfl, by rw [h]; exact tb_in (t6_in (List.mem_of_getElem? (i := 106) rfl)) rfl, Or.inl rfl⟩
set_option maxRecDepth 20000 in
theorem flX12_327 : FLk RX12 327 12 26 := ⟨RX12, TX12, 47, rfl, by decide, rfl, tb_in (t6_in (List.mem_of_getElem? (i := 107) rfl)) rfl⟩
set_option maxRecDepth 20000 in
theorem plX12_327 (D : MD) (h : (mY D).cls = RX12) : PLk D 327 12 26 := ⟨RX12, TX12, 47, rfl, by decide, rfl, by rw [h]; exact tb_in (t6_in (List.mem_of_getElem? (i := 107) rfl)) rfl, Or.inl rfl⟩
set_option maxRecDepth 20000 in
theorem flX12_330 : FLk RX12 330 12 27 := ⟨RX12, TX12, 47, rfl, by decide, rfl, tb_in (t6_in (List.mem_of_getElem? (i := 108) rfl)) rfl⟩
set_option maxRecDepth 20000 in
theorem plX12_330 (D : MD) (h : (mY D).cls = RX12) : PLk D 330 12 27 := ⟨RX12, TX12, 47, rfl, by decide, rfl, by rw [h]; exact tb_in (t6_in (List.mem_of_getElem? (i := 108) rfl)) rfl, Or.inl rfl⟩
set_option maxRecDepth 20000 in
theorem flX12_333 : FLk RX12 333 12 28 := ⟨RX12, TX12, 47, rfl, by decide, rfl, tb_in (t6_in (List.mem_of_getElem? (i := 109) rfl)) rfl⟩
set_option maxRecDepth 20000 in
theorem plX12_333 (D : MD) (h : (mY D).cls = RX12) : PLk D 333 12 28 := ⟨RX12, TX12, 47, rfl, by decide, rfl, by rw [h]; exact tb_in (t6_in (List.mem_of_getElem? (i := 109) rfl)) rfl, Or.inl rfl⟩
set_option maxRecDepth 20000 in
theorem flX12_336 : FLk RX12 336 12 29 := ⟨RX12, TX12, 47, rfl, by decide, rfl, tb_in (t6_in (List.mem_of_getElem? (i := 110) rfl)) rfl⟩
set_option maxRecDepth 20000 in
theorem plX12_336 (D : MD) (h : (mY D).cls = RX12) : PLk D 336 12 29 := ⟨RX12, TX12, 47, rfl, by decide, rfl, by rw [h]; exact tb_in (t6_in (List.mem_of_getElem? (i := 110) rfl)) rfl, Or.inl rfl⟩
set_option maxRecDepth 20000 in
theorem flX12_339 : FLk RX12 339 12 30 := ⟨RX12, TX12, 47, rfl, by decide, rfl, tb_in (t6_in (List.mem_of_getElem? (i := 111) rfl)) rfl⟩
set_option maxRecDepth 20000 in
theorem plX12_339 (D : MD) (h : (mY D).cls = RX12) : PLk D 339 12 30 := ⟨RX12, TX12, 47, rfl, by decide, rfl, by rw [h]; exact tb_in (t6_in (List.mem_of_getElem? (i := 111) rfl)) rfl, Or.inl rfl⟩
set_option maxRecDepth 20000 in
theorem flX12_42 : FLk RX12 42 12 31 := ⟨RX12, TX12, 47, rfl, by decide, rfl, tb_in (t6_in (List.mem_of_getElem? (i := 112) rfl)) rfl⟩
set_option maxRecDepth 20000 in
theorem plX12_42 (D : MD) (h : (mY D).cls = RX12) (h2 : (mY D).name = "<init>") : PLk D 42 12 31 := ⟨RX12, TX12, 47, rfl, by decide, rfl, by rw [h]; exact tb_in (t6_in (List.mem_of_getElem? (i := 112) rfl)) rfl, Or.inr ⟨rfl, h2, h.symm⟩⟩
set_option maxRecDepth 20000 in
theorem flX12_355 : FLk RX12 355 12 32 := ⟨RX12, TX12, 47, rfl, by decide, rfl, tb_in (t6_in (List.mem_of_getElem? (i := 113) rfl)) rfl⟩
set_option maxRecDepth 20000 in
theorem plX12_355 (D : MD) (h : (mY D).cls = RX12) : PLk D 355 12 32 := ⟨RX12, TX12, 47, rfl, by decide, rfl, by rw [h]; exact tb_in (t6_in (List.mem_of_getElem? (i := 113) rfl)) rfl, Or.inl rfl⟩
set_option maxRecDepth 20000 in
theorem flX12_45 : FLk RX12 45 12 33 := ⟨RX12, TX12, 47, rfl, by decide, rfl, tb_in (t6_in (List.mem_of_getElem? (i := 114) rfl)) rfl⟩
set_option maxRecDepth 20000 in
theorem plX12_45 (D : MD) (h : (mY D).cls = RX12) (h2 : (mY D).name = "<init>") : PLk D 45 12 33 := ⟨RX12, TX12, 47, rfl, by decide, rfl, by rw [h]; exact tb_in (t6_in (List.mem_of_getElem? (i := 114) rfl)) rfl, Or.inr ⟨rfl, h2, h.symm⟩⟩
set_option maxRecDepth 20000 in
theorem flX12_48 : FLk RX12 48 12 34 := ⟨RX12, TX12, 47, rfl, by decide, rfl, tb_in (t6_in (List.mem_of_getElem? (i := 115) rfl)) rfl⟩
set_option maxRecDepth 20000 in
theorem plX12_48 (D : MD) (h : (mY D).cls = RX12) (h2 : (mY D).name = "<init>") : PLk D 48 12 34 := ⟨RX12, TX12, 47, rfl, by decide, rfl, by rw [h]; exact tb_in (t6_in (List.mem_of_getElem? (i := 115) rfl)) rfl, Or.inr ⟨rfl, h2, h.symm⟩⟩
set_option maxRecDepth 20000 in
theorem flX12_51 : FLk RX12 51 12 35 := ⟨RX12, TX12, 47, rfl, by decide, rfl, tb_in (t6_in (List.mem_of_getElem? (i := 116) rfl)) rfl⟩
set_option maxRecDepth 20000 in
theorem plX12_51 (D : MD) (h : (mY D).cls = RX12) (h2 : (mY D).name = "<init>") : PLk D 51 12 35 := ⟨RX12, TX12, 47, rfl, by decide, rfl, by rw [h]; exact tb_in (t6_in (List.mem_of_getElem? (i := 116) rfl)) rfl, Or.inr ⟨rfl, h2, h.symm⟩⟩
set_option maxRecDepth 20000 in
theorem flX12_468 : FLk RX12 468 12 36 := ⟨RX12, TX12, 47, rfl, by decide, rfl, tb_in (t6_in (List.mem_of_getElem? (i := 117) rfl)) rfl⟩
set_option maxRecDepth 20000 in
theorem plX12_468 (D : MD) (h : (mY D).cls = RX12) : PLk D 468 12 36 := ⟨RX12, TX12, 47, rfl, by decide, rfl, by rw [h]; exact tb_in (t6_in (List.mem_of_getElem? (i := 117) rfl)) rfl, Or.inl rfl⟩
set_option maxRecDepth 20000 in
theorem flX12_54 : FLk RX12 54 12 37 := ⟨RX12, TX12, 47, rfl, by decide, rfl, tb_in (t6_in (List.mem_of_getElem? (i := 118) rfl)) rfl⟩
set_option maxRecDepth 20000 in
theorem plX12_54 (D : MD) (h : (mY D).cls = RX12) (h2 : (mY D).name = "<init>") : PLk D 54 12 37 := ⟨RX12, TX12, 47, rfl, by decide, rfl, by rw [h]; exact tb_in (t6_in (List.mem_of_getElem? (i := 118) rfl)) rfl, Or.inr ⟨rfl, h2, h.symm⟩⟩
set_option maxRecDepth 20000 in
theorem flX12_57 : FLk RX12 57 12 38 := ⟨RX12, TX12, 47, rfl, by decide, rfl, tb_in (t6_in (List.mem_of_getElem? (i := 119) rfl)) rfl⟩
set_option maxRecDepth 20000 in
theorem plX12_57 (D : MD) (h : (mY D).cls = RX12) (h2 : (mY D).name = "<init>") : PLk D 57 12 38 := ⟨RX12, TX12, 47, rfl, by decide, rfl, by rw [h]; exact tb_in (t6_in (List.mem_of_getElem? (i := 119) rfl)) rfl, Or.inr ⟨rfl, h2, h.symm⟩⟩
set_option maxRecDepth 20000 in
theorem flX12_60 : FLk RX12 60 12 39 := ⟨RX12, TX12, 47, rfl, by decide, rfl, tb_in (t6_in (List.mem_of_getElem? (i := 120) rfl)) rfl⟩
set_option maxRecDepth 20000 in
theorem plX12_60 (D : MD) (h : (mY D).cls = RX12) (h2 : (mY D).name = "<init>") : PLk D 60 12 39 := ⟨RX12, TX12, 47, rfl, by decide, rfl, by rw [h]; exact tb_in (t6_in (List.mem_of_getElem? (i := 120) rfl)) rfl, Or.inr ⟨rfl, h2, h.symm⟩⟩
set_option maxRecDepth 20000 in
theorem flX12_64 : FLk RX12 64 12 40 := ⟨RX12, TX12, 47, rfl, by decide, rfl, tb_in (t6_in (List.mem_of_getElem? (i := 121) rfl)) rfl⟩
set_option maxRecDepth 20000 in
theorem plX12_64 (D : MD) (h : (mY D).cls = RX12) (h2 : (mY D).name = "<init>") : PLk D 64 12 40 := ⟨RX12, TX12, 47, rfl, by decide, rfl, by rw [h]; exact tb_in (t6_in (List.mem_of_getElem? (i := 121) rfl)) rfl, Or.inr ⟨rfl, h2, h.symm⟩⟩
set_option maxRecDepth 20000 in
theorem flX12_67 : FLk RX12 67 12 41 := ⟨RX12, TX12, 47, rfl, by decide, rfl, tb_in (t6_in (List.mem_of_getElem? (i := 122) rfl)) rfl⟩
set_option maxRecDepth 20000 in
theorem plX12_67 (D : MD) (h : (mY D).cls = RX12) (h2 : (mY D).name = "<init>") : PLk D 67 12 41 := ⟨RX12, TX12, 47, rfl, by decide, rfl, by rw [h]; exact tb_in (t6_in (List.mem_of_getElem? (i := 122) rfl)) rfl, Or.inr ⟨rfl, h2, h.symm⟩⟩
set_option maxRecDepth 20000 in
theorem flX12_70 : FLk RX12 70 12 42 := ⟨RX12, TX12, 47, rfl, by decide, rfl, tb_in (t6_in (List.mem_of_getElem? (i := 123) rfl)) rfl⟩
set_option maxRecDepth 20000 in
theorem plX12_70 (D : MD) (h : (mY D).cls = RX12) (h2 : (mY D).name = "<init>") : PLk D 70 12 42 := ⟨RX12, TX12, 47, rfl, by decide, rfl, by rw [h]; exact tb_in (t6_in (List.mem_of_getElem? (i := 123) rfl)) rfl, Or.inr ⟨rfl, h2, h.symm⟩⟩
set_option maxRecDepth 20000 in
theorem flX12_490 : FLk RX12 490 12 43 := ⟨RX12, TX12, 47, rfl, by decide, rfl, tb_in (t6_in (List.mem_of_getElem? (i := 124) rfl)) rfl⟩
set_option maxRecDepth 20000 in
theorem plX12_490 (D : MD) (h : (mY D).cls = RX12) : PLk D 490 12 43 := ⟨RX12, TX12, 47, rfl, by decide, rfl, by rw [h]; exact tb_in (t6_in (List.mem_of_getElem? (i := 124) rfl)) rfl, Or.inl rfl⟩
set_option maxRecDepth 20000 in
theorem flX12_493 : FLk RX12 493 12 44 := ⟨RX12, TX12, 47, rfl, by decide, rfl, tb_in (t6_in (List.mem_of_getElem? (i := 125) rfl)) rfl⟩
set_option maxRecDepth 20000 in
theorem plX12_493 (D : MD) (h : (mY D).cls = RX12) : PLk D 493 12 44 := ⟨RX12, TX12, 47, rfl, by decide, rfl, by rw [h]; exact tb_in (t6_in (List.mem_of_getElem? (i := 125) rfl)) rfl, Or.inl rfl⟩
set_option maxRecDepth 20000 in
theorem flX12_73 : FLk RX12 73 12 45 := ⟨RX12, TX12, 47, rfl, by decide, rfl, tb_in (t6_in (List.mem_of_getElem? (i := 126) rfl)) rfl⟩
set_option maxRecDepth 20000 in
theorem plX12_73 (D : MD) (h : (mY D).cls = RX12) (h2 : (mY D).name = "<init>") : PLk D 73 12 45 := ⟨RX12, TX12, 47, rfl, by decide, rfl, by rw [h]; exact tb_in (t6_in (List.mem_of_getElem? (i := 126) rfl)) rfl, Or.inr ⟨rfl, h2, h.symm⟩⟩
set_option maxRecDepth 20000 in
theorem flX12_76 : FLk RX12 76 12 46 := ⟨RX12, TX12, 47, rfl, by decide, rfl, tb_in (t6_in (List.mem_of_getElem? (i := 127) rfl)) rfl⟩
set_option maxRecDepth 20000 in
theorem plX12_76 (D : MD) (h : (mY D).cls = RX12) (h2 : (mY D).name = "<init>") : PLk D 76 12 46 := ⟨RX12, TX12, 47, rfl, by decide, rfl, by rw [h]; exact tb_in (t6_in (List.mem_of_getElem? (i := 127) rfl)) rfl, Or.inr ⟨rfl, h2, h.symm⟩⟩
set_option maxRecDepth 20000 in
theorem lkL_9 : LkM RL 9 (mdX11_init) := tb_in (t1_in (List.mem_of_getElem? (i := 24) rfl)) rfl
set_option maxRecDepth 20000 in
theorem lkX11_9 : LkM RX11 9 (mdX6_init) := tb_in (t1_in (List.mem_of_getElem? (i := 32) rfl)) rfl
set_option maxRecDepth 20000 in
theorem lkX6_33 : LkM RX6 33 (mdJ7_fill_53178) := tb_in (t1_in (List.mem_of_getElem? (i := 38) rfl)) rfl
set_option maxRecDepth 20000 in
theorem lkX11_21 : LkM RX11 21 (mdX8_init) := tb_in (t1_in (List.mem_of_getElem? (i := 97) rfl)) rfl
set_option maxRecDepth 20000 in
theorem lkX11_35 : LkM RX11 35 (mdX4_init) := tb_in (t1_in (List.mem_of_getElem? (i := 121) rfl)) rfl
set_option maxRecDepth 20000 in
theorem lkX11_44 : LkM RX11 44 (mdX2_init) := tb_in (t1_in (List.mem_of_getElem? (i := 175) rfl)) rfl
set_option maxRecDepth 20000 in
theorem lkX11_53 : LkM RX11 53 (mdX1_init) := tb_in (t1_in (List.mem_of_getElem? (i := 194) rfl)) rfl
set_option maxRecDepth 20000 in
theorem lkX11_62 : LkM RX11 62 (mdX9_init) := tb_in (t1_in (List.mem_of_getElem? (i := 227) rfl)) rfl
set_option maxRecDepth 20000 in
theorem lkX11_71 : LkM RX11 71 (mdX10_init) := tb_in (t2_in (List.mem_of_getElem? (i := 6) rfl)) rfl
set_option maxRecDepth 20000 in
theorem lkX11_80 : LkM RX11 80 (mdX7_init) := tb_in (t2_in (List.mem_of_getElem? (i := 43) rfl)) rfl
set_option maxRecDepth 20000 in
theorem lkX11_89 : LkM RX11 89 (mdX0_init) := tb_in (t2_in (List.mem_of_getElem? (i := 86) rfl)) rfl
set_option maxRecDepth 20000 in
theorem lkX11_98 : LkM RX11 98 (mdX3_init) := tb_in (t2_in (List.mem_of_getElem? (i := 109) rfl)) rfl
set_option maxRecDepth 20000 in
theorem lkL_13 : LkM RL 13 (mdX11_corner) := tb_in (t2_in (List.mem_of_getElem? (i := 181) rfl)) rfl
set_option maxRecDepth 20000 in
theorem lkX11_113 : LkM RX11 113 (mdX6_addCorner) := tb_in (t2_in (List.mem_of_getElem? (i := 185) rfl)) rfl
set_option maxRecDepth 20000 in
theorem lkL_18 : LkM RL 18 (mdX11_street) := tb_in (t2_in (List.mem_of_getElem? (i := 189) rfl)) rfl
set_option maxRecDepth 20000 in
theorem lkX11_117 : LkM RX11 117 (mdX6_addStreet) := tb_in (t2_in (List.mem_of_getElem? (i := 193) rfl)) rfl
set_option maxRecDepth 20000 in
theorem lkX6_77 : LkM RX6 77 (mdX6_hasCorner) := tb_in (t2_in (List.mem_of_getElem? (i := 197) rfl)) rfl
set_option maxRecDepth 20000 in
theorem lkL_23 : LkM RL 23 (mdX11_goal) := tb_in (t2_in (List.mem_of_getElem? (i := 204) rfl)) rfl
set_option maxRecDepth 20000 in
theorem lkX11_121 : LkM RX11 121 (mdX6_setGoal) := tb_in (t2_in (List.mem_of_getElem? (i := 208) rfl)) rfl
set_option maxRecDepth 20000 in
theorem lkL_28 : LkM RL 28 (mdX11_teller) := tb_in (t2_in (List.mem_of_getElem? (i := 212) rfl)) rfl
set_option maxRecDepth 20000 in
theorem lkX11_125 : LkM RX11 125 (mdX6_addTeller) := tb_in (t2_in (List.mem_of_getElem? (i := 216) rfl)) rfl
set_option maxRecDepth 20000 in
theorem lkL_33 : LkM RL 33 (mdX11_telling) := tb_in (t2_in (List.mem_of_getElem? (i := 223) rfl)) rfl
set_option maxRecDepth 20000 in
theorem lkX11_129 : LkM RX11 129 (mdX6_addTelling) := tb_in (t2_in (List.mem_of_getElem? (i := 227) rfl)) rfl
set_option maxRecDepth 20000 in
theorem lkX6_87 : LkM RX6 87 (mdX6_hasTeller) := tb_in (t2_in (List.mem_of_getElem? (i := 231) rfl)) rfl
set_option maxRecDepth 20000 in
theorem lkX6_90 : LkM RX6 90 (mdX6_putTurns) := tb_in (t2_in (List.mem_of_getElem? (i := 235) rfl)) rfl
set_option maxRecDepth 20000 in
theorem lkX6_95 : LkM RX6 95 (mdX6_isTurn) := tb_in (t3_in (List.mem_of_getElem? (i := 1) rfl)) rfl
set_option maxRecDepth 20000 in
theorem lkL_37 : LkM RL 37 (mdX11_feed) := tb_in (t3_in (List.mem_of_getElem? (i := 4) rfl)) rfl
set_option maxRecDepth 20000 in
theorem lkX11_132 : LkM RX11 132 (mdX11_putBytes) := tb_in (t3_in (List.mem_of_getElem? (i := 8) rfl)) rfl
set_option maxRecDepth 20000 in
theorem lkL_42 : LkM RL 42 (mdX11_end) := tb_in (t3_in (List.mem_of_getElem? (i := 12) rfl)) rfl
set_option maxRecDepth 20000 in
theorem lkL_46 : LkM RL 46 (mdX11_text) := tb_in (t3_in (List.mem_of_getElem? (i := 16) rfl)) rfl
set_option maxRecDepth 20000 in
theorem lkX11_139 : LkM RX11 139 (mdX4_reads) := tb_in (t3_in (List.mem_of_getElem? (i := 20) rfl)) rfl
set_option maxRecDepth 20000 in
theorem lkX4_33 : LkM RX4 33 (mdJ9_min_7cf53) := tb_in (t3_in (List.mem_of_getElem? (i := 24) rfl)) rfl
set_option maxRecDepth 20000 in
theorem lkX4_39 : LkM RX4 39 (mdX4_part) := tb_in (t3_in (List.mem_of_getElem? (i := 27) rfl)) rfl
set_option maxRecDepth 20000 in
theorem lkX4_84 : LkM RX4 84 (mdX4_endOfToken) := tb_in (t3_in (List.mem_of_getElem? (i := 31) rfl)) rfl
set_option maxRecDepth 20000 in
theorem lkX4_95 : LkM RX4 95 (mdX4_isLetter) := tb_in (t3_in (List.mem_of_getElem? (i := 35) rfl)) rfl
set_option maxRecDepth 20000 in
theorem lkX4_98 : LkM RX4 98 (mdX4_isDigit) := tb_in (t3_in (List.mem_of_getElem? (i := 38) rfl)) rfl
set_option maxRecDepth 20000 in
theorem lkX4_87 : LkM RX4 87 (mdX4_isBlank) := tb_in (t3_in (List.mem_of_getElem? (i := 41) rfl)) rfl
set_option maxRecDepth 20000 in
theorem lkX4_91 : LkM RX4 91 (mdX4_setToken) := tb_in (t3_in (List.mem_of_getElem? (i := 44) rfl)) rfl
set_option maxRecDepth 20000 in
theorem lkX4_101 : LkM RX4 101 (mdX4_wordOf) := tb_in (t3_in (List.mem_of_getElem? (i := 48) rfl)) rfl
set_option maxRecDepth 20000 in
theorem lkX4_109 : LkM RX4 109 (mdJ0_length_8abf5) := tb_in (t3_in (List.mem_of_getElem? (i := 53) rfl)) rfl
set_option maxRecDepth 20000 in
theorem lkJ0_335 : LkM RJ0 335 (mdJ0_coder_7d493) := tb_in (t3_in (List.mem_of_getElem? (i := 57) rfl)) rfl
set_option maxRecDepth 20000 in
theorem lkX4_115 : LkM RX4 115 (mdJ0_charAt_5068e) := tb_in (t3_in (List.mem_of_getElem? (i := 63) rfl)) rfl
set_option maxRecDepth 20000 in
theorem lkJ0_492 : LkM RJ0 492 (mdJ0_isLatin1_aae02) := tb_in (t3_in (List.mem_of_getElem? (i := 67) rfl)) rfl
set_option maxRecDepth 20000 in
theorem lkJ0_495 : LkM RJ0 495 (mdJ1_charAt_3b067) := tb_in (t3_in (List.mem_of_getElem? (i := 71) rfl)) rfl
set_option maxRecDepth 20000 in
theorem lkJ1_9 : LkM RJ1 9 (mdJ0_checkIndex_df160) := tb_in (t3_in (List.mem_of_getElem? (i := 74) rfl)) rfl
set_option maxRecDepth 20000 in
theorem lkJ0_1059 : LkM RJ0 1059 (mdJ3_checkIndex_8e157) := tb_in (t3_in (List.mem_of_getElem? (i := 79) rfl)) rfl
set_option maxRecDepth 20000 in
theorem lkJ0_498 : LkM RJ0 498 (mdJ2_charAt_3b067) := tb_in (t3_in (List.mem_of_getElem? (i := 82) rfl)) rfl
set_option maxRecDepth 20000 in
theorem lkJ2_67 : LkM RJ2 67 (mdJ2_checkIndex_2214a) := tb_in (t3_in (List.mem_of_getElem? (i := 85) rfl)) rfl
set_option maxRecDepth 20000 in
theorem lkJ2_48 : LkM RJ2 48 (mdJ2_length_9d52b) := tb_in (t3_in (List.mem_of_getElem? (i := 88) rfl)) rfl
set_option maxRecDepth 20000 in
theorem lkJ2_414 : LkM RJ2 414 (mdJ0_checkIndex_df160) := tb_in (t3_in (List.mem_of_getElem? (i := 91) rfl)) rfl
set_option maxRecDepth 20000 in
theorem lkJ2_71 : LkM RJ2 71 (mdJ2_getChar_3b067) := tb_in (t3_in (List.mem_of_getElem? (i := 92) rfl)) rfl
set_option maxRecDepth 20000 in
theorem lkX4_104 : LkM RX4 104 (mdX4_numberOf) := tb_in (t3_in (List.mem_of_getElem? (i := 101) rfl)) rfl
set_option maxRecDepth 20000 in
theorem lkX4_56 : LkM RX4 56 (mdJ7_fill_53178) := tb_in (t3_in (List.mem_of_getElem? (i := 105) rfl)) rfl
set_option maxRecDepth 20000 in
theorem lkX4_65 : LkM RX4 65 (mdX4_takeToken) := tb_in (t3_in (List.mem_of_getElem? (i := 106) rfl)) rfl
set_option maxRecDepth 20000 in
theorem lkX4_72 : LkM RX4 72 (mdX4_readClause) := tb_in (t3_in (List.mem_of_getElem? (i := 110) rfl)) rfl
set_option maxRecDepth 20000 in
theorem lkX4_122 : LkM RX4 122 (mdX4_failed) := tb_in (t3_in (List.mem_of_getElem? (i := 114) rfl)) rfl
set_option maxRecDepth 20000 in
theorem lkX4_125 : LkM RX4 125 (mdX4_keep) := tb_in (t3_in (List.mem_of_getElem? (i := 118) rfl)) rfl
set_option maxRecDepth 20000 in
theorem lkX4_129 : LkM RX4 129 (mdX4_beginLaw) := tb_in (t3_in (List.mem_of_getElem? (i := 122) rfl)) rfl
set_option maxRecDepth 20000 in
theorem lkX4_132 (v : Nat) : LkM RX4 132 (mdX4_readSum v) := tb_in (t3_in (List.mem_of_getElem? (i := 126) rfl)) rfl
set_option maxRecDepth 20000 in
theorem lkX4_173 (v : Nat) : LkM RX4 173 (mdX4_readProduct v) := tb_in (t3_in (List.mem_of_getElem? (i := 130) rfl)) rfl
set_option maxRecDepth 20000 in
theorem lkX4_179 (v : Nat) : LkM RX4 179 (mdX4_readOne v) := tb_in (t3_in (List.mem_of_getElem? (i := 134) rfl)) rfl
set_option maxRecDepth 20000 in
theorem lkX4_176 : LkM RX4 176 (mdX4_emit) := tb_in (t3_in (List.mem_of_getElem? (i := 138) rfl)) rfl
set_option maxRecDepth 20000 in
theorem lkX4_163 : LkM RX4 163 (mdX4_isSign) := tb_in (t3_in (List.mem_of_getElem? (i := 142) rfl)) rfl
set_option maxRecDepth 20000 in
theorem lkX4_151 : LkM RX4 151 (mdX4_readWord) := tb_in (t3_in (List.mem_of_getElem? (i := 146) rfl)) rfl
set_option maxRecDepth 20000 in
theorem lkX4_141 : LkM RX4 141 (mdX4_readSign) := tb_in (t3_in (List.mem_of_getElem? (i := 150) rfl)) rfl
set_option maxRecDepth 20000 in
theorem lkX4_135 : LkM RX4 135 (mdX4_endLaw) := tb_in (t3_in (List.mem_of_getElem? (i := 154) rfl)) rfl
set_option maxRecDepth 20000 in
theorem lkX4_138 : LkM RX4 138 (mdX4_readDeed) := tb_in (t3_in (List.mem_of_getElem? (i := 158) rfl)) rfl
set_option maxRecDepth 20000 in
theorem lkX4_144 : LkM RX4 144 (mdX4_readNumber) := tb_in (t3_in (List.mem_of_getElem? (i := 162) rfl)) rfl
set_option maxRecDepth 20000 in
theorem lkX4_148 : LkM RX4 148 (mdX4_readCorner) := tb_in (t3_in (List.mem_of_getElem? (i := 166) rfl)) rfl
set_option maxRecDepth 20000 in
theorem lkX4_154 : LkM RX4 154 (mdX4_readFacing) := tb_in (t3_in (List.mem_of_getElem? (i := 170) rfl)) rfl
set_option maxRecDepth 20000 in
theorem lkX4_157 : LkM RX4 157 (mdX4_readTurns) := tb_in (t3_in (List.mem_of_getElem? (i := 174) rfl)) rfl
set_option maxRecDepth 20000 in
theorem lkX4_166 : LkM RX4 166 (mdX4_readTurn) := tb_in (t3_in (List.mem_of_getElem? (i := 178) rfl)) rfl
set_option maxRecDepth 20000 in
theorem lkX4_160 : LkM RX4 160 (mdX4_readSideTo) := tb_in (t3_in (List.mem_of_getElem? (i := 182) rfl)) rfl
set_option maxRecDepth 20000 in
theorem lkX11_148 : LkM RX11 148 (mdX4_asRead) := tb_in (t3_in (List.mem_of_getElem? (i := 186) rfl)) rfl
set_option maxRecDepth 20000 in
theorem lkX4_77 : LkM RX4 77 (mdJ7_copyOf_59c91) := tb_in (t3_in (List.mem_of_getElem? (i := 192) rfl)) rfl
set_option maxRecDepth 20000 in
theorem lkJ7_304 : LkM RJ7 304 (mdJ9_min_7cf53) := tb_in (t3_in (List.mem_of_getElem? (i := 202) rfl)) rfl
set_option maxRecDepth 20000 in
theorem lkX4_81 : LkM RX4 81 (mdX5_init) := tb_in (t3_in (List.mem_of_getElem? (i := 206) rfl)) rfl
set_option maxRecDepth 20000 in
theorem lkX11_152 : LkM RX11 152 (mdX6_addText) := tb_in (t3_in (List.mem_of_getElem? (i := 226) rfl)) rfl
set_option maxRecDepth 20000 in
theorem lkL_51 : LkM RL 51 (mdX11_fault) := tb_in (t3_in (List.mem_of_getElem? (i := 230) rfl)) rfl
set_option maxRecDepth 20000 in
theorem lkL_55 : LkM RL 55 (mdX11_by) := tb_in (t3_in (List.mem_of_getElem? (i := 234) rfl)) rfl
set_option maxRecDepth 20000 in
theorem lkL_59 : LkM RL 59 (mdX11_start) := tb_in (t3_in (List.mem_of_getElem? (i := 238) rfl)) rfl
set_option maxRecDepth 20000 in
theorem lkX11_159 : LkM RX11 159 (mdX9_begins) := tb_in (t4_in (List.mem_of_getElem? (i := 2) rfl)) rfl
set_option maxRecDepth 20000 in
theorem lkX9_33 : LkM RX9 33 (mdX6_hasCorner) := tb_in (t4_in (List.mem_of_getElem? (i := 6) rfl)) rfl
set_option maxRecDepth 20000 in
theorem lkX9_42 : LkM RX9 42 (mdX8_keepStep) := tb_in (t4_in (List.mem_of_getElem? (i := 8) rfl)) rfl
set_option maxRecDepth 20000 in
theorem lkX8_31 : LkM RX8 31 (mdJ9_min_7cf53) := tb_in (t4_in (List.mem_of_getElem? (i := 13) rfl)) rfl
set_option maxRecDepth 20000 in
theorem lkX9_45 : LkM RX9 45 (mdX9_place) := tb_in (t4_in (List.mem_of_getElem? (i := 14) rfl)) rfl
set_option maxRecDepth 20000 in
theorem lkL_64 : LkM RL 64 (mdX11_walk) := tb_in (t4_in (List.mem_of_getElem? (i := 18) rfl)) rfl
set_option maxRecDepth 20000 in
theorem lkX11_163 : LkM RX11 163 (mdX9_canGo) := tb_in (t4_in (List.mem_of_getElem? (i := 22) rfl)) rfl
set_option maxRecDepth 20000 in
theorem lkX9_49 : LkM RX9 49 (mdX6_ahead) := tb_in (t4_in (List.mem_of_getElem? (i := 26) rfl)) rfl
set_option maxRecDepth 20000 in
theorem lkX11_166 : LkM RX11 166 (mdX9_goes) := tb_in (t4_in (List.mem_of_getElem? (i := 30) rfl)) rfl
set_option maxRecDepth 20000 in
theorem lkX9_53 : LkM RX9 53 (mdX9_canGo) := tb_in (t4_in (List.mem_of_getElem? (i := 34) rfl)) rfl
set_option maxRecDepth 20000 in
theorem lkX9_56 : LkM RX9 56 (mdX9_goAhead) := tb_in (t4_in (List.mem_of_getElem? (i := 35) rfl)) rfl
set_option maxRecDepth 20000 in
theorem lkX9_59 : LkM RX9 59 (mdX2_pace) := tb_in (t4_in (List.mem_of_getElem? (i := 39) rfl)) rfl
set_option maxRecDepth 20000 in
theorem lkX2_39 : LkM RX2 39 (mdX6_textOf) := tb_in (t4_in (List.mem_of_getElem? (i := 43) rfl)) rfl
set_option maxRecDepth 20000 in
theorem lkX2_43 : LkM RX2 43 (mdX5_rules) := tb_in (t4_in (List.mem_of_getElem? (i := 47) rfl)) rfl
set_option maxRecDepth 20000 in
theorem lkX2_61 : LkM RX2 61 (mdX6_laneAt) := tb_in (t4_in (List.mem_of_getElem? (i := 51) rfl)) rfl
set_option maxRecDepth 20000 in
theorem lkX2_64 : LkM RX2 64 (mdX6_ahead) := tb_in (t4_in (List.mem_of_getElem? (i := 55) rfl)) rfl
set_option maxRecDepth 20000 in
theorem lkX2_67 : LkM RX2 67 (mdX6_sightOf) := tb_in (t4_in (List.mem_of_getElem? (i := 56) rfl)) rfl
set_option maxRecDepth 20000 in
theorem lkX2_53 : LkM RX2 53 (mdX5_value) := tb_in (t4_in (List.mem_of_getElem? (i := 60) rfl)) rfl
set_option maxRecDepth 20000 in
theorem lkX5_25 : LkM RX5 25 (mdX5_rules) := tb_in (t4_in (List.mem_of_getElem? (i := 64) rfl)) rfl
set_option maxRecDepth 20000 in
theorem lkX5_29 : LkM RX5 29 (mdJ9_min_7cf53) := tb_in (t4_in (List.mem_of_getElem? (i := 65) rfl)) rfl
set_option maxRecDepth 20000 in
theorem lkX5_35 : LkM RX5 35 (mdX5_ofTwo) := tb_in (t4_in (List.mem_of_getElem? (i := 66) rfl)) rfl
set_option maxRecDepth 20000 in
theorem lkX5_39 : LkM RX5 39 (mdJ9_min_f86c9) := tb_in (t4_in (List.mem_of_getElem? (i := 69) rfl)) rfl
set_option maxRecDepth 20000 in
theorem lkX5_42 : LkM RX5 42 (mdJ9_max_f86c9) := tb_in (t4_in (List.mem_of_getElem? (i := 72) rfl)) rfl
set_option maxRecDepth 20000 in
theorem lkX11_359 : LkM RX11 359 (mdJ9_min_7cf53) := tb_in (t4_in (List.mem_of_getElem? (i := 80) rfl)) rfl
set_option maxRecDepth 20000 in
theorem lkX11_362 : LkM RX11 362 (mdJ9_max_7cf53) := tb_in (t4_in (List.mem_of_getElem? (i := 81) rfl)) rfl
set_option maxRecDepth 20000 in
theorem lkL_68 : LkM RL 68 (mdX11_turn) := tb_in (t4_in (List.mem_of_getElem? (i := 84) rfl)) rfl
set_option maxRecDepth 20000 in
theorem lkX11_172 : LkM RX11 172 (mdX9_turns) := tb_in (t4_in (List.mem_of_getElem? (i := 88) rfl)) rfl
set_option maxRecDepth 20000 in
theorem lkX9_64 : LkM RX9 64 (mdX9_isThere) := tb_in (t4_in (List.mem_of_getElem? (i := 92) rfl)) rfl
set_option maxRecDepth 20000 in
theorem lkX9_68 : LkM RX9 68 (mdX9_faceTo) := tb_in (t4_in (List.mem_of_getElem? (i := 96) rfl)) rfl
set_option maxRecDepth 20000 in
theorem lkX9_72 : LkM RX9 72 (mdX1_sideOf) := tb_in (t4_in (List.mem_of_getElem? (i := 100) rfl)) rfl
set_option maxRecDepth 20000 in
theorem lkL_72 : LkM RL 72 (mdX11_ask) := tb_in (t4_in (List.mem_of_getElem? (i := 103) rfl)) rfl
set_option maxRecDepth 20000 in
theorem lkX11_175 : LkM RX11 175 (mdX9_asks) := tb_in (t4_in (List.mem_of_getElem? (i := 107) rfl)) rfl
set_option maxRecDepth 20000 in
theorem lkX9_77 : LkM RX9 77 (mdX6_hasTeller) := tb_in (t4_in (List.mem_of_getElem? (i := 111) rfl)) rfl
set_option maxRecDepth 20000 in
theorem lkX9_80 : LkM RX9 80 (mdX6_tellerCell) := tb_in (t4_in (List.mem_of_getElem? (i := 112) rfl)) rfl
set_option maxRecDepth 20000 in
theorem lkX9_83 : LkM RX9 83 (mdX9_hear) := tb_in (t4_in (List.mem_of_getElem? (i := 116) rfl)) rfl
set_option maxRecDepth 20000 in
theorem lkX9_86 : LkM RX9 86 (mdX2_asking) := tb_in (t4_in (List.mem_of_getElem? (i := 120) rfl)) rfl
set_option maxRecDepth 20000 in
theorem lkX2_49 : LkM RX2 49 (mdX2_nameTeller) := tb_in (t4_in (List.mem_of_getElem? (i := 124) rfl)) rfl
set_option maxRecDepth 20000 in
theorem lkX2_32 : LkM RX2 32 (mdX6_tellerCell) := tb_in (t4_in (List.mem_of_getElem? (i := 128) rfl)) rfl
set_option maxRecDepth 20000 in
theorem lkX2_71 : LkM RX2 71 (mdX6_hasTeller) := tb_in (t4_in (List.mem_of_getElem? (i := 129) rfl)) rfl
set_option maxRecDepth 20000 in
theorem lkL_76 : LkM RL 76 (mdX11_follow) := tb_in (t4_in (List.mem_of_getElem? (i := 130) rfl)) rfl
set_option maxRecDepth 20000 in
theorem lkX11_178 : LkM RX11 178 (mdX9_follows) := tb_in (t4_in (List.mem_of_getElem? (i := 134) rfl)) rfl
set_option maxRecDepth 20000 in
theorem lkX9_90 : LkM RX9 90 (mdX6_hasTelling) := tb_in (t4_in (List.mem_of_getElem? (i := 138) rfl)) rfl
set_option maxRecDepth 20000 in
theorem lkX9_93 : LkM RX9 93 (mdX1_setOut) := tb_in (t4_in (List.mem_of_getElem? (i := 142) rfl)) rfl
set_option maxRecDepth 20000 in
theorem lkX9_97 : LkM RX9 97 (mdX1_goesAll) := tb_in (t4_in (List.mem_of_getElem? (i := 146) rfl)) rfl
set_option maxRecDepth 20000 in
theorem lkX1_29 : LkM RX1 29 (mdX6_tellingCell) := tb_in (t4_in (List.mem_of_getElem? (i := 150) rfl)) rfl
set_option maxRecDepth 20000 in
theorem lkX1_50 : LkM RX1 50 (mdX6_turnOf) := tb_in (t4_in (List.mem_of_getElem? (i := 154) rfl)) rfl
set_option maxRecDepth 20000 in
theorem lkX6_74 : LkM RX6 74 (mdX6_tellingCell) := tb_in (t4_in (List.mem_of_getElem? (i := 158) rfl)) rfl
set_option maxRecDepth 20000 in
theorem lkX1_53 : LkM RX1 53 (mdX1_meant) := tb_in (t4_in (List.mem_of_getElem? (i := 159) rfl)) rfl
set_option maxRecDepth 20000 in
theorem lkX1_56 : LkM RX1 56 (mdX1_takes) := tb_in (t4_in (List.mem_of_getElem? (i := 162) rfl)) rfl
set_option maxRecDepth 20000 in
theorem lkX1_67 : LkM RX1 67 (mdX1_sideOf) := tb_in (t4_in (List.mem_of_getElem? (i := 166) rfl)) rfl
set_option maxRecDepth 20000 in
theorem lkX1_60 : LkM RX1 60 (mdX1_goesOn) := tb_in (t4_in (List.mem_of_getElem? (i := 167) rfl)) rfl
set_option maxRecDepth 20000 in
theorem lkX1_64 : LkM RX1 64 (mdX6_ahead) := tb_in (t4_in (List.mem_of_getElem? (i := 171) rfl)) rfl
set_option maxRecDepth 20000 in
theorem lkX1_70 : LkM RX1 70 (mdX6_sightOf) := tb_in (t4_in (List.mem_of_getElem? (i := 172) rfl)) rfl
set_option maxRecDepth 20000 in
theorem lkX1_74 : LkM RX1 74 (mdX6_counts) := tb_in (t4_in (List.mem_of_getElem? (i := 173) rfl)) rfl
set_option maxRecDepth 20000 in
theorem lkL_80 : LkM RL 80 (mdX11_played) := tb_in (t4_in (List.mem_of_getElem? (i := 177) rfl)) rfl
set_option maxRecDepth 20000 in
theorem lkX11_181 : LkM RX11 181 (mdX6_textOf) := tb_in (t4_in (List.mem_of_getElem? (i := 181) rfl)) rfl
set_option maxRecDepth 20000 in
theorem lkX11_185 : LkM RX11 185 (mdX9_plays) := tb_in (t4_in (List.mem_of_getElem? (i := 182) rfl)) rfl
set_option maxRecDepth 20000 in
theorem lkX9_137 : LkM RX9 137 (mdX9_does) := tb_in (t4_in (List.mem_of_getElem? (i := 186) rfl)) rfl
set_option maxRecDepth 20000 in
theorem lkX9_141 : LkM RX9 141 (mdX6_addCorner) := tb_in (t4_in (List.mem_of_getElem? (i := 190) rfl)) rfl
set_option maxRecDepth 20000 in
theorem lkX9_144 : LkM RX9 144 (mdX6_addStreet) := tb_in (t4_in (List.mem_of_getElem? (i := 191) rfl)) rfl
set_option maxRecDepth 20000 in
theorem lkX9_148 : LkM RX9 148 (mdX6_setGoal) := tb_in (t4_in (List.mem_of_getElem? (i := 192) rfl)) rfl
set_option maxRecDepth 20000 in
theorem lkX9_151 : LkM RX9 151 (mdX6_addTeller) := tb_in (t4_in (List.mem_of_getElem? (i := 193) rfl)) rfl
set_option maxRecDepth 20000 in
theorem lkX9_155 : LkM RX9 155 (mdX6_addTelling) := tb_in (t4_in (List.mem_of_getElem? (i := 194) rfl)) rfl
set_option maxRecDepth 20000 in
theorem lkX9_158 : LkM RX9 158 (mdX9_begins) := tb_in (t4_in (List.mem_of_getElem? (i := 195) rfl)) rfl
set_option maxRecDepth 20000 in
theorem lkX9_162 : LkM RX9 162 (mdX9_goes) := tb_in (t4_in (List.mem_of_getElem? (i := 196) rfl)) rfl
set_option maxRecDepth 20000 in
theorem lkX9_165 : LkM RX9 165 (mdX9_turns) := tb_in (t4_in (List.mem_of_getElem? (i := 197) rfl)) rfl
set_option maxRecDepth 20000 in
theorem lkX9_168 : LkM RX9 168 (mdX9_asks) := tb_in (t4_in (List.mem_of_getElem? (i := 198) rfl)) rfl
set_option maxRecDepth 20000 in
theorem lkX9_171 : LkM RX9 171 (mdX9_follows) := tb_in (t4_in (List.mem_of_getElem? (i := 199) rfl)) rfl
set_option maxRecDepth 20000 in
theorem lkL_84 : LkM RL 84 (mdX11_day) := tb_in (t4_in (List.mem_of_getElem? (i := 200) rfl)) rfl
set_option maxRecDepth 20000 in
theorem lkX11_188 : LkM RX11 188 (mdX9_spendsDay) := tb_in (t4_in (List.mem_of_getElem? (i := 204) rfl)) rfl
set_option maxRecDepth 20000 in
theorem lkX9_117 : LkM RX9 117 (mdX9_anew) := tb_in (t4_in (List.mem_of_getElem? (i := 208) rfl)) rfl
set_option maxRecDepth 20000 in
theorem lkX9_120 : LkM RX9 120 (mdX9_drawn) := tb_in (t4_in (List.mem_of_getElem? (i := 211) rfl)) rfl
set_option maxRecDepth 20000 in
theorem lkX9_123 : LkM RX9 123 (mdX9_hearLowest) := tb_in (t4_in (List.mem_of_getElem? (i := 215) rfl)) rfl
set_option maxRecDepth 20000 in
theorem lkL_89 : LkM RL 89 (mdX11_undo) := tb_in (t4_in (List.mem_of_getElem? (i := 219) rfl)) rfl
set_option maxRecDepth 20000 in
theorem lkX11_192 : LkM RX11 192 (mdX8_takeBack) := tb_in (t4_in (List.mem_of_getElem? (i := 223) rfl)) rfl
set_option maxRecDepth 20000 in
theorem lkL_93 : LkM RL 93 (mdX11_walker) := tb_in (t4_in (List.mem_of_getElem? (i := 227) rfl)) rfl
set_option maxRecDepth 20000 in
theorem lkL_97 : LkM RL 97 (mdX11_ofCorner) := tb_in (t4_in (List.mem_of_getElem? (i := 231) rfl)) rfl
set_option maxRecDepth 20000 in
theorem lkX11_196 : LkM RX11 196 (mdX6_hasCorner) := tb_in (t4_in (List.mem_of_getElem? (i := 235) rfl)) rfl
set_option maxRecDepth 20000 in
theorem lkX11_199 : LkM RX11 199 (mdX6_sightOf) := tb_in (t4_in (List.mem_of_getElem? (i := 236) rfl)) rfl
set_option maxRecDepth 20000 in
theorem lkX11_202 : LkM RX11 202 (mdX6_ahead) := tb_in (t4_in (List.mem_of_getElem? (i := 237) rfl)) rfl
set_option maxRecDepth 20000 in
theorem lkX11_205 : LkM RX11 205 (mdX6_laneAt) := tb_in (t4_in (List.mem_of_getElem? (i := 238) rfl)) rfl
set_option maxRecDepth 20000 in
theorem lkL_101 : LkM RL 101 (mdX11_ofTeller) := tb_in (t4_in (List.mem_of_getElem? (i := 239) rfl)) rfl
set_option maxRecDepth 20000 in
theorem lkX11_208 : LkM RX11 208 (mdX6_hasTeller) := tb_in (t5_in (List.mem_of_getElem? (i := 3) rfl)) rfl
set_option maxRecDepth 20000 in
theorem lkX11_211 : LkM RX11 211 (mdX6_tellerCell) := tb_in (t5_in (List.mem_of_getElem? (i := 4) rfl)) rfl
set_option maxRecDepth 20000 in
theorem lkL_105 : LkM RL 105 (mdX11_ofTelling) := tb_in (t5_in (List.mem_of_getElem? (i := 5) rfl)) rfl
set_option maxRecDepth 20000 in
theorem lkX11_214 : LkM RX11 214 (mdX6_hasTelling) := tb_in (t5_in (List.mem_of_getElem? (i := 9) rfl)) rfl
set_option maxRecDepth 20000 in
theorem lkX11_217 : LkM RX11 217 (mdX6_tellingCell) := tb_in (t5_in (List.mem_of_getElem? (i := 10) rfl)) rfl
set_option maxRecDepth 20000 in
theorem lkX11_220 : LkM RX11 220 (mdX2_slip) := tb_in (t5_in (List.mem_of_getElem? (i := 11) rfl)) rfl
set_option maxRecDepth 20000 in
theorem lkX2_26 : LkM RX2 26 (mdX6_tellingCell) := tb_in (t5_in (List.mem_of_getElem? (i := 15) rfl)) rfl
set_option maxRecDepth 20000 in
theorem lkX11_223 : LkM RX11 223 (mdX6_turnOf) := tb_in (t5_in (List.mem_of_getElem? (i := 16) rfl)) rfl
set_option maxRecDepth 20000 in
theorem lkL_109 : LkM RL 109 (mdX11_leads) := tb_in (t5_in (List.mem_of_getElem? (i := 17) rfl)) rfl
set_option maxRecDepth 20000 in
theorem lkX11_226 : LkM RX11 226 (mdX1_comesTo) := tb_in (t5_in (List.mem_of_getElem? (i := 21) rfl)) rfl
set_option maxRecDepth 20000 in
theorem lkX1_42 : LkM RX1 42 (mdX1_setOutAsTold) := tb_in (t5_in (List.mem_of_getElem? (i := 25) rfl)) rfl
set_option maxRecDepth 20000 in
theorem lkX1_35 : LkM RX1 35 (mdX6_tellerCell) := tb_in (t5_in (List.mem_of_getElem? (i := 29) rfl)) rfl
set_option maxRecDepth 20000 in
theorem lkX1_38 : LkM RX1 38 (mdX1_setOut) := tb_in (t5_in (List.mem_of_getElem? (i := 30) rfl)) rfl
set_option maxRecDepth 20000 in
theorem lkX1_46 : LkM RX1 46 (mdX1_goesAll) := tb_in (t5_in (List.mem_of_getElem? (i := 31) rfl)) rfl
set_option maxRecDepth 20000 in
theorem lkL_113 : LkM RL 113 (mdX11_likely) := tb_in (t5_in (List.mem_of_getElem? (i := 32) rfl)) rfl
set_option maxRecDepth 20000 in
theorem lkX11_230 : LkM RX11 230 (mdX10_weigh) := tb_in (t5_in (List.mem_of_getElem? (i := 36) rfl)) rfl
set_option maxRecDepth 20000 in
theorem lkX10_43 : LkM RX10 43 (mdX10_setWeights) := tb_in (t5_in (List.mem_of_getElem? (i := 40) rfl)) rfl
set_option maxRecDepth 20000 in
theorem lkX10_37 : LkM RX10 37 (mdX2_slip) := tb_in (t5_in (List.mem_of_getElem? (i := 44) rfl)) rfl
set_option maxRecDepth 20000 in
theorem lkX10_47 : LkM RX10 47 (mdX1_setOutAsTold) := tb_in (t5_in (List.mem_of_getElem? (i := 45) rfl)) rfl
set_option maxRecDepth 20000 in
theorem lkX10_52 : LkM RX10 52 (mdX1_goesAll) := tb_in (t5_in (List.mem_of_getElem? (i := 46) rfl)) rfl
set_option maxRecDepth 20000 in
theorem lkX11_233 : LkM RX11 233 (mdX10_weightTo) := tb_in (t5_in (List.mem_of_getElem? (i := 47) rfl)) rfl
set_option maxRecDepth 20000 in
theorem lkL_117 : LkM RL 117 (mdX11_byAll) := tb_in (t5_in (List.mem_of_getElem? (i := 51) rfl)) rfl
set_option maxRecDepth 20000 in
theorem lkX11_236 : LkM RX11 236 (mdX6_isSet) := tb_in (t5_in (List.mem_of_getElem? (i := 55) rfl)) rfl
set_option maxRecDepth 20000 in
theorem lkX6_64 : LkM RX6 64 (mdJ6_bitCount_0f7a4) := tb_in (t5_in (List.mem_of_getElem? (i := 59) rfl)) rfl
set_option maxRecDepth 20000 in
theorem lkX11_241 : LkM RX11 241 (mdX10_multiply) := tb_in (t5_in (List.mem_of_getElem? (i := 66) rfl)) rfl
set_option maxRecDepth 20000 in
theorem lkX10_60 : LkM RX10 60 (mdJ7_fill_d0a16) := tb_in (t5_in (List.mem_of_getElem? (i := 70) rfl)) rfl
set_option maxRecDepth 20000 in
theorem lkX10_73 : LkM RX10 73 (mdX10_weigh) := tb_in (t5_in (List.mem_of_getElem? (i := 73) rfl)) rfl
set_option maxRecDepth 20000 in
theorem lkX10_76 : LkM RX10 76 (mdX10_weightTo) := tb_in (t5_in (List.mem_of_getElem? (i := 74) rfl)) rfl
set_option maxRecDepth 20000 in
theorem lkX11_252 : LkM RX11 252 (mdX11_inLowestTerms) := tb_in (t5_in (List.mem_of_getElem? (i := 75) rfl)) rfl
set_option maxRecDepth 20000 in
theorem lkL_122 : LkM RL 122 (mdX11_clash) := tb_in (t5_in (List.mem_of_getElem? (i := 78) rfl)) rfl
set_option maxRecDepth 20000 in
theorem lkX11_256 : LkM RX11 256 (mdX10_listCorners) := tb_in (t5_in (List.mem_of_getElem? (i := 82) rfl)) rfl
set_option maxRecDepth 20000 in
theorem lkL_126 : LkM RL 126 (mdX11_wrong) := tb_in (t5_in (List.mem_of_getElem? (i := 86) rfl)) rfl
set_option maxRecDepth 20000 in
theorem lkX11_267 : LkM RX11 267 (mdX10_thatReach) := tb_in (t5_in (List.mem_of_getElem? (i := 90) rfl)) rfl
set_option maxRecDepth 20000 in
theorem lkX11_270 : LkM RX11 270 (mdX11_isLess) := tb_in (t5_in (List.mem_of_getElem? (i := 94) rfl)) rfl
set_option maxRecDepth 20000 in
theorem lkX11_273 : LkM RX11 273 (mdJ6_bitCount_0f7a4) := tb_in (t5_in (List.mem_of_getElem? (i := 97) rfl)) rfl
set_option maxRecDepth 20000 in
theorem lkL_131 : LkM RL 131 (mdX11_far) := tb_in (t5_in (List.mem_of_getElem? (i := 98) rfl)) rfl
set_option maxRecDepth 20000 in
theorem lkX11_278 : LkM RX11 278 (mdX7_setPaces) := tb_in (t5_in (List.mem_of_getElem? (i := 102) rfl)) rfl
set_option maxRecDepth 20000 in
theorem lkX7_49 : LkM RX7 49 (mdX6_ahead) := tb_in (t5_in (List.mem_of_getElem? (i := 106) rfl)) rfl
set_option maxRecDepth 20000 in
theorem lkX7_53 : LkM RX7 53 (mdX2_pace) := tb_in (t5_in (List.mem_of_getElem? (i := 107) rfl)) rfl
set_option maxRecDepth 20000 in
theorem lkX11_281 : LkM RX11 281 (mdX7_measure) := tb_in (t5_in (List.mem_of_getElem? (i := 108) rfl)) rfl
set_option maxRecDepth 20000 in
theorem lkX7_58 : LkM RX7 58 (mdX6_hasCorner) := tb_in (t5_in (List.mem_of_getElem? (i := 112) rfl)) rfl
set_option maxRecDepth 20000 in
theorem lkX7_62 : LkM RX7 62 (mdX7_nearest) := tb_in (t5_in (List.mem_of_getElem? (i := 113) rfl)) rfl
set_option maxRecDepth 20000 in
theorem lkX7_69 : LkM RX7 69 (mdX7_secondsTo) := tb_in (t5_in (List.mem_of_getElem? (i := 117) rfl)) rfl
set_option maxRecDepth 20000 in
theorem lkX7_65 : LkM RX7 65 (mdX7_lookAround) := tb_in (t5_in (List.mem_of_getElem? (i := 121) rfl)) rfl
set_option maxRecDepth 20000 in
theorem lkX11_284 : LkM RX11 284 (mdX7_secondsTo) := tb_in (t5_in (List.mem_of_getElem? (i := 125) rfl)) rfl
set_option maxRecDepth 20000 in
theorem lkL_135 : LkM RL 135 (mdX11_see) := tb_in (t5_in (List.mem_of_getElem? (i := 126) rfl)) rfl
set_option maxRecDepth 20000 in
theorem lkX11_287 : LkM RX11 287 (mdX7_plan) := tb_in (t5_in (List.mem_of_getElem? (i := 130) rfl)) rfl
set_option maxRecDepth 20000 in
theorem lkX7_77 : LkM RX7 77 (mdX10_multiply) := tb_in (t5_in (List.mem_of_getElem? (i := 134) rfl)) rfl
set_option maxRecDepth 20000 in
theorem lkX7_83 : LkM RX7 83 (mdX7_listPlaces) := tb_in (t5_in (List.mem_of_getElem? (i := 135) rfl)) rfl
set_option maxRecDepth 20000 in
theorem lkX7_87 : LkM RX7 87 (mdX7_setPaces) := tb_in (t5_in (List.mem_of_getElem? (i := 139) rfl)) rfl
set_option maxRecDepth 20000 in
theorem lkX7_90 : LkM RX7 90 (mdX7_measure) := tb_in (t5_in (List.mem_of_getElem? (i := 140) rfl)) rfl
set_option maxRecDepth 20000 in
theorem lkX7_102 (v : Nat) : LkM RX7 102 (mdX7_tryOrders v) := tb_in (t5_in (List.mem_of_getElem? (i := 142) rfl)) rfl
set_option maxRecDepth 20000 in
theorem lkL_140 : LkM RL 140 (mdX11_orAsk) := tb_in (t5_in (List.mem_of_getElem? (i := 147) rfl)) rfl
set_option maxRecDepth 20000 in
theorem lkX11_299 : LkM RX11 299 (mdX7_soonestTeller) := tb_in (t5_in (List.mem_of_getElem? (i := 151) rfl)) rfl
set_option maxRecDepth 20000 in
theorem lkX7_119 : LkM RX7 119 (mdX6_tellerCell) := tb_in (t5_in (List.mem_of_getElem? (i := 155) rfl)) rfl
set_option maxRecDepth 20000 in
theorem lkX7_122 : LkM RX7 122 (mdX2_asking) := tb_in (t5_in (List.mem_of_getElem? (i := 156) rfl)) rfl
set_option maxRecDepth 20000 in
theorem lkX7_129 : LkM RX7 129 (mdX7_sumFrom) := tb_in (t5_in (List.mem_of_getElem? (i := 157) rfl)) rfl
set_option maxRecDepth 20000 in
theorem lkL_144 : LkM RL 144 (mdX11_safeSoFar) := tb_in (t5_in (List.mem_of_getElem? (i := 161) rfl)) rfl
set_option maxRecDepth 20000 in
theorem lkX11_302 : LkM RX11 302 (mdX10_safeWeight) := tb_in (t5_in (List.mem_of_getElem? (i := 165) rfl)) rfl
set_option maxRecDepth 20000 in
theorem lkX10_83 : LkM RX10 83 (mdX1_goesFirst) := tb_in (t5_in (List.mem_of_getElem? (i := 169) rfl)) rfl
set_option maxRecDepth 20000 in
theorem lkL_149 : LkM RL 149 (mdX11_howFar) := tb_in (t5_in (List.mem_of_getElem? (i := 174) rfl)) rfl
set_option maxRecDepth 20000 in
theorem lkL_153 : LkM RL 153 (mdX11_lost) := tb_in (t5_in (List.mem_of_getElem? (i := 178) rfl)) rfl
set_option maxRecDepth 20000 in
theorem lkL_157 : LkM RL 157 (mdX11_listen) := tb_in (t5_in (List.mem_of_getElem? (i := 182) rfl)) rfl
set_option maxRecDepth 20000 in
theorem lkX11_307 : LkM RX11 307 (mdX11_isSlip) := tb_in (t5_in (List.mem_of_getElem? (i := 186) rfl)) rfl
set_option maxRecDepth 20000 in
theorem lkX11_310 : LkM RX11 310 (mdX11_power) := tb_in (t5_in (List.mem_of_getElem? (i := 187) rfl)) rfl
set_option maxRecDepth 20000 in
theorem lkX11_314 : LkM RX11 314 (mdJ9_max_f86c9) := tb_in (t5_in (List.mem_of_getElem? (i := 190) rfl)) rfl
set_option maxRecDepth 20000 in
theorem lkL_162 : LkM RL 162 (mdX11_tell) := tb_in (t5_in (List.mem_of_getElem? (i := 192) rfl)) rfl
set_option maxRecDepth 20000 in
theorem lkX11_322 : LkM RX11 322 (mdX11_isDirection) := tb_in (t5_in (List.mem_of_getElem? (i := 196) rfl)) rfl
set_option maxRecDepth 20000 in
theorem lkX11_328 : LkM RX11 328 (mdX0_find) := tb_in (t5_in (List.mem_of_getElem? (i := 197) rfl)) rfl
set_option maxRecDepth 20000 in
theorem lkX0_29 : LkM RX0 29 (mdJ7_fill_53178) := tb_in (t5_in (List.mem_of_getElem? (i := 201) rfl)) rfl
set_option maxRecDepth 20000 in
theorem lkX0_35 (v : Nat) : LkM RX0 35 (mdX0_tries v) := tb_in (t5_in (List.mem_of_getElem? (i := 202) rfl)) rfl
set_option maxRecDepth 20000 in
theorem lkX0_39 : LkM RX0 39 (mdX0_turnOfKind) := tb_in (t5_in (List.mem_of_getElem? (i := 206) rfl)) rfl
set_option maxRecDepth 20000 in
theorem lkX0_43 : LkM RX0 43 (mdX0_allGo) := tb_in (t5_in (List.mem_of_getElem? (i := 209) rfl)) rfl
set_option maxRecDepth 20000 in
theorem lkX0_47 : LkM RX0 47 (mdX1_meant) := tb_in (t5_in (List.mem_of_getElem? (i := 213) rfl)) rfl
set_option maxRecDepth 20000 in
theorem lkX0_53 : LkM RX0 53 (mdX0_after) := tb_in (t5_in (List.mem_of_getElem? (i := 214) rfl)) rfl
set_option maxRecDepth 20000 in
theorem lkX0_61 : LkM RX0 61 (mdX0_kindOfTurn) := tb_in (t5_in (List.mem_of_getElem? (i := 218) rfl)) rfl
set_option maxRecDepth 20000 in
theorem lkX0_64 : LkM RX0 64 (mdX1_setOut) := tb_in (t5_in (List.mem_of_getElem? (i := 221) rfl)) rfl
set_option maxRecDepth 20000 in
theorem lkX0_68 : LkM RX0 68 (mdX1_takes) := tb_in (t5_in (List.mem_of_getElem? (i := 222) rfl)) rfl
set_option maxRecDepth 20000 in
theorem lkX0_57 : LkM RX0 57 (mdX0_endsAtGoal) := tb_in (t5_in (List.mem_of_getElem? (i := 223) rfl)) rfl
set_option maxRecDepth 20000 in
theorem lkX0_87 : LkM RX0 87 (mdX6_ahead) := tb_in (t5_in (List.mem_of_getElem? (i := 227) rfl)) rfl
set_option maxRecDepth 20000 in
theorem lkL_166 : LkM RL 166 (mdX11_where) := tb_in (t5_in (List.mem_of_getElem? (i := 228) rfl)) rfl
set_option maxRecDepth 20000 in
theorem lkX11_340 : LkM RX11 340 (mdX6_hasOther) := tb_in (t5_in (List.mem_of_getElem? (i := 232) rfl)) rfl
set_option maxRecDepth 20000 in
theorem lkX6_70 : LkM RX6 70 (mdX6_ahead) := tb_in (t5_in (List.mem_of_getElem? (i := 236) rfl)) rfl
set_option maxRecDepth 20000 in
theorem lkL_170 : LkM RL 170 (mdX11_map) := tb_in (t5_in (List.mem_of_getElem? (i := 237) rfl)) rfl
set_option maxRecDepth 20000 in
theorem lkL_175 : LkM RL 175 (mdX11_signs) := tb_in (t6_in (List.mem_of_getElem? (i := 1) rfl)) rfl
set_option maxRecDepth 20000 in
theorem lkX11_344 : LkM RX11 344 (mdX3_fewest) := tb_in (t6_in (List.mem_of_getElem? (i := 5) rfl)) rfl
set_option maxRecDepth 20000 in
theorem lkX3_31 : LkM RX3 31 (mdX6_hasCorner) := tb_in (t6_in (List.mem_of_getElem? (i := 9) rfl)) rfl
set_option maxRecDepth 20000 in
theorem lkX3_35 : LkM RX3 35 (mdX3_countStreets) := tb_in (t6_in (List.mem_of_getElem? (i := 10) rfl)) rfl
set_option maxRecDepth 20000 in
theorem lkX3_69 : LkM RX3 69 (mdJ7_fill_53178) := tb_in (t6_in (List.mem_of_getElem? (i := 14) rfl)) rfl
set_option maxRecDepth 20000 in
theorem lkX3_75 : LkM RX3 75 (mdX3_towards) := tb_in (t6_in (List.mem_of_getElem? (i := 15) rfl)) rfl
set_option maxRecDepth 20000 in
theorem lkX3_78 : LkM RX3 78 (mdX6_ahead) := tb_in (t6_in (List.mem_of_getElem? (i := 19) rfl)) rfl
set_option maxRecDepth 20000 in
theorem lkX3_38 : LkM RX3 38 (mdX3_setOnward) := tb_in (t6_in (List.mem_of_getElem? (i := 20) rfl)) rfl
set_option maxRecDepth 20000 in
theorem lkX3_81 : LkM RX3 81 (mdX1_sideOf) := tb_in (t6_in (List.mem_of_getElem? (i := 24) rfl)) rfl
set_option maxRecDepth 20000 in
theorem lkX3_44 : LkM RX3 44 (mdJ6_bitCount_0f7a4) := tb_in (t6_in (List.mem_of_getElem? (i := 25) rfl)) rfl
set_option maxRecDepth 20000 in
theorem lkX3_50 : LkM RX3 50 (mdJ9_min_7cf53) := tb_in (t6_in (List.mem_of_getElem? (i := 26) rfl)) rfl
set_option maxRecDepth 20000 in
theorem lkX3_56 : LkM RX3 56 (mdX3_firstThatServes) := tb_in (t6_in (List.mem_of_getElem? (i := 27) rfl)) rfl
set_option maxRecDepth 20000 in
theorem lkX3_63 : LkM RX3 63 (mdX3_allCome) := tb_in (t6_in (List.mem_of_getElem? (i := 32) rfl)) rfl
set_option maxRecDepth 20000 in
theorem lkX3_90 : LkM RX3 90 (mdX3_comes) := tb_in (t6_in (List.mem_of_getElem? (i := 36) rfl)) rfl
set_option maxRecDepth 20000 in
theorem lkX3_66 : LkM RX3 66 (mdX3_nextOfSize) := tb_in (t6_in (List.mem_of_getElem? (i := 40) rfl)) rfl
set_option maxRecDepth 20000 in
theorem lkL_179 : LkM RL 179 (mdX11_whose) := tb_in (t6_in (List.mem_of_getElem? (i := 43) rfl)) rfl
set_option maxRecDepth 20000 in
theorem lkL_184 : LkM RL 184 (mdX11_heard) := tb_in (t6_in (List.mem_of_getElem? (i := 47) rfl)) rfl
set_option maxRecDepth 20000 in
theorem lkL_188 : LkM RL 188 (mdX11_image) := tb_in (t6_in (List.mem_of_getElem? (i := 51) rfl)) rfl
set_option maxRecDepth 20000 in
theorem lkX11_347 : LkM RX11 347 (mdX6_copyFrom) := tb_in (t6_in (List.mem_of_getElem? (i := 55) rfl)) rfl
set_option maxRecDepth 20000 in
theorem lkX11_350 : LkM RX11 350 (mdX8_copyFrom) := tb_in (t6_in (List.mem_of_getElem? (i := 60) rfl)) rfl
set_option maxRecDepth 20000 in
theorem lkL_192 : LkM RL 192 (mdX11_back) := tb_in (t6_in (List.mem_of_getElem? (i := 64) rfl)) rfl
set_option maxRecDepth 20000 in
theorem lkL_196 : LkM RL 196 (mdX11_about) := tb_in (t6_in (List.mem_of_getElem? (i := 68) rfl)) rfl
set_option maxRecDepth 20000 in
theorem lkL_12 : LkM RL 12 (mdX12_init) := tb_in (t6_in (List.mem_of_getElem? (i := 74) rfl)) rfl
set_option maxRecDepth 20000 in
theorem lkX12_79 : LkM RX12 79 (mdX12_copy) := tb_in (t6_in (List.mem_of_getElem? (i := 78) rfl)) rfl
set_option maxRecDepth 20000 in
theorem lkL_17 : LkM RL 17 (mdX12_corner) := tb_in (t6_in (List.mem_of_getElem? (i := 224) rfl)) rfl
set_option maxRecDepth 20000 in
theorem lkX12_83 : LkM RX12 83 (mdX12_isIn) := tb_in (t6_in (List.mem_of_getElem? (i := 228) rfl)) rfl
set_option maxRecDepth 20000 in
theorem lkL_22 : LkM RL 22 (mdX12_street) := tb_in (t6_in (List.mem_of_getElem? (i := 231) rfl)) rfl
set_option maxRecDepth 20000 in
theorem lkX12_87 : LkM RX12 87 (mdX12_isCorner) := tb_in (t6_in (List.mem_of_getElem? (i := 235) rfl)) rfl
set_option maxRecDepth 20000 in
theorem lkX12_91 : LkM RX12 91 (mdX12_streetOf) := tb_in (t6_in (List.mem_of_getElem? (i := 239) rfl)) rfl
set_option maxRecDepth 20000 in
theorem lkL_27 : LkM RL 27 (mdX12_goal) := tb_in (t7_in (List.mem_of_getElem? (i := 3) rfl)) rfl
set_option maxRecDepth 20000 in
theorem lkL_32 : LkM RL 32 (mdX12_teller) := tb_in (t7_in (List.mem_of_getElem? (i := 7) rfl)) rfl
set_option maxRecDepth 20000 in
theorem lkL_36 : LkM RL 36 (mdX12_telling) := tb_in (t7_in (List.mem_of_getElem? (i := 11) rfl)) rfl
set_option maxRecDepth 20000 in
theorem lkX12_103 : LkM RX12 103 (mdX12_isTeller) := tb_in (t7_in (List.mem_of_getElem? (i := 15) rfl)) rfl
set_option maxRecDepth 20000 in
theorem lkX12_106 : LkM RX12 106 (mdX12_take) := tb_in (t7_in (List.mem_of_getElem? (i := 19) rfl)) rfl
set_option maxRecDepth 20000 in
theorem lkX12_100 : LkM RX12 100 (mdX12_isTurn) := tb_in (t7_in (List.mem_of_getElem? (i := 25) rfl)) rfl
set_option maxRecDepth 20000 in
theorem lkX12_109 : LkM RX12 109 (mdX12_tellNow) := tb_in (t7_in (List.mem_of_getElem? (i := 28) rfl)) rfl
set_option maxRecDepth 20000 in
theorem lkL_41 : LkM RL 41 (mdX12_feed) := tb_in (t7_in (List.mem_of_getElem? (i := 32) rfl)) rfl
set_option maxRecDepth 20000 in
theorem lkX12_115 : LkM RX12 115 (mdX12_four) := tb_in (t7_in (List.mem_of_getElem? (i := 36) rfl)) rfl
set_option maxRecDepth 20000 in
theorem lkL_45 : LkM RL 45 (mdX12_end) := tb_in (t7_in (List.mem_of_getElem? (i := 40) rfl)) rfl
set_option maxRecDepth 20000 in
theorem lkL_50 : LkM RL 50 (mdX12_text) := tb_in (t7_in (List.mem_of_getElem? (i := 44) rfl)) rfl
set_option maxRecDepth 20000 in
theorem lkX12_278 : LkM RX12 278 (mdX12_readText) := tb_in (t7_in (List.mem_of_getElem? (i := 48) rfl)) rfl
set_option maxRecDepth 20000 in
theorem lkX12_193 : LkM RX12 193 (mdX12_nextToken) := tb_in (t7_in (List.mem_of_getElem? (i := 52) rfl)) rfl
set_option maxRecDepth 20000 in
theorem lkX12_122 : LkM RX12 122 (mdX12_byteAt) := tb_in (t7_in (List.mem_of_getElem? (i := 56) rfl)) rfl
set_option maxRecDepth 20000 in
theorem lkX12_132 : LkM RX12 132 (mdX12_isFigure) := tb_in (t7_in (List.mem_of_getElem? (i := 60) rfl)) rfl
set_option maxRecDepth 20000 in
theorem lkX12_139 : LkM RX12 139 (mdX12_isLetterByte) := tb_in (t7_in (List.mem_of_getElem? (i := 64) rfl)) rfl
set_option maxRecDepth 20000 in
theorem lkX12_148 : LkM RX12 148 (mdX12_isSign) := tb_in (t7_in (List.mem_of_getElem? (i := 68) rfl)) rfl
set_option maxRecDepth 20000 in
theorem lkX12_275 : LkM RX12 275 (mdX12_clause) := tb_in (t7_in (List.mem_of_getElem? (i := 71) rfl)) rfl
set_option maxRecDepth 20000 in
theorem lkX12_262 : LkM RX12 262 (mdX12_sortOf) := tb_in (t7_in (List.mem_of_getElem? (i := 75) rfl)) rfl
set_option maxRecDepth 20000 in
theorem lkX12_163 : LkM RX12 163 (mdX12_w5) := tb_in (t7_in (List.mem_of_getElem? (i := 79) rfl)) rfl
set_option maxRecDepth 20000 in
theorem lkX12_159 : LkM RX12 159 (mdX12_w4) := tb_in (t7_in (List.mem_of_getElem? (i := 82) rfl)) rfl
set_option maxRecDepth 20000 in
theorem lkX12_155 : LkM RX12 155 (mdX12_w3) := tb_in (t7_in (List.mem_of_getElem? (i := 85) rfl)) rfl
set_option maxRecDepth 20000 in
theorem lkX12_151 : LkM RX12 151 (mdX12_w2) := tb_in (t7_in (List.mem_of_getElem? (i := 88) rfl)) rfl
set_option maxRecDepth 20000 in
theorem lkX12_196 : LkM RX12 196 (mdX12_isWord) := tb_in (t7_in (List.mem_of_getElem? (i := 91) rfl)) rfl
set_option maxRecDepth 20000 in
theorem lkX12_173 : LkM RX12 173 (mdX12_w6) := tb_in (t7_in (List.mem_of_getElem? (i := 95) rfl)) rfl
set_option maxRecDepth 20000 in
theorem lkX12_268 : LkM RX12 268 (mdX12_has) := tb_in (t7_in (List.mem_of_getElem? (i := 98) rfl)) rfl
set_option maxRecDepth 20000 in
theorem lkX12_272 : LkM RX12 272 (mdX12_body) := tb_in (t7_in (List.mem_of_getElem? (i := 101) rfl)) rfl
set_option maxRecDepth 20000 in
theorem lkX12_229 : LkM RX12 229 (mdX12_figure) := tb_in (t7_in (List.mem_of_getElem? (i := 105) rfl)) rfl
set_option maxRecDepth 20000 in
theorem lkX12_247 : LkM RX12 247 (mdX12_streetClause) := tb_in (t7_in (List.mem_of_getElem? (i := 109) rfl)) rfl
set_option maxRecDepth 20000 in
theorem lkX12_233 : LkM RX12 233 (mdX12_worded) := tb_in (t7_in (List.mem_of_getElem? (i := 113) rfl)) rfl
set_option maxRecDepth 20000 in
theorem lkX12_250 : LkM RX12 250 (mdX12_tellingClause) := tb_in (t7_in (List.mem_of_getElem? (i := 117) rfl)) rfl
set_option maxRecDepth 20000 in
theorem lkX12_241 : LkM RX12 241 (mdX12_oneTurn) := tb_in (t7_in (List.mem_of_getElem? (i := 121) rfl)) rfl
set_option maxRecDepth 20000 in
theorem lkX12_237 : LkM RX12 237 (mdX12_sideOf) := tb_in (t7_in (List.mem_of_getElem? (i := 125) rfl)) rfl
set_option maxRecDepth 20000 in
theorem lkX12_253 : LkM RX12 253 (mdX12_startClause) := tb_in (t7_in (List.mem_of_getElem? (i := 129) rfl)) rfl
set_option maxRecDepth 20000 in
theorem lkX12_256 : LkM RX12 256 (mdX12_turnClause) := tb_in (t7_in (List.mem_of_getElem? (i := 133) rfl)) rfl
set_option maxRecDepth 20000 in
theorem lkX12_259 : LkM RX12 259 (mdX12_lawClause) := tb_in (t7_in (List.mem_of_getElem? (i := 137) rfl)) rfl
set_option maxRecDepth 20000 in
theorem lkX12_244 : LkM RX12 244 (mdX12_summed) := tb_in (t7_in (List.mem_of_getElem? (i := 141) rfl)) rfl
set_option maxRecDepth 20000 in
theorem lkX12_223 : LkM RX12 223 (mdX12_behindOne) := tb_in (t7_in (List.mem_of_getElem? (i := 145) rfl)) rfl
set_option maxRecDepth 20000 in
theorem lkX12_183 : LkM RX12 183 (mdX12_rank) := tb_in (t7_in (List.mem_of_getElem? (i := 149) rfl)) rfl
set_option maxRecDepth 20000 in
theorem lkX12_211 : LkM RX12 211 (mdX12_settlePile) := tb_in (t7_in (List.mem_of_getElem? (i := 152) rfl)) rfl
set_option maxRecDepth 20000 in
theorem lkX12_186 : LkM RX12 186 (mdX12_emit) := tb_in (t7_in (List.mem_of_getElem? (i := 156) rfl)) rfl
set_option maxRecDepth 20000 in
theorem lkX12_217 : LkM RX12 217 (mdX12_openAt) := tb_in (t7_in (List.mem_of_getElem? (i := 160) rfl)) rfl
set_option maxRecDepth 20000 in
theorem lkX12_220 : LkM RX12 220 (mdX12_shut) := tb_in (t7_in (List.mem_of_getElem? (i := 164) rfl)) rfl
set_option maxRecDepth 20000 in
theorem lkX12_226 : LkM RX12 226 (mdX12_beginOne) := tb_in (t7_in (List.mem_of_getElem? (i := 168) rfl)) rfl
set_option maxRecDepth 20000 in
theorem lkX12_200 : LkM RX12 200 (mdX12_nameOf) := tb_in (t7_in (List.mem_of_getElem? (i := 172) rfl)) rfl
set_option maxRecDepth 20000 in
theorem lkX12_204 : LkM RX12 204 (mdX12_isOf) := tb_in (t7_in (List.mem_of_getElem? (i := 176) rfl)) rfl
set_option maxRecDepth 20000 in
theorem lkX12_214 : LkM RX12 214 (mdX12_opened) := tb_in (t7_in (List.mem_of_getElem? (i := 180) rfl)) rfl
set_option maxRecDepth 20000 in
theorem lkL_54 : LkM RL 54 (mdX12_fault) := tb_in (t7_in (List.mem_of_getElem? (i := 184) rfl)) rfl
set_option maxRecDepth 20000 in
theorem lkL_58 : LkM RL 58 (mdX12_by) := tb_in (t7_in (List.mem_of_getElem? (i := 188) rfl)) rfl
set_option maxRecDepth 20000 in
theorem lkL_92 : LkM RL 92 (mdX12_undo) := tb_in (t7_in (List.mem_of_getElem? (i := 192) rfl)) rfl
set_option maxRecDepth 20000 in
theorem lkL_63 : LkM RL 63 (mdX12_start) := tb_in (t7_in (List.mem_of_getElem? (i := 196) rfl)) rfl
set_option maxRecDepth 20000 in
theorem lkX12_373 : LkM RX12 373 (mdX12_keep) := tb_in (t7_in (List.mem_of_getElem? (i := 200) rfl)) rfl
set_option maxRecDepth 20000 in
theorem lkX12_376 : LkM RX12 376 (mdX12_startNow) := tb_in (t7_in (List.mem_of_getElem? (i := 204) rfl)) rfl
set_option maxRecDepth 20000 in
theorem lkL_67 : LkM RL 67 (mdX12_walk) := tb_in (t7_in (List.mem_of_getElem? (i := 208) rfl)) rfl
set_option maxRecDepth 20000 in
theorem lkX12_379 : LkM RX12 379 (mdX12_isWalker) := tb_in (t7_in (List.mem_of_getElem? (i := 212) rfl)) rfl
set_option maxRecDepth 20000 in
theorem lkX12_385 : LkM RX12 385 (mdX12_walkable) := tb_in (t7_in (List.mem_of_getElem? (i := 216) rfl)) rfl
set_option maxRecDepth 20000 in
theorem lkX12_388 : LkM RX12 388 (mdX12_walkSo) := tb_in (t7_in (List.mem_of_getElem? (i := 220) rfl)) rfl
set_option maxRecDepth 20000 in
theorem lkX12_382 : LkM RX12 382 (mdX12_walkNow) := tb_in (t7_in (List.mem_of_getElem? (i := 224) rfl)) rfl
set_option maxRecDepth 20000 in
theorem lkX12_345 : LkM RX12 345 (mdX12_paceOf) := tb_in (t7_in (List.mem_of_getElem? (i := 228) rfl)) rfl
set_option maxRecDepth 20000 in
theorem lkX12_315 : LkM RX12 315 (mdX12_isLane) := tb_in (t7_in (List.mem_of_getElem? (i := 232) rfl)) rfl
set_option maxRecDepth 20000 in
theorem lkX12_318 : LkM RX12 318 (mdX12_sightOf) := tb_in (t7_in (List.mem_of_getElem? (i := 236) rfl)) rfl
set_option maxRecDepth 20000 in
theorem lkX12_311 : LkM RX12 311 (mdX12_says) := tb_in (t8_in (List.mem_of_getElem? (i := 0) rfl)) rfl
set_option maxRecDepth 20000 in
theorem lkX12_293 : LkM RX12 293 (mdX12_worked) := tb_in (t8_in (List.mem_of_getElem? (i := 4) rfl)) rfl
set_option maxRecDepth 20000 in
theorem lkX12_289 : LkM RX12 289 (mdX12_two) := tb_in (t8_in (List.mem_of_getElem? (i := 8) rfl)) rfl
set_option maxRecDepth 20000 in
theorem lkX12_285 : LkM RX12 285 (mdX12_held) := tb_in (t8_in (List.mem_of_getElem? (i := 11) rfl)) rfl
set_option maxRecDepth 20000 in
theorem lkL_71 : LkM RL 71 (mdX12_turn) := tb_in (t8_in (List.mem_of_getElem? (i := 16) rfl)) rfl
set_option maxRecDepth 20000 in
theorem lkX12_391 : LkM RX12 391 (mdX12_turned) := tb_in (t8_in (List.mem_of_getElem? (i := 20) rfl)) rfl
set_option maxRecDepth 20000 in
theorem lkL_75 : LkM RL 75 (mdX12_ask) := tb_in (t8_in (List.mem_of_getElem? (i := 23) rfl)) rfl
set_option maxRecDepth 20000 in
theorem lkX12_296 : LkM RX12 296 (mdX12_cornerOf) := tb_in (t8_in (List.mem_of_getElem? (i := 27) rfl)) rfl
set_option maxRecDepth 20000 in
theorem lkX12_397 : LkM RX12 397 (mdX12_askNow) := tb_in (t8_in (List.mem_of_getElem? (i := 31) rfl)) rfl
set_option maxRecDepth 20000 in
theorem lkX12_394 : LkM RX12 394 (mdX12_asksOf) := tb_in (t8_in (List.mem_of_getElem? (i := 35) rfl)) rfl
set_option maxRecDepth 20000 in
theorem lkX12_302 : LkM RX12 302 (mdX12_nameTeller) := tb_in (t8_in (List.mem_of_getElem? (i := 39) rfl)) rfl
set_option maxRecDepth 20000 in
theorem lkL_79 : LkM RL 79 (mdX12_follow) := tb_in (t8_in (List.mem_of_getElem? (i := 43) rfl)) rfl
set_option maxRecDepth 20000 in
theorem lkX12_400 : LkM RX12 400 (mdX12_isTelling) := tb_in (t8_in (List.mem_of_getElem? (i := 47) rfl)) rfl
set_option maxRecDepth 20000 in
theorem lkX12_364 : LkM RX12 364 (mdX12_takeTurns) := tb_in (t8_in (List.mem_of_getElem? (i := 51) rfl)) rfl
set_option maxRecDepth 20000 in
theorem lkX12_305 : LkM RX12 305 (mdX12_turnsOf) := tb_in (t8_in (List.mem_of_getElem? (i := 55) rfl)) rfl
set_option maxRecDepth 20000 in
theorem lkX12_358 : LkM RX12 358 (mdX12_turnAt) := tb_in (t8_in (List.mem_of_getElem? (i := 59) rfl)) rfl
set_option maxRecDepth 20000 in
theorem lkX12_367 : LkM RX12 367 (mdX12_begin) := tb_in (t8_in (List.mem_of_getElem? (i := 63) rfl)) rfl
set_option maxRecDepth 20000 in
theorem lkX12_370 : LkM RX12 370 (mdX12_goAll) := tb_in (t8_in (List.mem_of_getElem? (i := 67) rfl)) rfl
set_option maxRecDepth 20000 in
theorem lkX12_361 : LkM RX12 361 (mdX12_goTurn) := tb_in (t8_in (List.mem_of_getElem? (i := 71) rfl)) rfl
set_option maxRecDepth 20000 in
theorem lkX12_348 : LkM RX12 348 (mdX12_goOn) := tb_in (t8_in (List.mem_of_getElem? (i := 75) rfl)) rfl
set_option maxRecDepth 20000 in
theorem lkX12_342 : LkM RX12 342 (mdX12_isDoubt) := tb_in (t8_in (List.mem_of_getElem? (i := 79) rfl)) rfl
set_option maxRecDepth 20000 in
theorem lkX12_352 : LkM RX12 352 (mdX12_isCounted) := tb_in (t8_in (List.mem_of_getElem? (i := 83) rfl)) rfl
set_option maxRecDepth 20000 in
theorem lkL_83 : LkM RL 83 (mdX12_played) := tb_in (t8_in (List.mem_of_getElem? (i := 87) rfl)) rfl
set_option maxRecDepth 20000 in
theorem lkX12_434 : LkM RX12 434 (mdX12_isPlayed) := tb_in (t8_in (List.mem_of_getElem? (i := 91) rfl)) rfl
set_option maxRecDepth 20000 in
theorem lkX12_403 : LkM RX12 403 (mdX12_corner) := tb_in (t8_in (List.mem_of_getElem? (i := 95) rfl)) rfl
set_option maxRecDepth 20000 in
theorem lkX12_406 : LkM RX12 406 (mdX12_street) := tb_in (t8_in (List.mem_of_getElem? (i := 96) rfl)) rfl
set_option maxRecDepth 20000 in
theorem lkX12_410 : LkM RX12 410 (mdX12_goal) := tb_in (t8_in (List.mem_of_getElem? (i := 97) rfl)) rfl
set_option maxRecDepth 20000 in
theorem lkX12_413 : LkM RX12 413 (mdX12_teller) := tb_in (t8_in (List.mem_of_getElem? (i := 98) rfl)) rfl
set_option maxRecDepth 20000 in
theorem lkX12_416 : LkM RX12 416 (mdX12_isTaught) := tb_in (t8_in (List.mem_of_getElem? (i := 99) rfl)) rfl
set_option maxRecDepth 20000 in
theorem lkX12_419 : LkM RX12 419 (mdX12_start) := tb_in (t8_in (List.mem_of_getElem? (i := 103) rfl)) rfl
set_option maxRecDepth 20000 in
theorem lkX12_422 : LkM RX12 422 (mdX12_isWalked) := tb_in (t8_in (List.mem_of_getElem? (i := 104) rfl)) rfl
set_option maxRecDepth 20000 in
theorem lkX12_425 : LkM RX12 425 (mdX12_turn) := tb_in (t8_in (List.mem_of_getElem? (i := 108) rfl)) rfl
set_option maxRecDepth 20000 in
theorem lkX12_428 : LkM RX12 428 (mdX12_ask) := tb_in (t8_in (List.mem_of_getElem? (i := 109) rfl)) rfl
set_option maxRecDepth 20000 in
theorem lkX12_431 : LkM RX12 431 (mdX12_follow) := tb_in (t8_in (List.mem_of_getElem? (i := 110) rfl)) rfl
set_option maxRecDepth 20000 in
theorem lkL_88 : LkM RL 88 (mdX12_day) := tb_in (t8_in (List.mem_of_getElem? (i := 111) rfl)) rfl
set_option maxRecDepth 20000 in
theorem lkX12_440 : LkM RX12 440 (mdX12_anew) := tb_in (t8_in (List.mem_of_getElem? (i := 115) rfl)) rfl
set_option maxRecDepth 20000 in
theorem lkX12_443 : LkM RX12 443 (mdX12_oneOfDay) := tb_in (t8_in (List.mem_of_getElem? (i := 119) rfl)) rfl
set_option maxRecDepth 20000 in
theorem lkX12_437 : LkM RX12 437 (mdX12_isAhead) := tb_in (t8_in (List.mem_of_getElem? (i := 123) rfl)) rfl
set_option maxRecDepth 20000 in
theorem lkL_96 : LkM RL 96 (mdX12_walker) := tb_in (t8_in (List.mem_of_getElem? (i := 127) rfl)) rfl
set_option maxRecDepth 20000 in
theorem lkL_100 : LkM RL 100 (mdX12_ofCorner) := tb_in (t8_in (List.mem_of_getElem? (i := 131) rfl)) rfl
set_option maxRecDepth 20000 in
theorem lkL_104 : LkM RL 104 (mdX12_ofTeller) := tb_in (t8_in (List.mem_of_getElem? (i := 135) rfl)) rfl
set_option maxRecDepth 20000 in
theorem lkL_108 : LkM RL 108 (mdX12_ofTelling) := tb_in (t8_in (List.mem_of_getElem? (i := 139) rfl)) rfl
set_option maxRecDepth 20000 in
theorem lkX12_446 : LkM RX12 446 (mdX12_slipOf) := tb_in (t8_in (List.mem_of_getElem? (i := 143) rfl)) rfl
set_option maxRecDepth 20000 in
theorem lkX12_299 : LkM RX12 299 (mdX12_tellerOf) := tb_in (t8_in (List.mem_of_getElem? (i := 147) rfl)) rfl
set_option maxRecDepth 20000 in
theorem lkX12_308 : LkM RX12 308 (mdX12_facingOf) := tb_in (t8_in (List.mem_of_getElem? (i := 151) rfl)) rfl
set_option maxRecDepth 20000 in
theorem lkL_112 : LkM RL 112 (mdX12_leads) := tb_in (t8_in (List.mem_of_getElem? (i := 155) rfl)) rfl
set_option maxRecDepth 20000 in
theorem lkX12_449 : LkM RX12 449 (mdX12_leadsOf) := tb_in (t8_in (List.mem_of_getElem? (i := 159) rfl)) rfl
set_option maxRecDepth 20000 in
theorem lkL_116 : LkM RL 116 (mdX12_likely) := tb_in (t8_in (List.mem_of_getElem? (i := 163) rfl)) rfl
set_option maxRecDepth 20000 in
theorem lkX12_455 : LkM RX12 455 (mdX12_findWays) := tb_in (t8_in (List.mem_of_getElem? (i := 167) rfl)) rfl
set_option maxRecDepth 20000 in
theorem lkX12_452 : LkM RX12 452 (mdX12_findWeights) := tb_in (t8_in (List.mem_of_getElem? (i := 171) rfl)) rfl
set_option maxRecDepth 20000 in
theorem lkX12_458 : LkM RX12 458 (mdX12_weightTo) := tb_in (t8_in (List.mem_of_getElem? (i := 175) rfl)) rfl
set_option maxRecDepth 20000 in
theorem lkL_121 : LkM RL 121 (mdX12_byAll) := tb_in (t8_in (List.mem_of_getElem? (i := 179) rfl)) rfl
set_option maxRecDepth 20000 in
theorem lkX12_471 : LkM RX12 471 (mdX12_findProducts) := tb_in (t8_in (List.mem_of_getElem? (i := 183) rfl)) rfl
set_option maxRecDepth 20000 in
theorem lkX12_465 : LkM RX12 465 (mdX12_bits) := tb_in (t8_in (List.mem_of_getElem? (i := 187) rfl)) rfl
set_option maxRecDepth 20000 in
theorem lkX12_476 : LkM RX12 476 (mdX12_part) := tb_in (t8_in (List.mem_of_getElem? (i := 191) rfl)) rfl
set_option maxRecDepth 20000 in
theorem lkX12_461 : LkM RX12 461 (mdX12_common) := tb_in (t8_in (List.mem_of_getElem? (i := 194) rfl)) rfl
set_option maxRecDepth 20000 in
theorem lkL_125 : LkM RL 125 (mdX12_clash) := tb_in (t8_in (List.mem_of_getElem? (i := 197) rfl)) rfl
set_option maxRecDepth 20000 in
theorem lkX12_480 : LkM RX12 480 (mdX12_findLeads) := tb_in (t8_in (List.mem_of_getElem? (i := 201) rfl)) rfl
set_option maxRecDepth 20000 in
theorem lkL_130 : LkM RL 130 (mdX12_wrong) := tb_in (t8_in (List.mem_of_getElem? (i := 205) rfl)) rfl
set_option maxRecDepth 20000 in
theorem lkL_187 : LkM RL 187 (mdX12_heard) := tb_in (t8_in (List.mem_of_getElem? (i := 209) rfl)) rfl
set_option maxRecDepth 20000 in
theorem lkL_183 : LkM RL 183 (mdX12_whose) := tb_in (t8_in (List.mem_of_getElem? (i := 213) rfl)) rfl
set_option maxRecDepth 20000 in
theorem lkL_134 : LkM RL 134 (mdX12_far) := tb_in (t8_in (List.mem_of_getElem? (i := 217) rfl)) rfl
set_option maxRecDepth 20000 in
theorem lkX12_487 : LkM RX12 487 (mdX12_findFar) := tb_in (t8_in (List.mem_of_getElem? (i := 221) rfl)) rfl
set_option maxRecDepth 20000 in
theorem lkX12_484 : LkM RX12 484 (mdX12_nearest) := tb_in (t8_in (List.mem_of_getElem? (i := 226) rfl)) rfl
set_option maxRecDepth 20000 in
theorem lkL_139 : LkM RL 139 (mdX12_see) := tb_in (t8_in (List.mem_of_getElem? (i := 230) rfl)) rfl
set_option maxRecDepth 20000 in
theorem lkX12_503 : LkM RX12 503 (mdX12_findOrder) := tb_in (t8_in (List.mem_of_getElem? (i := 234) rfl)) rfl
set_option maxRecDepth 20000 in
theorem lkX12_496 : LkM RX12 496 (mdX12_timeOf) := tb_in (t8_in (List.mem_of_getElem? (i := 238) rfl)) rfl
set_option maxRecDepth 20000 in
theorem lkX12_500 : LkM RX12 500 (mdX12_nextOrder) := tb_in (t9_in (List.mem_of_getElem? (i := 2) rfl)) rfl
set_option maxRecDepth 20000 in
theorem lkL_143 : LkM RL 143 (mdX12_orAsk) := tb_in (t9_in (List.mem_of_getElem? (i := 6) rfl)) rfl
set_option maxRecDepth 20000 in
theorem lkX12_506 : LkM RX12 506 (mdX12_timeByAsking) := tb_in (t9_in (List.mem_of_getElem? (i := 10) rfl)) rfl
set_option maxRecDepth 20000 in
theorem lkL_148 : LkM RL 148 (mdX12_safeSoFar) := tb_in (t9_in (List.mem_of_getElem? (i := 14) rfl)) rfl
set_option maxRecDepth 20000 in
theorem lkX12_513 : LkM RX12 513 (mdX12_safeOf) := tb_in (t9_in (List.mem_of_getElem? (i := 18) rfl)) rfl
set_option maxRecDepth 20000 in
theorem lkX12_510 : LkM RX12 510 (mdX12_stateOf) := tb_in (t9_in (List.mem_of_getElem? (i := 22) rfl)) rfl
set_option maxRecDepth 20000 in
theorem lkL_152 : LkM RL 152 (mdX12_howFar) := tb_in (t9_in (List.mem_of_getElem? (i := 27) rfl)) rfl
set_option maxRecDepth 20000 in
theorem lkL_156 : LkM RL 156 (mdX12_lost) := tb_in (t9_in (List.mem_of_getElem? (i := 31) rfl)) rfl
set_option maxRecDepth 20000 in
theorem lkL_161 : LkM RL 161 (mdX12_listen) := tb_in (t9_in (List.mem_of_getElem? (i := 35) rfl)) rfl
set_option maxRecDepth 20000 in
theorem lkX12_518 : LkM RX12 518 (mdX12_power) := tb_in (t9_in (List.mem_of_getElem? (i := 39) rfl)) rfl
set_option maxRecDepth 20000 in
theorem lkL_165 : LkM RL 165 (mdX12_tell) := tb_in (t9_in (List.mem_of_getElem? (i := 43) rfl)) rfl
set_option maxRecDepth 20000 in
theorem lkX12_530 : LkM RX12 530 (mdX12_findTelling) := tb_in (t9_in (List.mem_of_getElem? (i := 47) rfl)) rfl
set_option maxRecDepth 20000 in
theorem lkX12_524 : LkM RX12 524 (mdX12_turnOf) := tb_in (t9_in (List.mem_of_getElem? (i := 51) rfl)) rfl
set_option maxRecDepth 20000 in
theorem lkX12_527 : LkM RX12 527 (mdX12_leadsToGoal) := tb_in (t9_in (List.mem_of_getElem? (i := 54) rfl)) rfl
set_option maxRecDepth 20000 in
theorem lkL_169 : LkM RL 169 (mdX12_where) := tb_in (t9_in (List.mem_of_getElem? (i := 58) rfl)) rfl
set_option maxRecDepth 20000 in
theorem lkL_174 : LkM RL 174 (mdX12_map) := tb_in (t9_in (List.mem_of_getElem? (i := 62) rfl)) rfl
set_option maxRecDepth 20000 in
theorem lkL_178 : LkM RL 178 (mdX12_signs) := tb_in (t9_in (List.mem_of_getElem? (i := 66) rfl)) rfl
set_option maxRecDepth 20000 in
theorem lkX12_539 : LkM RX12 539 (mdX12_findShown) := tb_in (t9_in (List.mem_of_getElem? (i := 70) rfl)) rfl
set_option maxRecDepth 20000 in
theorem lkX12_542 : LkM RX12 542 (mdX12_areEnough) := tb_in (t9_in (List.mem_of_getElem? (i := 74) rfl)) rfl
set_option maxRecDepth 20000 in
theorem lkX12_536 : LkM RX12 536 (mdX12_comesToGoal) := tb_in (t9_in (List.mem_of_getElem? (i := 78) rfl)) rfl
set_option maxRecDepth 20000 in
theorem lkX12_533 : LkM RX12 533 (mdX12_directionFrom) := tb_in (t9_in (List.mem_of_getElem? (i := 82) rfl)) rfl
set_option maxRecDepth 20000 in
theorem lkL_191 : LkM RL 191 (mdX12_image) := tb_in (t9_in (List.mem_of_getElem? (i := 86) rfl)) rfl
set_option maxRecDepth 20000 in
theorem lkL_195 : LkM RL 195 (mdX12_back) := tb_in (t9_in (List.mem_of_getElem? (i := 90) rfl)) rfl
set_option maxRecDepth 20000 in
theorem lkL_199 : LkM RL 199 (mdX12_about) := tb_in (t9_in (List.mem_of_getElem? (i := 94) rfl)) rfl
theorem nkX6_81 : ∀ (A : Nat → Prop) (U : State) (H : Heap), Ext A U H → va_Nw (.methodLinkNest RX6 81 (mY mdX11_isDirection) "SecondLeft") U := fun _ _ _ h => h.1.1
theorem nkX6_84 : ∀ (A : Nat → Prop) (U : State) (H : Heap), Ext A U H → va_Nw (.methodLinkNest RX6 84 (mY mdX11_isSlip) "SecondLeft") U := fun _ _ _ h => h.1.2.1
theorem nkX9_39 : ∀ (A : Nat → Prop) (U : State) (H : Heap), Ext A U H → va_Nw (.methodLinkNest RX9 39 (mY mdX11_isDirection) "SecondLeft") U := fun _ _ _ h => h.1.2.2.1
theorem nkX2_57 : ∀ (A : Nat → Prop) (U : State) (H : Heap), Ext A U H → va_Nw (.methodLinkNest RX2 57 (mY mdX11_held) "SecondLeft") U := fun _ _ _ h => h.1.2.2.2
set_option maxRecDepth 20000 in
theorem kcX6_93 : Cond.constant RX6 93 (Int32.ofInt 1000000000) ∈ tblG := tb_in (t2_in (List.mem_of_getElem? (i := 239) rfl)) rfl
set_option maxRecDepth 20000 in
theorem kcX6_94 : Cond.constant RX6 94 (Int32.ofInt 1000000) ∈ tblG := tb_in (t3_in (List.mem_of_getElem? (i := 0) rfl)) rfl
set_option maxRecDepth 20000 in
theorem kcJ6_265 : Cond.constant RJ6 265 (Int32.ofInt 1431655765) ∈ tblG := tb_in (t5_in (List.mem_of_getElem? (i := 62) rfl)) rfl
set_option maxRecDepth 20000 in
theorem kcJ6_266 : Cond.constant RJ6 266 (Int32.ofInt 858993459) ∈ tblG := tb_in (t5_in (List.mem_of_getElem? (i := 63) rfl)) rfl
set_option maxRecDepth 20000 in
theorem kcJ6_267 : Cond.constant RJ6 267 (Int32.ofInt 252645135) ∈ tblG := tb_in (t5_in (List.mem_of_getElem? (i := 64) rfl)) rfl
set_option maxRecDepth 20000 in
theorem kcX3_59 : Cond.constant RX3 59 (Int32.ofInt 65536) ∈ tblG := tb_in (t6_in (List.mem_of_getElem? (i := 31) rfl)) rfl
set_option maxRecDepth 20000 in
theorem kcX12_95 : Cond.constant RX12 95 (Int32.ofInt 999999999) ∈ tblG := tb_in (t7_in (List.mem_of_getElem? (i := 23) rfl)) rfl
set_option maxRecDepth 20000 in
theorem kcX12_96 : Cond.constant RX12 96 (Int32.ofInt 999999) ∈ tblG := tb_in (t7_in (List.mem_of_getElem? (i := 24) rfl)) rfl
set_option maxRecDepth 20000 in
theorem kcX12_138 : Cond.constant RX12 138 (Int32.ofInt 99999) ∈ tblG := tb_in (t7_in (List.mem_of_getElem? (i := 63) rfl)) rfl
set_option maxRecDepth 20000 in
theorem kcX12_483 : Cond.constant RX12 483 (Int32.ofInt 1000000) ∈ tblG := tb_in (t8_in (List.mem_of_getElem? (i := 225) rfl)) rfl
set_option maxRecDepth 20000 in
theorem klX5_45 : Cond.constantLong RX5 45 (Int64.ofInt (-1000000)) ∈ tblG := tb_in (t4_in (List.mem_of_getElem? (i := 75) rfl)) rfl
set_option maxRecDepth 20000 in
theorem klX5_47 : Cond.constantLong RX5 47 (Int64.ofInt 1000000) ∈ tblG := tb_in (t4_in (List.mem_of_getElem? (i := 76) rfl)) rfl
set_option maxRecDepth 20000 in
theorem klX11_239 : Cond.constantLong RX11 239 (Int64.ofInt (-1)) ∈ tblG := tb_in (t5_in (List.mem_of_getElem? (i := 65) rfl)) rfl
set_option maxRecDepth 20000 in
theorem klX7_96 : Cond.constantLong RX7 96 (Int64.ofInt (-1)) ∈ tblG := tb_in (t5_in (List.mem_of_getElem? (i := 141) rfl)) rfl
set_option maxRecDepth 20000 in
theorem klX11_305 : Cond.constantLong RX11 305 (Int64.ofInt 1000) ∈ tblG := tb_in (t5_in (List.mem_of_getElem? (i := 173) rfl)) rfl
set_option maxRecDepth 20000 in
theorem klX11_320 : Cond.constantLong RX11 320 (Int64.ofInt 100) ∈ tblG := tb_in (t5_in (List.mem_of_getElem? (i := 191) rfl)) rfl
set_option maxRecDepth 20000 in
theorem klX12_146 : Cond.constantLong RX12 146 (Int64.ofInt 1152921504606846976) ∈ tblG := tb_in (t7_in (List.mem_of_getElem? (i := 67) rfl)) rfl
set_option maxRecDepth 20000 in
theorem klX12_281 : Cond.constantLong RX12 281 (Int64.ofInt 1000000) ∈ tblG := tb_in (t8_in (List.mem_of_getElem? (i := 14) rfl)) rfl
set_option maxRecDepth 20000 in
theorem klX12_283 : Cond.constantLong RX12 283 (Int64.ofInt (-1000000)) ∈ tblG := tb_in (t8_in (List.mem_of_getElem? (i := 15) rfl)) rfl
set_option maxRecDepth 20000 in
theorem klX12_474 : Cond.constantLong RX12 474 (Int64.ofInt (-1)) ∈ tblG := tb_in (t8_in (List.mem_of_getElem? (i := 190) rfl)) rfl
set_option maxRecDepth 20000 in
theorem klX12_516 : Cond.constantLong RX12 516 (Int64.ofInt 1000) ∈ tblG := tb_in (t9_in (List.mem_of_getElem? (i := 26) rfl)) rfl
set_option maxRecDepth 20000 in
theorem klX12_522 : Cond.constantLong RX12 522 (Int64.ofInt 100) ∈ tblG := tb_in (t9_in (List.mem_of_getElem? (i := 42) rfl)) rfl
end
section
/-! ROWS: switches, copies, things made (written by wip/whole/gen_more.py) -/
set_option maxRecDepth 20000 in
theorem oiX11_1 : Cond.methodLink RX11 1 objectInit ∈ tblG := tb_in (t1_in (List.mem_of_getElem? (i := 27) rfl)) rfl
set_option maxRecDepth 20000 in
theorem oiX6_3 : Cond.methodLink RX6 3 objectInit ∈ tblG := tb_in (t1_in (List.mem_of_getElem? (i := 35) rfl)) rfl
set_option maxRecDepth 20000 in
theorem oiX8_3 : Cond.methodLink RX8 3 objectInit ∈ tblG := tb_in (t1_in (List.mem_of_getElem? (i := 100) rfl)) rfl
set_option maxRecDepth 20000 in
theorem oiX4_3 : Cond.methodLink RX4 3 objectInit ∈ tblG := tb_in (t1_in (List.mem_of_getElem? (i := 124) rfl)) rfl
set_option maxRecDepth 20000 in
theorem oiX2_3 : Cond.methodLink RX2 3 objectInit ∈ tblG := tb_in (t1_in (List.mem_of_getElem? (i := 178) rfl)) rfl
set_option maxRecDepth 20000 in
theorem oiX1_3 : Cond.methodLink RX1 3 objectInit ∈ tblG := tb_in (t1_in (List.mem_of_getElem? (i := 197) rfl)) rfl
set_option maxRecDepth 20000 in
theorem oiX9_3 : Cond.methodLink RX9 3 objectInit ∈ tblG := tb_in (t1_in (List.mem_of_getElem? (i := 230) rfl)) rfl
set_option maxRecDepth 20000 in
theorem oiX10_3 : Cond.methodLink RX10 3 objectInit ∈ tblG := tb_in (t2_in (List.mem_of_getElem? (i := 9) rfl)) rfl
set_option maxRecDepth 20000 in
theorem oiX7_3 : Cond.methodLink RX7 3 objectInit ∈ tblG := tb_in (t2_in (List.mem_of_getElem? (i := 46) rfl)) rfl
set_option maxRecDepth 20000 in
theorem oiX0_3 : Cond.methodLink RX0 3 objectInit ∈ tblG := tb_in (t2_in (List.mem_of_getElem? (i := 89) rfl)) rfl
set_option maxRecDepth 20000 in
theorem oiX3_3 : Cond.methodLink RX3 3 objectInit ∈ tblG := tb_in (t2_in (List.mem_of_getElem? (i := 112) rfl)) rfl
set_option maxRecDepth 20000 in
theorem acJ7_150 : Cond.methodLink RJ7 150 arraycopyName ∈ tblG := tb_in (t3_in (List.mem_of_getElem? (i := 203) rfl)) rfl
set_option maxRecDepth 20000 in
theorem oiX5_3 : Cond.methodLink RX5 3 objectInit ∈ tblG := tb_in (t3_in (List.mem_of_getElem? (i := 209) rfl)) rfl
set_option maxRecDepth 20000 in
theorem acX8_18 : Cond.methodLink RX8 18 arraycopyName ∈ tblG := tb_in (t4_in (List.mem_of_getElem? (i := 12) rfl)) rfl
set_option maxRecDepth 20000 in
theorem acX7_110 : Cond.methodLink RX7 110 arraycopyName ∈ tblG := tb_in (t5_in (List.mem_of_getElem? (i := 146) rfl)) rfl
set_option maxRecDepth 20000 in
theorem acX6_46 : Cond.methodLink RX6 46 arraycopyName ∈ tblG := tb_in (t6_in (List.mem_of_getElem? (i := 59) rfl)) rfl
set_option maxRecDepth 20000 in
theorem oiX12_1 : Cond.methodLink RX12 1 objectInit ∈ tblG := tb_in (t6_in (List.mem_of_getElem? (i := 77) rfl)) rfl
set_option maxRecDepth 20000 in
theorem ac_nat : Cond.native arraycopyName ∈ tblG := tb_in (t3_in (List.mem_of_getElem? (i := 205) rfl)) rfl
set_option maxRecDepth 20000 in
theorem ac_st : Cond.static arraycopyName ∈ tblG := tb_in (t3_in (List.mem_of_getElem? (i := 204) rfl)) rfl
set_option maxRecDepth 20000 in
theorem ac_ini : Cond.initialized "java/lang/System" ∈ tblG := tb_in (t1_in (List.mem_of_getElem? (i := 20) rfl)) rfl
set_option maxRecDepth 20000 in
theorem oi_in : Cond.instanceMethod objectInit ∈ tblG := tb_in (t1_in (List.mem_of_getElem? (i := 28) rfl)) rfl
set_option maxRecDepth 20000 in
theorem oi_code : Cond.code objectInit ⟨#[0xb1]⟩ 1 none ∈ tblG := tb_in (t1_in (List.mem_of_getElem? (i := 29) rfl)) rfl
set_option maxRecDepth 20000 in
theorem ay_I : Cond.arrayClass .int ∈ tblG := tb_in (t1_in (List.mem_of_getElem? (i := 94) rfl)) rfl
set_option maxRecDepth 20000 in
theorem ay_J : Cond.arrayClass .long ∈ tblG := tb_in (t2_in (List.mem_of_getElem? (i := 40) rfl)) rfl
set_option maxRecDepth 20000 in
theorem ay_Z : Cond.arrayClass .boolean ∈ tblG := tb_in (t6_in (List.mem_of_getElem? (i := 223) rfl)) rfl
set_option maxRecDepth 20000 in
theorem clL_7 : Cond.classLink RL 7 RX11 ∈ tblG := tb_in (t1_in (List.mem_of_getElem? (i := 22) rfl)) rfl
set_option maxRecDepth 20000 in
theorem clX11_7 : Cond.classLink RX11 7 RX6 ∈ tblG := tb_in (t1_in (List.mem_of_getElem? (i := 30) rfl)) rfl
set_option maxRecDepth 20000 in
theorem clX6_27 : Cond.classLink RX6 27 RX5 ∈ tblG := tb_in (t1_in (List.mem_of_getElem? (i := 36) rfl)) rfl
set_option maxRecDepth 20000 in
theorem clX11_19 : Cond.classLink RX11 19 RX8 ∈ tblG := tb_in (t1_in (List.mem_of_getElem? (i := 95) rfl)) rfl
set_option maxRecDepth 20000 in
theorem clX11_33 : Cond.classLink RX11 33 RX4 ∈ tblG := tb_in (t1_in (List.mem_of_getElem? (i := 119) rfl)) rfl
set_option maxRecDepth 20000 in
theorem clX11_42 : Cond.classLink RX11 42 RX2 ∈ tblG := tb_in (t1_in (List.mem_of_getElem? (i := 173) rfl)) rfl
set_option maxRecDepth 20000 in
theorem clX11_51 : Cond.classLink RX11 51 RX1 ∈ tblG := tb_in (t1_in (List.mem_of_getElem? (i := 192) rfl)) rfl
set_option maxRecDepth 20000 in
theorem clX11_60 : Cond.classLink RX11 60 RX9 ∈ tblG := tb_in (t1_in (List.mem_of_getElem? (i := 225) rfl)) rfl
set_option maxRecDepth 20000 in
theorem clX11_69 : Cond.classLink RX11 69 RX10 ∈ tblG := tb_in (t2_in (List.mem_of_getElem? (i := 4) rfl)) rfl
set_option maxRecDepth 20000 in
theorem clX11_78 : Cond.classLink RX11 78 RX7 ∈ tblG := tb_in (t2_in (List.mem_of_getElem? (i := 41) rfl)) rfl
set_option maxRecDepth 20000 in
theorem clX11_87 : Cond.classLink RX11 87 RX0 ∈ tblG := tb_in (t2_in (List.mem_of_getElem? (i := 84) rfl)) rfl
set_option maxRecDepth 20000 in
theorem clX11_96 : Cond.classLink RX11 96 RX3 ∈ tblG := tb_in (t2_in (List.mem_of_getElem? (i := 107) rfl)) rfl
set_option maxRecDepth 20000 in
theorem clX4_75 : Cond.classLink RX4 75 RX5 ∈ tblG := tb_in (t3_in (List.mem_of_getElem? (i := 190) rfl)) rfl
set_option maxRecDepth 20000 in
theorem clL_10 : Cond.classLink RL 10 RX12 ∈ tblG := tb_in (t6_in (List.mem_of_getElem? (i := 72) rfl)) rfl
set_option maxRecDepth 20000 in
theorem iaX11 : Cond.instantiable RX11 16 ∈ tblG := tb_in (t1_in (List.mem_of_getElem? (i := 23) rfl)) rfl
set_option maxRecDepth 20000 in
theorem iiX11 : Cond.initialized RX11 ∈ tblG := tb_in (t1_in (List.mem_of_getElem? (i := 1) rfl)) rfl
set_option maxRecDepth 20000 in
theorem iaX6 : Cond.instantiable RX6 12 ∈ tblG := tb_in (t1_in (List.mem_of_getElem? (i := 31) rfl)) rfl
set_option maxRecDepth 20000 in
theorem iiX6 : Cond.initialized RX6 ∈ tblG := tb_in (t1_in (List.mem_of_getElem? (i := 2) rfl)) rfl
set_option maxRecDepth 20000 in
theorem iaX8 : Cond.instantiable RX8 4 ∈ tblG := tb_in (t1_in (List.mem_of_getElem? (i := 96) rfl)) rfl
set_option maxRecDepth 20000 in
theorem iiX8 : Cond.initialized RX8 ∈ tblG := tb_in (t1_in (List.mem_of_getElem? (i := 4) rfl)) rfl
set_option maxRecDepth 20000 in
theorem iaX4 : Cond.instantiable RX4 15 ∈ tblG := tb_in (t1_in (List.mem_of_getElem? (i := 120) rfl)) rfl
set_option maxRecDepth 20000 in
theorem iiX4 : Cond.initialized RX4 ∈ tblG := tb_in (t1_in (List.mem_of_getElem? (i := 5) rfl)) rfl
set_option maxRecDepth 20000 in
theorem iaX2 : Cond.instantiable RX2 4 ∈ tblG := tb_in (t1_in (List.mem_of_getElem? (i := 174) rfl)) rfl
set_option maxRecDepth 20000 in
theorem iiX2 : Cond.initialized RX2 ∈ tblG := tb_in (t1_in (List.mem_of_getElem? (i := 6) rfl)) rfl
set_option maxRecDepth 20000 in
theorem iaX1 : Cond.instantiable RX1 5 ∈ tblG := tb_in (t1_in (List.mem_of_getElem? (i := 193) rfl)) rfl
set_option maxRecDepth 20000 in
theorem iiX1 : Cond.initialized RX1 ∈ tblG := tb_in (t1_in (List.mem_of_getElem? (i := 7) rfl)) rfl
set_option maxRecDepth 20000 in
theorem iaX9 : Cond.instantiable RX9 4 ∈ tblG := tb_in (t1_in (List.mem_of_getElem? (i := 226) rfl)) rfl
set_option maxRecDepth 20000 in
theorem iiX9 : Cond.initialized RX9 ∈ tblG := tb_in (t1_in (List.mem_of_getElem? (i := 8) rfl)) rfl
set_option maxRecDepth 20000 in
theorem iaX10 : Cond.instantiable RX10 8 ∈ tblG := tb_in (t2_in (List.mem_of_getElem? (i := 5) rfl)) rfl
set_option maxRecDepth 20000 in
theorem iiX10 : Cond.initialized RX10 ∈ tblG := tb_in (t1_in (List.mem_of_getElem? (i := 9) rfl)) rfl
set_option maxRecDepth 20000 in
theorem iaX7 : Cond.instantiable RX7 11 ∈ tblG := tb_in (t2_in (List.mem_of_getElem? (i := 42) rfl)) rfl
set_option maxRecDepth 20000 in
theorem iiX7 : Cond.initialized RX7 ∈ tblG := tb_in (t1_in (List.mem_of_getElem? (i := 10) rfl)) rfl
set_option maxRecDepth 20000 in
theorem iaX0 : Cond.instantiable RX0 5 ∈ tblG := tb_in (t2_in (List.mem_of_getElem? (i := 85) rfl)) rfl
set_option maxRecDepth 20000 in
theorem iiX0 : Cond.initialized RX0 ∈ tblG := tb_in (t1_in (List.mem_of_getElem? (i := 11) rfl)) rfl
set_option maxRecDepth 20000 in
theorem iaX3 : Cond.instantiable RX3 6 ∈ tblG := tb_in (t2_in (List.mem_of_getElem? (i := 108) rfl)) rfl
set_option maxRecDepth 20000 in
theorem iiX3 : Cond.initialized RX3 ∈ tblG := tb_in (t1_in (List.mem_of_getElem? (i := 12) rfl)) rfl
set_option maxRecDepth 20000 in
theorem iaX5 : Cond.instantiable RX5 4 ∈ tblG := tb_in (t3_in (List.mem_of_getElem? (i := 191) rfl)) rfl
set_option maxRecDepth 20000 in
theorem iiX5 : Cond.initialized RX5 ∈ tblG := tb_in (t1_in (List.mem_of_getElem? (i := 19) rfl)) rfl
set_option maxRecDepth 20000 in
theorem iaX12 : Cond.instantiable RX12 47 ∈ tblG := tb_in (t6_in (List.mem_of_getElem? (i := 73) rfl)) rfl
set_option maxRecDepth 20000 in
theorem iiX12 : Cond.initialized RX12 ∈ tblG := tb_in (t1_in (List.mem_of_getElem? (i := 13) rfl)) rfl
/-- a copy of ints from one row to another -/
def cpI (M : Mem) (k2 k1 dp sp n : Nat) : Mem := (M.1, fun a b => if a = k2 ∧ dp ≤ b ∧ b < dp + n then mI M k1 (sp + (b - dp)) else mI M a b, M.2.2)
theorem mI_cpI (M : Mem) (k2 k1 dp sp n a b : Nat) : mI (cpI M k2 k1 dp sp n) a b = if a = k2 ∧ dp ≤ b ∧ b < dp + n then mI M k1 (sp + (b - dp)) else mI M a b := rfl
theorem okM_cpI {M : Mem} {k2 k1 dp sp n : Nat} (h : okM M) : okM (cpI M k2 k1 dp sp n) := by
  intro a b
  refine ⟨?_, (h a b).2.1, (h a b).2.2⟩
  rw [mI_cpI]
  split
  · exact (h _ _).1
  · exact (h a b).1
/-- a new cell at the end, empty -/
def mkC (M : Mem) (sh : Sh) : Mem := (M.1 ++ [sh], fun a b => if a = M.1.length then 0 else mI M a b, fun a b => if a = M.1.length then 0 else mJ M a b, fun a b => if a = M.1.length then none else mR M a b)
theorem mI_mkC (M : Mem) (sh : Sh) (a b : Nat) : mI (mkC M sh) a b = if a = M.1.length then 0 else mI M a b := rfl
theorem mJ_mkC (M : Mem) (sh : Sh) (a b : Nat) : mJ (mkC M sh) a b = if a = M.1.length then 0 else mJ M a b := rfl
theorem mR_mkC (M : Mem) (sh : Sh) (a b : Nat) : mR (mkC M sh) a b = if a = M.1.length then none else mR M a b := rfl
theorem mkC_len (M : Mem) (sh : Sh) : (mkC M sh).1.length = M.1.length + 1 := by show (M.1 ++ [sh]).length = _; simp
theorem okM_mkC {M : Mem} {sh : Sh} (h : okM M) : okM (mkC M sh) := by
  intro a b
  rw [mI_mkC, mJ_mkC, mR_mkC, mkC_len]
  by_cases e : a = M.1.length
  · rw [if_pos e, if_pos e, if_pos e]
    exact ⟨inI_0, ⟨by decide, by decide⟩, fun r hr => by cases hr⟩
  · rw [if_neg e, if_neg e, if_neg e]
    exact ⟨(h a b).1, (h a b).2.1, fun r hr => Nat.lt_succ_of_lt ((h a b).2.2 r hr)⟩
theorem map_ext {ad ad' : Nat → Nat} {n : Nat} {r : Option Nat} (hr : ∀ x, r = some x → x < n) (h : ∀ k, k < n → ad' k = ad k) : r.map ad' = r.map ad := by
  cases r with
  | none => rfl
  | some x => show some _ = some _; rw [h x (hr x rfl)]
theorem cellW_ext {dA : Nat → ClassId} {ad ad' : Nat → Nat} {M M' : Mem} {k n : Nat} (h1 : ∀ j, mI M' k j = mI M k j) (h2 : ∀ j, mJ M' k j = mJ M k j) (h3 : ∀ j, mR M' k j = mR M k j) (hr : ∀ j x, mR M k j = some x → x < n) (h : ∀ k, k < n → ad' k = ad k) (sh : Sh) : cellW dA ad' M' k sh = cellW dA ad M k sh := by
  have e : ∀ j, (mR M' k j).map ad' = (mR M k j).map ad := fun j => by rw [h3 j]; exact map_ext (hr j) h
  rcases sh with ci | ⟨t, q⟩
  · show Sum.inr (ci, flC ad' M' k ci) = Sum.inr (ci, flC ad M k ci)
    unfold flC
    rw [List.map_congr_left (fun j _ => (by unfold fV; rw [h1 j, h2 j, e j] : fV ad' M' k j (tyC ci j) = fV ad M k j (tyC ci j)))]
  · show Sum.inl (dA t, q, arA ad' M' k t) = Sum.inl (dA t, q, arA ad M k t)
    unfold arA
    simp only [h1, h2, e]
theorem wld_mkC {dA : Nat → ClassId} {ad : Nat → Nat} {M : Mem} {sh : Sh} {q : Nat} {e : va_E} (h : okM M) (he : cellW dA (va_up ad M.1.length q) (mkC M sh) M.1.length sh = e) : wld dA (va_up ad M.1.length q) (mkC M sh) = wld dA ad M ++ [(q, e)] := by
  apply List.ext_getElem?
  intro i
  by_cases hi : i < M.1.length
  · rw [List.getElem?_append_left (by rw [wld_len]; exact hi)]
    have hs : M.1[i]? = some M.1[i] := List.getElem?_eq_getElem hi
    have hs2 : (mkC M sh).1[i]? = some M.1[i] := by show (M.1 ++ [sh])[i]? = _; rw [List.getElem?_append_left hi]; exact hs
    have hne : ¬ i = M.1.length := by omega
    rw [wld_at hs, wld_at hs2]
    rw [cellW_ext (M := M) (n := M.1.length) (fun j => by rw [mI_mkC, if_neg hne]) (fun j => by rw [mJ_mkC, if_neg hne]) (fun j => by rw [mR_mkC, if_neg hne]) (fun j x hx => (h i j).2.2 x hx) (fun k hk => by unfold va_up; rw [if_neg (by omega)])]
    unfold va_up
    rw [if_neg hne]
  · rw [List.getElem?_append_right (by rw [wld_len]; omega), wld_len]
    by_cases hi2 : i = M.1.length
    · subst hi2
      have hs2 : (mkC M sh).1[M.1.length]? = some sh := by show (M.1 ++ [sh])[M.1.length]? = _; simp
      rw [wld_at hs2, he, Nat.sub_self]
      unfold va_up
      rw [if_pos rfl]
      rfl
    · rw [List.getElem?_eq_none (by rw [wld_len, mkC_len]; omega), List.getElem?_eq_none (by simp; omega)]
theorem okS_mk {S S' : List Sh} (h : S.length ≤ S'.length) {st : List AV} (hst : okS S st) : okS S' st := fun v hv => by
  have := hst v hv
  rcases v with x | x | q
  · exact this
  · exact this
  · cases q with
    | none => trivial
    | some k => exact Nat.lt_of_lt_of_le this h
theorem okL_mk {S S' : List Sh} (h : S.length ≤ S'.length) {L : List (Option AV)} (hL : okL S L) : okL S' L := fun i v hv => by
  have := hL i v hv
  rcases v with x | x | q
  · exact this
  · exact this
  · cases q with
    | none => trivial
    | some k => exact Nat.lt_of_lt_of_le this h
theorem vcl_kinds (ci j : Nat) (q : vw_C) (h : vwCl[ci]? = some q) (hj : j < q.2.2) : kindT (tyC ci j) ≠ 4 := by
  have key : ∀ c, c < 13 → ∀ j, j < 47 → kindT (tyC c j) ≠ 4 := by decide +kernel
  have h1 : ci < 13 := (List.getElem?_eq_some_iff.mp h).1
  have h2 : q.2.2 ≤ 47 := by
    have key2 : ∀ r ∈ vwCl, r.2.2 ≤ 47 := by decide
    exact key2 q (List.mem_of_getElem? h)
  exact key ci h1 j (by omega)
section VCM
variable {l : Launch} {D : MD} {pc pc' tgt : Nat} {L L' : List (Option AV)} {st : List AV} {M : Mem} {kc ks : Nat} {Q : Option AV → Mem → Prop}
theorem vc_tabOut {x dflt lo hi : Int} {offs : Array Int} {len : Nat} (hd : At (mB D) pc (.tableswitch dflt lo hi offs) len pc') (h : x < lo ∨ hi < x) (ht : (pc : Int) + dflt = (tgt : Int)) (k : VC l D tgt L st M kc ks Q) : VC l D pc L (aI x :: st) M kc ks Q := by
  intro p e s m args below meth c dC dI dA ad0 n0 A ad H locs ls C hA h0 hn hst hL hW hS hl
  obtain ⟨hx, hst⟩ := okS_cons.mp hst
  exact lv_tableOut C.1 C.2.1 hd.1 (by rw [oI_id hx]; exact h) ht (k p e s m args below meth c dC dI dA ad0 n0 A ad H locs ls C hA h0 hn hst hL hW hS hl)
theorem vc_tabIn {x dflt lo hi off : Int} {offs : Array Int} {len : Nat} (v : Int) (hd : At (mB D) pc (.tableswitch dflt lo hi offs) len pc') (hv : x = v) (h1 : (decide (lo ≤ v) && decide (v ≤ hi)) = true) (ho : offs[(v - lo).toNat]? = some off) (ht : (pc : Int) + off = (tgt : Int)) (k : VC l D tgt L st M kc ks Q) : VC l D pc L (aI x :: st) M kc ks Q := by
  subst hv
  simp only [Bool.and_eq_true, decide_eq_true_eq] at h1
  intro p e s m args below meth c dC dI dA ad0 n0 A ad H locs ls C hA h0 hn hst hL hW hS hl
  obtain ⟨hx, hst⟩ := okS_cons.mp hst
  exact lv_tableIn C.1 C.2.1 hd.1 (by rw [oI_id hx]; omega) (by rw [oI_id hx]; omega) (by rw [oI_id hx]; exact ho) ht (k p e s m args below meth c dC dI dA ad0 n0 A ad H locs ls C hA h0 hn hst hL hW hS hl)
theorem vc_acopy {idx k1 k2 n1 n2 : Nat} {sp dp n : Int} (hlk : Cond.methodLink (mY D).cls idx arraycopyName ∈ tblG) (hs1 : M.1[k1]? = some (.inr (0, n1))) (hs2 : M.1[k2]? = some (.inr (0, n2))) (h1 : 0 ≤ sp) (h2 : 0 ≤ dp) (h3 : 0 ≤ n) (h4 : sp + n ≤ n1) (h5 : dp + n ≤ n2) (hsum : (st.map catA).sum ≤ 8) (hd : At (mB D) pc (.invokestatic idx) 3 pc') (k : VC l D pc' L st (cpI M k2 k1 dp.toNat sp.toNat n.toNat) kc ks Q) : VC l D pc L (aI n :: aI dp :: aR k2 :: aI sp :: aR k1 :: st) M kc ks Q := by
  intro p e s m args below meth c dC dI dA ad0 n0 A ad H locs ls C hA h0 hn hst hL hW hS hl
  obtain ⟨hd, rfl⟩ := hd
  obtain ⟨hx3, hst⟩ := okS_cons.mp hst
  obtain ⟨hx2, hst⟩ := okS_cons.mp hst
  obtain ⟨_, hst⟩ := okS_cons.mp hst
  obtain ⟨hx1, hst⟩ := okS_cons.mp hst
  obtain ⟨_, hst⟩ := okS_cons.mp hst
  have hts := C.2.2.2.2.2.2.1
  refine va_copyi (sp := Int32.ofInt sp) (dp := Int32.ofInt dp) (n := Int32.ofInt n) C.1 C.2.1 (by rw [C.2.2.2.2.1]; exact hl.1.symm) C.2.2.2.2.2.1 (hts _ hlk) (hts _ ac_nat) (hts _ ac_st) (hts _ ac_ini) C.2.2.2.2.2.2.2.1 hW.2.1 hW.2.2 hS k1 k2 0 0 (wld_at hs1) (wld_at hs2) rfl rfl rfl (fun h => by rw [oI_0, oI_lt hx1 inI_0] at h; omega) (fun h => by rw [oI_0, oI_lt hx2 inI_0] at h; omega) (fun h => by rw [oI_0, oI_lt hx3 inI_0] at h; omega) ?_ ?_ (fun _ _ => rfl) (Nat.succ_le_succ (Nat.zero_le _)) ?_ hd ?_
  · rw [oI_nat hx1 h1, oI_nat hx3 h3]; omega
  · rw [oI_nat hx2 h2, oI_nat hx3 h3]; omega
  · rw [cat_sum]
    have : nativeFrameWords "java/lang/System" "arraycopy" 5 ≤ 20 := by decide +kernel
    show _ ≤ 64 * mV D + 64
    omega
  · rw [oI_nat hx1 h1, oI_nat hx2 h2, oI_nat hx3 h3]
    intro H1 locs1 hP1 hD1 hS1
    have ew : wld dA ad (cpI M k2 k1 dp.toNat sp.toNat n.toNat) = (wld dA ad M).set k2 (ad k2, .inl (dA 0, n2, .inl (va_cpy (fun i => Int32.ofInt (mI M k1 i)) (fun i => Int32.ofInt (mI M k2 i)) sp.toNat dp.toNat n.toNat))) := by
      refine wld_upd rfl hs2 (fun a b h => by rw [mI_cpI, if_neg (fun q => h q.1)]) (fun _ _ _ => rfl) (fun _ _ _ => rfl) ?_
      show Sum.inl (dA 0, n2, Sum.inl (fun i => Int32.ofInt (mI (cpI M k2 k1 dp.toNat sp.toNat n.toNat) k2 i))) = _
      congr 4
      funext i
      unfold va_cpy
      rw [mI_cpI]
      by_cases h : dp.toNat ≤ i ∧ i < dp.toNat + n.toNat
      · rw [if_pos ⟨rfl, h⟩, if_pos h]
      · rw [if_neg (fun q => h q.2), if_neg h]
    rw [← ew] at hP1 hD1
    exact k p e s m args below meth c dC dI dA ad0 n0 A ad H1 locs1 ls C hA h0 hn hst hL ⟨okM_cpI hW.1, hP1, hD1⟩ hS1 hl
theorem vc_objInit {idx k : Nat} (hlk : Cond.methodLink (mY D).cls idx objectInit ∈ tblG) (hsum : (st.map catA).sum ≤ 8) (hd : At (mB D) pc (.invokespecial idx) 3 pc') (kk : VC l D pc' L st M kc ks Q) : VC l D pc L (aR k :: st) M kc ks Q := by
  intro p e s m args below meth c dC dI dA ad0 n0 A ad H locs ls C hA h0 hn hst hL hW hS hl
  obtain ⟨hd, rfl⟩ := hd
  obtain ⟨_, hst⟩ := okS_cons.mp hst
  have hts := C.2.2.2.2.2.2.1
  refine W.objInit (g := F0 m pc ls ((aR k :: st).map (aV ad))) (rest := st.map (aV ad)) C.1 C.2.1 C.2.2.2.2.2.1 (hts _ hlk) (hts _ oi_in) (hts _ oi_code) rfl (hl.1.trans C.2.2.2.2.1.symm) rfl hd (Nat.succ_le_succ (Nat.zero_le _)) ?_ (kk p e s m args below meth c dC dI dA ad0 n0 A ad H locs ls C hA h0 hn hst hL hW hS hl)
  have h1 := lv_room (m := m) (pc := pc) (ls := ls) (rest := (aR k :: st).map (aV ad)) (st := st.map (aV ad)) (by rw [cat_sum]; exact hsum)
  show _ ≤ 64 * mV D + 64
  omega
theorem vc_new {idx ci : Nat} {CC : String} {T : u_T} {N : Nat} (hci : vwCl[ci]? = some (CC, T, N)) (hlk : Cond.classLink (mY D).cls idx CC ∈ tblG) (hins : Cond.instantiable CC N ∈ tblG) (hini : Cond.initialized CC ∈ tblG) (h1 : kc + 1 ≤ mC D) (h2 : ks + N ≤ mS D) (hd : At (mB D) pc (.new idx) 3 pc') (kk : VC l D pc' L (aR M.1.length :: st) (mkC M (.inl ci)) (kc + 1) (ks + N) Q) : VC l D pc L st M kc ks Q := by
  intro p e s m args below meth c dC dI dA ad0 n0 A ad H locs ls C hA h0 hn hst hL hW hS hl
  obtain ⟨hd, rfl⟩ := hd
  obtain ⟨c1, c2, c3, c4⟩ := clsOk ci _ hci
  have hts := C.2.2.2.2.2.2.1
  refine va_new (ci := ci) (fs := flC (va_up ad M.1.length 0) (mkC M (.inl ci)) M.1.length ci) C.1 C.2.1 hts c1 (tyC ci) c2 C.2.2.2.2.2.1 (hts _ hlk) (hts _ hins) (hts _ hini) C.2.2.2.2.2.2.2.1 hW.2.1 hW.2.2 hS hA hci ?_ h1 h2 hd ?_
  · intro j hj
    unfold vp_V
    rw [List.getD_eq_getElem?_getD, flC_at (by rw [c3]; exact hj)]
    show _ = fV _ _ _ _ _
    unfold fV
    rw [mI_mkC, mJ_mkC, mR_mkC, if_pos rfl, if_pos rfl, if_pos rfl]
    have hty : ∀ t : FieldType, parseFieldDescriptor (T j).2.2.1 = some t → t = tyC ci j := fun t ht => Option.some.inj (ht.symm.trans (c2 j hj))
    have hk : kindT (tyC ci j) ≠ 4 := vcl_kinds ci j _ hci hj
    cases hh : tyC ci j <;> first | rfl | (rw [hh] at hk; exact absurd rfl hk)
  · intro q H1 hP1 hD1 hS1
    have ec : cellW dA (va_up ad M.1.length q) (mkC M (.inl ci)) M.1.length (.inl ci) = .inr (ci, flC (va_up ad M.1.length 0) (mkC M (.inl ci)) M.1.length ci) := by
      show Sum.inr (ci, flC (va_up ad M.1.length q) (mkC M (.inl ci)) M.1.length ci) = _
      unfold flC
      rw [List.map_congr_left (fun j _ => (by unfold fV; rw [mR_mkC, if_pos rfl]; rfl : fV (va_up ad M.1.length q) (mkC M (.inl ci)) M.1.length j (tyC ci j) = fV (va_up ad M.1.length 0) (mkC M (.inl ci)) M.1.length j (tyC ci j)))]
    rw [← wld_mkC hW.1 ec] at hP1 hD1
    have hext : ∀ k, k < M.1.length → va_up ad M.1.length q k = ad k := fun k hk => by unfold va_up; rw [if_neg (by omega)]
    have hlen : M.1.length ≤ (mkC M (.inl ci)).1.length := by rw [mkC_len]; omega
    have k2 := kk p e s m args below meth c dC dI dA ad0 n0 A (va_up ad M.1.length q) H1 locs ls C hA (fun k hk => (hext k (by omega)).trans (h0 k hk)) (Nat.le_trans hn hlen) (okS_cons.mpr ⟨(by show M.1.length < (mkC M (.inl ci)).1.length; rw [mkC_len]; omega), okS_mk hlen hst⟩) (okL_mk hlen hL) ⟨okM_mkC hW.1, hP1, hD1⟩ hS1 (lvL_ext hL hext hl)
    have es : (aR M.1.length :: st).map (aV (va_up ad M.1.length q)) = .ref q :: st.map (aV ad) := by
      rw [List.map_cons, stk_ext hst hext]
      show Value.ref (va_up ad M.1.length q M.1.length) :: _ = _
      unfold va_up
      rw [if_pos rfl]
    rw [es] at k2
    exact k2
theorem arr_cls0 {dC : Nat → ClassId} {dI : Nat → Nat → Nat} {dA : Nat → ClassId} {s : State} {cA : ClassId} (h : va_K (dC, dI) vwCl (tysA dA ++ [(cA, .int)]) s) : cA = dA 0 := by
  have h1 : s.vm.findClass ("[" ++ (FieldType.toString .int)) = some cA := (h.2 4 (cA, .int) rfl).2
  have h2 : s.vm.findClass ("[" ++ (FieldType.toString .int)) = some (dA 0) := (h.2 0 (dA 0, .int) rfl).2
  exact Option.some.inj (h1.symm.trans h2)
theorem arr_cls1 {dC : Nat → ClassId} {dI : Nat → Nat → Nat} {dA : Nat → ClassId} {s : State} {cA : ClassId} (h : va_K (dC, dI) vwCl (tysA dA ++ [(cA, .long)]) s) : cA = dA 1 := by
  have h1 : s.vm.findClass ("[" ++ (FieldType.toString .long)) = some cA := (h.2 4 (cA, .long) rfl).2
  have h2 : s.vm.findClass ("[" ++ (FieldType.toString .long)) = some (dA 1) := (h.2 1 (dA 1, .long) rfl).2
  exact Option.some.inj (h1.symm.trans h2)
theorem arr_cls2 {dC : Nat → ClassId} {dI : Nat → Nat → Nat} {dA : Nat → ClassId} {s : State} {cA : ClassId} (h : va_K (dC, dI) vwCl (tysA dA ++ [(cA, .boolean)]) s) : cA = dA 2 := by
  have h1 : s.vm.findClass ("[" ++ (FieldType.toString .boolean)) = some cA := (h.2 4 (cA, .boolean) rfl).2
  have h2 : s.vm.findClass ("[" ++ (FieldType.toString .boolean)) = some (dA 2) := (h.2 2 (dA 2, .boolean) rfl).2
  exact Option.some.inj (h1.symm.trans h2)
theorem arr_clsT {dC : Nat → ClassId} {dI : Nat → Nat → Nat} {dA : Nat → ClassId} {s : State} {cA : ClassId} (h : va_K (dC, dI) vwCl (tysA dA ++ [(cA, tyA 3)]) s) : cA = dA 3 := by
  obtain ⟨_, _, _, _, _, h1⟩ := (h.2 4 (cA, tyA 3) rfl).2
  obtain ⟨_, _, _, _, _, h2⟩ := (h.2 3 (dA 3, tyA 3) rfl).2
  exact Option.some.inj (h1.symm.trans h2)
/-- behind the making of a row -/
theorem mk_row {t N : Nat} {p : Program} {e : Env} {s : State} {m : MethodId} {args : Array Value} {below : List Frame} {meth : Method} {c : Code} {dC : Nat → ClassId} {dI : Nat → Nat → Nat} {dA : Nat → ClassId} {ad0 : Nat → Nat} {n0 : Nat} {A : Nat → Prop} {ad : Nat → Nat} {H H1 : Heap} {locs : List Loc} {ls : Array Slot} {q kc2 ks2 : Nat} {a0 : (Nat → Int32) ⊕ (Nat → Int64) ⊕ (Nat → UInt32) ⊕ (Nat → UInt64) ⊕ (Nat → Option Nat)}
    (C : Cx D p s m args meth c dC dI dA A) (hA : ∀ q, s.heap.size ≤ q → A q) (h0 : ∀ k, k < n0 → ad k = ad0 k) (hn : n0 ≤ M.1.length) (hst : okS M.1 st) (hL : okL M.1 L) (hW : Wd dC dI dA ad A M H) (hl : lv_has ls (mN D) (lvL ad L))
    (ha : ∀ ad2, arA ad2 (mkC M (.inr (t, N))) M.1.length t = a0) (hP1 : va_P (dC, dI) vwCl (wld dA ad M ++ [(q, .inl (dA t, N, a0))]) H1) (hD1 : va_D A (wld dA ad M ++ [(q, .inl (dA t, N, a0))])) (hS1 : va_S A s.heap H1 locs)
    (kk : VC l D pc' L (aR M.1.length :: st) (mkC M (.inr (t, N))) kc2 ks2 Q) : W p l e (rmD D) s m args below meth c H1 locs kc2 ks2 (MQ below (QcA dC dI dA ad0 n0 A Q) args s (mC D) (mS D) A) (F0 m pc' ls (.ref q :: st.map (aV ad))) := by
  have ec : cellW dA (va_up ad M.1.length q) (mkC M (.inr (t, N))) M.1.length (.inr (t, N)) = .inl (dA t, N, a0) := by
    show Sum.inl (dA t, N, arA _ _ _ t) = _
    rw [ha]
  rw [← wld_mkC hW.1 ec] at hP1 hD1
  have hext : ∀ k, k < M.1.length → va_up ad M.1.length q k = ad k := fun k hk => by unfold va_up; rw [if_neg (by omega)]
  have hlen : M.1.length ≤ (mkC M (.inr (t, N))).1.length := by rw [mkC_len]; omega
  have k2 := kk p e s m args below meth c dC dI dA ad0 n0 A (va_up ad M.1.length q) H1 locs ls C hA (fun k hk => (hext k (by omega)).trans (h0 k hk)) (Nat.le_trans hn hlen) (okS_cons.mpr ⟨(by show M.1.length < (mkC M (.inr (t, N))).1.length; rw [mkC_len]; omega), okS_mk hlen hst⟩) (okL_mk hlen hL) ⟨okM_mkC hW.1, hP1, hD1⟩ hS1 (lvL_ext hL hext hl)
  have es : (aR M.1.length :: st).map (aV (va_up ad M.1.length q)) = .ref q :: st.map (aV ad) := by
    rw [List.map_cons, stk_ext hst hext]
    show Value.ref (va_up ad M.1.length q M.1.length) :: _ = _
    unfold va_up
    rw [if_pos rfl]
  rw [es] at k2
  exact k2
theorem vc_newI {n : Int} (h0n : 0 ≤ n) (hbig : n ≤ 100000) (h1 : kc + 1 ≤ mC D) (h2 : ks + n.toNat ≤ mS D) (hd : At (mB D) pc (.newarray .int) 2 pc') (kk : VC l D pc' L (aR M.1.length :: st) (mkC M (.inr (0, n.toNat))) (kc + 1) (ks + n.toNat) Q) : VC l D pc L (aI n :: st) M kc ks Q := by
  intro p e s m args below meth c dC dI dA ad0 n0 A ad H locs ls C hA h0 hn hst hL hW hS hl
  obtain ⟨hd, rfl⟩ := hd
  obtain ⟨hx, hst⟩ := okS_cons.mp hst
  have hts := C.2.2.2.2.2.2.1
  refine va_newa (atype := .int) (ty := .int) (N' := n.toNat) (a0 := (n.toNat, .inl (fun _ => 0))) C.1 C.2.1 (hts _ ay_I) rfl C.2.2.2.2.2.2.2.1 hW.2.1 hW.2.2 hS hA (fun cA => rfl) (fun h => by rw [oI_0, oI_lt hx inI_0] at h; omega) (oI_nat hx h0n) (by show n.toNat * 4 ≤ _; omega) h1 h2 hd ?_
  intro q cA H1 hK1 hP1 hD1 hS1
  have ecA : cA = dA 0 := arr_cls0 hK1
  subst ecA
  exact mk_row (t := 0) C hA h0 hn hst hL hW hl (fun ad2 => by show Sum.inl _ = Sum.inl _; congr 1; funext i; rw [mI_mkC, if_pos rfl]; rfl) hP1 hD1 hS1 kk
theorem vc_newJ {n : Int} (h0n : 0 ≤ n) (hbig : n ≤ 100000) (h1 : kc + 1 ≤ mC D) (h2 : ks + n.toNat ≤ mS D) (hd : At (mB D) pc (.newarray .long) 2 pc') (kk : VC l D pc' L (aR M.1.length :: st) (mkC M (.inr (1, n.toNat))) (kc + 1) (ks + n.toNat) Q) : VC l D pc L (aI n :: st) M kc ks Q := by
  intro p e s m args below meth c dC dI dA ad0 n0 A ad H locs ls C hA h0 hn hst hL hW hS hl
  obtain ⟨hd, rfl⟩ := hd
  obtain ⟨hx, hst⟩ := okS_cons.mp hst
  have hts := C.2.2.2.2.2.2.1
  refine va_newa (atype := .long) (ty := .long) (N' := n.toNat) (a0 := (n.toNat, .inr (.inl (fun _ => 0)))) C.1 C.2.1 (hts _ ay_J) rfl C.2.2.2.2.2.2.2.1 hW.2.1 hW.2.2 hS hA (fun cA => rfl) (fun h => by rw [oI_0, oI_lt hx inI_0] at h; omega) (oI_nat hx h0n) (by show n.toNat * 8 ≤ _; omega) h1 h2 hd ?_
  intro q cA H1 hK1 hP1 hD1 hS1
  have ecA : cA = dA 1 := arr_cls1 hK1
  subst ecA
  exact mk_row (t := 1) C hA h0 hn hst hL hW hl (fun ad2 => by show Sum.inr (Sum.inl _) = Sum.inr (Sum.inl _); congr 2; funext i; rw [mJ_mkC, if_pos rfl]; rfl) hP1 hD1 hS1 kk
theorem vc_newZ {n : Int} (h0n : 0 ≤ n) (hbig : n ≤ 100000) (h1 : kc + 1 ≤ mC D) (h2 : ks + n.toNat ≤ mS D) (hd : At (mB D) pc (.newarray .boolean) 2 pc') (kk : VC l D pc' L (aR M.1.length :: st) (mkC M (.inr (2, n.toNat))) (kc + 1) (ks + n.toNat) Q) : VC l D pc L (aI n :: st) M kc ks Q := by
  intro p e s m args below meth c dC dI dA ad0 n0 A ad H locs ls C hA h0 hn hst hL hW hS hl
  obtain ⟨hd, rfl⟩ := hd
  obtain ⟨hx, hst⟩ := okS_cons.mp hst
  have hts := C.2.2.2.2.2.2.1
  refine va_newa (atype := .boolean) (ty := .boolean) (N' := n.toNat) (a0 := (n.toNat, .inl (fun _ => 0))) C.1 C.2.1 (hts _ ay_Z) rfl C.2.2.2.2.2.2.2.1 hW.2.1 hW.2.2 hS hA (fun cA => rfl) (fun h => by rw [oI_0, oI_lt hx inI_0] at h; omega) (oI_nat hx h0n) (by show n.toNat * 1 ≤ _; omega) h1 h2 hd ?_
  intro q cA H1 hK1 hP1 hD1 hS1
  have ecA : cA = dA 2 := arr_cls2 hK1
  subst ecA
  exact mk_row (t := 2) C hA h0 hn hst hL hW hl (fun ad2 => by show Sum.inl _ = Sum.inl _; congr 1; funext i; rw [mI_mkC, if_pos rfl]; rfl) hP1 hD1 hS1 kk
theorem vc_newT {n : Int} {idx : Nat} (hlk : Cond.classLink (mY D).cls idx RX5 ∈ tblG) (h0n : 0 ≤ n) (hbig : n ≤ 100000) (h1 : kc + 1 ≤ mC D) (h2 : ks + n.toNat ≤ mS D) (hd : At (mB D) pc (.anewarray idx) 3 pc') (kk : VC l D pc' L (aR M.1.length :: st) (mkC M (.inr (3, n.toNat))) (kc + 1) (ks + n.toNat) Q) : VC l D pc L (aI n :: st) M kc ks Q := by
  intro p e s m args below meth c dC dI dA ad0 n0 A ad H locs ls C hA h0 hn hst hL hW hS hl
  obtain ⟨hd, rfl⟩ := hd
  obtain ⟨hx, hst⟩ := okS_cons.mp hst
  have hts := C.2.2.2.2.2.2.1
  refine va_newq (C := "SecondLeft$Text") (N' := n.toNat) C.1 C.2.1 C.2.2.2.2.2.1 (hts _ hlk) C.2.2.2.2.2.2.2.2.2.2.1 C.2.2.2.2.2.2.2.1 hW.2.1 hW.2.2 hS hA (fun h => by rw [oI_0, oI_lt hx inI_0] at h; omega) (oI_nat hx h0n) (by omega) h1 h2 hd ?_
  intro q cA H1 hK1 hP1 hD1 hS1
  have ecA : cA = dA 3 := arr_clsT hK1
  subst ecA
  exact mk_row (t := 3) C hA h0 hn hst hL hW hl (fun ad2 => by show Sum.inr (Sum.inr (Sum.inr (Sum.inr _))) = Sum.inr (Sum.inr (Sum.inr (Sum.inr _))); congr 4; funext i; rw [mR_mkC, if_pos rfl]; rfl) hP1 hD1 hS1 kk
theorem vc_aastore {k n : Nat} {i : Int} {r : Option Nat} (hs : M.1[k]? = some (.inr (3, n))) (h0 : 0 ≤ i) (h1 : i < n) (hr : ∀ x, r = some x → M.1[x]? = some (.inl 5)) (hd : At (mB D) pc .aastore 1 pc') (kk : VC l D pc' L st (sR M k i.toNat r) kc ks Q) : VC l D pc L (.inr (.inr r) :: aI i :: aR k :: st) M kc ks Q := by
  intro p e s m args below meth c dC dI dA ad0 n0 A ad H locs ls C hA h0' hn hst hL hW hS hl
  obtain ⟨hd, rfl⟩ := hd
  obtain ⟨hx, hst1⟩ := okS_cons.mp hst
  obtain ⟨hi, hst1⟩ := okS_cons.mp hst1
  obtain ⟨_, hst1⟩ := okS_cons.mp hst1
  have ew : wld dA ad (sR M k i.toNat r) = (wld dA ad M).set k (ad k, .inl (dA 3, n, .inr (.inr (.inr (.inr (fun j => (mR (sR M k i.toNat r) k j).map ad)))))) := wld_upd rfl hs (fun _ _ _ => rfl) (fun _ _ _ => rfl) (fun a b h => by rw [mR_sR, if_neg (ne_and h)]) rfl
  have k2 : ∀ (H1 : Heap) (locs1 : List Loc), va_P (dC, dI) vwCl ((wld dA ad M).set k (ad k, .inl (dA 3, n, .inr (.inr (.inr (.inr (va_up (fun j => (mR M k j).map ad) (Int32.ofInt i).toNatClampNeg (r.map ad)))))))) H1 → va_D A ((wld dA ad M).set k (ad k, .inl (dA 3, n, .inr (.inr (.inr (.inr (va_up (fun j => (mR M k j).map ad) (Int32.ofInt i).toNatClampNeg (r.map ad)))))))) → va_S A s.heap H1 locs1 → W p l e (rmD D) s m args below meth c H1 locs1 kc ks (MQ below (QcA dC dI dA ad0 n0 A Q) args s (mC D) (mS D) A) (F0 m (pc + 1) ls (st.map (aV ad))) := by
    intro H1 locs1 hP1 hD1 hS1
    rw [oI_nat hi h0, ← upd_oR, ← ew] at hP1 hD1
    exact kk p e s m args below meth c dC dI dA ad0 n0 A ad H1 locs1 ls C hA h0' hn hst1 hL ⟨okM_sR hW.1 (fun x hx2 => by subst hx2; exact hx), hP1, hD1⟩ hS1 hl
  cases r with
  | none => exact va_astqN (C := "SecondLeft$Text") C.1 C.2.1 C.2.2.2.2.2.2.2.1 hW.2.1 hW.2.2 hS k 3 (wld_at hs) rfl (oI_in hi h0 h1) hd k2
  | some x => exact va_astq (r := (RX5, TX5, 4)) C.1 C.2.1 C.2.2.2.2.2.2.2.1 hW.2.1 hW.2.2 hS k 3 x 5 (wld_at hs) rfl (wld_at (hr x rfl)) rfl (oI_in hi h0 h1) hd k2
end VCM
end
