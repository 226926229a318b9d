section
-- ===== PART A: goes FIRST, ahead of the names: the tables' words, and 'selects' of the private methods out of them =====
/-- a private method of a class that the tables say can be made, by its rows of tables_1 -/
def lw_okq (q : MethodName × Nat) : Prop := (q.1.cls ≠ "java/lang/invoke/MethodHandle" ∧ q.1.cls ≠ "java/lang/invoke/VarHandle") ∧ Cond.instantiable q.1.cls q.2 ∈ tables_1 ∧ Cond.privateMethod q.1 ∈ tables_1 ∧ Cond.instanceMethod q.1 ∈ tables_1
theorem lw_p0 : lw_okq (⟨"SecondLeft$Town", "putTurns", "(II)I"⟩, 12) := ⟨⟨by decide +kernel, by decide +kernel⟩, List.mem_of_getElem? (i := 31) (by decide +kernel), List.mem_of_getElem? (i := 476) (by decide +kernel), List.mem_of_getElem? (i := 477) (by decide +kernel)⟩
theorem lw_p1 : lw_okq (⟨"SecondLeft", "putBytes", "(I)V"⟩, 16) := ⟨⟨by decide +kernel, by decide +kernel⟩, List.mem_of_getElem? (i := 23) (by decide +kernel), List.mem_of_getElem? (i := 489) (by decide +kernel), List.mem_of_getElem? (i := 490) (by decide +kernel)⟩
theorem lw_p2 : lw_okq (⟨"SecondLeft$Reader", "part", "(I)V"⟩, 15) := ⟨⟨by decide +kernel, by decide +kernel⟩, List.mem_of_getElem? (i := 120) (by decide +kernel), List.mem_of_getElem? (i := 508) (by decide +kernel), List.mem_of_getElem? (i := 509) (by decide +kernel)⟩
theorem lw_p3 : lw_okq (⟨"SecondLeft$Reader", "endOfToken", "(II)I"⟩, 15) := ⟨⟨by decide +kernel, by decide +kernel⟩, List.mem_of_getElem? (i := 120) (by decide +kernel), List.mem_of_getElem? (i := 512) (by decide +kernel), List.mem_of_getElem? (i := 513) (by decide +kernel)⟩
theorem lw_p4 : lw_okq (⟨"SecondLeft$Reader", "setToken", "(III)V"⟩, 15) := ⟨⟨by decide +kernel, by decide +kernel⟩, List.mem_of_getElem? (i := 120) (by decide +kernel), List.mem_of_getElem? (i := 525) (by decide +kernel), List.mem_of_getElem? (i := 526) (by decide +kernel)⟩
theorem lw_p5 : lw_okq (⟨"SecondLeft$Reader", "wordOf", "(II)I"⟩, 15) := ⟨⟨by decide +kernel, by decide +kernel⟩, List.mem_of_getElem? (i := 120) (by decide +kernel), List.mem_of_getElem? (i := 529) (by decide +kernel), List.mem_of_getElem? (i := 530) (by decide +kernel)⟩
theorem lw_p6 : lw_okq (⟨"SecondLeft$Reader", "numberOf", "(II)I"⟩, 15) := ⟨⟨by decide +kernel, by decide +kernel⟩, List.mem_of_getElem? (i := 120) (by decide +kernel), List.mem_of_getElem? (i := 582) (by decide +kernel), List.mem_of_getElem? (i := 583) (by decide +kernel)⟩
theorem lw_p7 : lw_okq (⟨"SecondLeft$Reader", "takeToken", "()Z"⟩, 15) := ⟨⟨by decide +kernel, by decide +kernel⟩, List.mem_of_getElem? (i := 120) (by decide +kernel), List.mem_of_getElem? (i := 587) (by decide +kernel), List.mem_of_getElem? (i := 588) (by decide +kernel)⟩
theorem lw_p8 : lw_okq (⟨"SecondLeft$Reader", "readClause", "()Z"⟩, 15) := ⟨⟨by decide +kernel, by decide +kernel⟩, List.mem_of_getElem? (i := 120) (by decide +kernel), List.mem_of_getElem? (i := 591) (by decide +kernel), List.mem_of_getElem? (i := 592) (by decide +kernel)⟩
theorem lw_p9 : lw_okq (⟨"SecondLeft$Reader", "failed", "(I)Z"⟩, 15) := ⟨⟨by decide +kernel, by decide +kernel⟩, List.mem_of_getElem? (i := 120) (by decide +kernel), List.mem_of_getElem? (i := 595) (by decide +kernel), List.mem_of_getElem? (i := 596) (by decide +kernel)⟩
theorem lw_p10 : lw_okq (⟨"SecondLeft$Reader", "keep", "(II)V"⟩, 15) := ⟨⟨by decide +kernel, by decide +kernel⟩, List.mem_of_getElem? (i := 120) (by decide +kernel), List.mem_of_getElem? (i := 599) (by decide +kernel), List.mem_of_getElem? (i := 600) (by decide +kernel)⟩
theorem lw_p11 : lw_okq (⟨"SecondLeft$Reader", "beginLaw", "(I)Z"⟩, 15) := ⟨⟨by decide +kernel, by decide +kernel⟩, List.mem_of_getElem? (i := 120) (by decide +kernel), List.mem_of_getElem? (i := 603) (by decide +kernel), List.mem_of_getElem? (i := 604) (by decide +kernel)⟩
theorem lw_p12 : lw_okq (⟨"SecondLeft$Reader", "readSum", "(I)Z"⟩, 15) := ⟨⟨by decide +kernel, by decide +kernel⟩, List.mem_of_getElem? (i := 120) (by decide +kernel), List.mem_of_getElem? (i := 607) (by decide +kernel), List.mem_of_getElem? (i := 608) (by decide +kernel)⟩
theorem lw_p13 : lw_okq (⟨"SecondLeft$Reader", "readProduct", "(I)Z"⟩, 15) := ⟨⟨by decide +kernel, by decide +kernel⟩, List.mem_of_getElem? (i := 120) (by decide +kernel), List.mem_of_getElem? (i := 611) (by decide +kernel), List.mem_of_getElem? (i := 612) (by decide +kernel)⟩
theorem lw_p14 : lw_okq (⟨"SecondLeft$Reader", "readOne", "(I)Z"⟩, 15) := ⟨⟨by decide +kernel, by decide +kernel⟩, List.mem_of_getElem? (i := 120) (by decide +kernel), List.mem_of_getElem? (i := 615) (by decide +kernel), List.mem_of_getElem? (i := 616) (by decide +kernel)⟩
theorem lw_p15 : lw_okq (⟨"SecondLeft$Reader", "emit", "(I)Z"⟩, 15) := ⟨⟨by decide +kernel, by decide +kernel⟩, List.mem_of_getElem? (i := 120) (by decide +kernel), List.mem_of_getElem? (i := 619) (by decide +kernel), List.mem_of_getElem? (i := 620) (by decide +kernel)⟩
def lw_privs_1 : List (MethodName × Nat) := [(⟨"SecondLeft$Town", "putTurns", "(II)I"⟩, 12), (⟨"SecondLeft", "putBytes", "(I)V"⟩, 16), (⟨"SecondLeft$Reader", "part", "(I)V"⟩, 15), (⟨"SecondLeft$Reader", "endOfToken", "(II)I"⟩, 15), (⟨"SecondLeft$Reader", "setToken", "(III)V"⟩, 15), (⟨"SecondLeft$Reader", "wordOf", "(II)I"⟩, 15), (⟨"SecondLeft$Reader", "numberOf", "(II)I"⟩, 15), (⟨"SecondLeft$Reader", "takeToken", "()Z"⟩, 15), (⟨"SecondLeft$Reader", "readClause", "()Z"⟩, 15), (⟨"SecondLeft$Reader", "failed", "(I)Z"⟩, 15), (⟨"SecondLeft$Reader", "keep", "(II)V"⟩, 15), (⟨"SecondLeft$Reader", "beginLaw", "(I)Z"⟩, 15), (⟨"SecondLeft$Reader", "readSum", "(I)Z"⟩, 15), (⟨"SecondLeft$Reader", "readProduct", "(I)Z"⟩, 15), (⟨"SecondLeft$Reader", "readOne", "(I)Z"⟩, 15), (⟨"SecondLeft$Reader", "emit", "(I)Z"⟩, 15)]
theorem lw_r1 : ∀ q ∈ lw_privs_1, lw_okq q := List.forall_mem_cons.mpr ⟨lw_p0, List.forall_mem_cons.mpr ⟨lw_p1, List.forall_mem_cons.mpr ⟨lw_p2, List.forall_mem_cons.mpr ⟨lw_p3, List.forall_mem_cons.mpr ⟨lw_p4, List.forall_mem_cons.mpr ⟨lw_p5, List.forall_mem_cons.mpr ⟨lw_p6, List.forall_mem_cons.mpr ⟨lw_p7, List.forall_mem_cons.mpr ⟨lw_p8, List.forall_mem_cons.mpr ⟨lw_p9, List.forall_mem_cons.mpr ⟨lw_p10, List.forall_mem_cons.mpr ⟨lw_p11, List.forall_mem_cons.mpr ⟨lw_p12, List.forall_mem_cons.mpr ⟨lw_p13, List.forall_mem_cons.mpr ⟨lw_p14, List.forall_mem_cons.mpr ⟨lw_p15, fun _ h => absurd h List.not_mem_nil⟩⟩⟩⟩⟩⟩⟩⟩⟩⟩⟩⟩⟩⟩⟩⟩
theorem lw_p16 : lw_okq (⟨"SecondLeft$Reader", "isSign", "(I)Z"⟩, 15) := ⟨⟨by decide +kernel, by decide +kernel⟩, List.mem_of_getElem? (i := 120) (by decide +kernel), List.mem_of_getElem? (i := 623) (by decide +kernel), List.mem_of_getElem? (i := 624) (by decide +kernel)⟩
theorem lw_p17 : lw_okq (⟨"SecondLeft$Reader", "readWord", "(I)Z"⟩, 15) := ⟨⟨by decide +kernel, by decide +kernel⟩, List.mem_of_getElem? (i := 120) (by decide +kernel), List.mem_of_getElem? (i := 627) (by decide +kernel), List.mem_of_getElem? (i := 628) (by decide +kernel)⟩
theorem lw_p18 : lw_okq (⟨"SecondLeft$Reader", "readSign", "(I)Z"⟩, 15) := ⟨⟨by decide +kernel, by decide +kernel⟩, List.mem_of_getElem? (i := 120) (by decide +kernel), List.mem_of_getElem? (i := 631) (by decide +kernel), List.mem_of_getElem? (i := 632) (by decide +kernel)⟩
theorem lw_p19 : lw_okq (⟨"SecondLeft$Reader", "endLaw", "(I)Z"⟩, 15) := ⟨⟨by decide +kernel, by decide +kernel⟩, List.mem_of_getElem? (i := 120) (by decide +kernel), List.mem_of_getElem? (i := 635) (by decide +kernel), List.mem_of_getElem? (i := 636) (by decide +kernel)⟩
theorem lw_p20 : lw_okq (⟨"SecondLeft$Reader", "readDeed", "(I)Z"⟩, 15) := ⟨⟨by decide +kernel, by decide +kernel⟩, List.mem_of_getElem? (i := 120) (by decide +kernel), List.mem_of_getElem? (i := 639) (by decide +kernel), List.mem_of_getElem? (i := 640) (by decide +kernel)⟩
theorem lw_p21 : lw_okq (⟨"SecondLeft$Reader", "readNumber", "(III)Z"⟩, 15) := ⟨⟨by decide +kernel, by decide +kernel⟩, List.mem_of_getElem? (i := 120) (by decide +kernel), List.mem_of_getElem? (i := 643) (by decide +kernel), List.mem_of_getElem? (i := 644) (by decide +kernel)⟩
theorem lw_p22 : lw_okq (⟨"SecondLeft$Reader", "readCorner", "(I)Z"⟩, 15) := ⟨⟨by decide +kernel, by decide +kernel⟩, List.mem_of_getElem? (i := 120) (by decide +kernel), List.mem_of_getElem? (i := 647) (by decide +kernel), List.mem_of_getElem? (i := 648) (by decide +kernel)⟩
theorem lw_p23 : lw_okq (⟨"SecondLeft$Reader", "readFacing", "()Z"⟩, 15) := ⟨⟨by decide +kernel, by decide +kernel⟩, List.mem_of_getElem? (i := 120) (by decide +kernel), List.mem_of_getElem? (i := 651) (by decide +kernel), List.mem_of_getElem? (i := 652) (by decide +kernel)⟩
theorem lw_p24 : lw_okq (⟨"SecondLeft$Reader", "readTurns", "()Z"⟩, 15) := ⟨⟨by decide +kernel, by decide +kernel⟩, List.mem_of_getElem? (i := 120) (by decide +kernel), List.mem_of_getElem? (i := 655) (by decide +kernel), List.mem_of_getElem? (i := 656) (by decide +kernel)⟩
theorem lw_p25 : lw_okq (⟨"SecondLeft$Reader", "readTurn", "(I)I"⟩, 15) := ⟨⟨by decide +kernel, by decide +kernel⟩, List.mem_of_getElem? (i := 120) (by decide +kernel), List.mem_of_getElem? (i := 659) (by decide +kernel), List.mem_of_getElem? (i := 660) (by decide +kernel)⟩
theorem lw_p26 : lw_okq (⟨"SecondLeft$Reader", "readSideTo", "(I)Z"⟩, 15) := ⟨⟨by decide +kernel, by decide +kernel⟩, List.mem_of_getElem? (i := 120) (by decide +kernel), List.mem_of_getElem? (i := 663) (by decide +kernel), List.mem_of_getElem? (i := 664) (by decide +kernel)⟩
theorem lw_p27 : lw_okq (⟨"SecondLeft$Walker", "place", "(III)V"⟩, 4) := ⟨⟨by decide +kernel, by decide +kernel⟩, List.mem_of_getElem? (i := 226) (by decide +kernel), List.mem_of_getElem? (i := 735) (by decide +kernel), List.mem_of_getElem? (i := 736) (by decide +kernel)⟩
theorem lw_p28 : lw_okq (⟨"SecondLeft$Walker", "goAhead", "()V"⟩, 4) := ⟨⟨by decide +kernel, by decide +kernel⟩, List.mem_of_getElem? (i := 226) (by decide +kernel), List.mem_of_getElem? (i := 756) (by decide +kernel), List.mem_of_getElem? (i := 757) (by decide +kernel)⟩
theorem lw_p29 : lw_okq (⟨"SecondLeft$Walker", "isThere", "()Z"⟩, 4) := ⟨⟨by decide +kernel, by decide +kernel⟩, List.mem_of_getElem? (i := 226) (by decide +kernel), List.mem_of_getElem? (i := 813) (by decide +kernel), List.mem_of_getElem? (i := 814) (by decide +kernel)⟩
theorem lw_p30 : lw_okq (⟨"SecondLeft$Walker", "faceTo", "(I)V"⟩, 4) := ⟨⟨by decide +kernel, by decide +kernel⟩, List.mem_of_getElem? (i := 226) (by decide +kernel), List.mem_of_getElem? (i := 817) (by decide +kernel), List.mem_of_getElem? (i := 818) (by decide +kernel)⟩
theorem lw_p31 : lw_okq (⟨"SecondLeft$Walker", "hear", "(I)V"⟩, 4) := ⟨⟨by decide +kernel, by decide +kernel⟩, List.mem_of_getElem? (i := 226) (by decide +kernel), List.mem_of_getElem? (i := 837) (by decide +kernel), List.mem_of_getElem? (i := 838) (by decide +kernel)⟩
def lw_privs_2 : List (MethodName × Nat) := [(⟨"SecondLeft$Reader", "isSign", "(I)Z"⟩, 15), (⟨"SecondLeft$Reader", "readWord", "(I)Z"⟩, 15), (⟨"SecondLeft$Reader", "readSign", "(I)Z"⟩, 15), (⟨"SecondLeft$Reader", "endLaw", "(I)Z"⟩, 15), (⟨"SecondLeft$Reader", "readDeed", "(I)Z"⟩, 15), (⟨"SecondLeft$Reader", "readNumber", "(III)Z"⟩, 15), (⟨"SecondLeft$Reader", "readCorner", "(I)Z"⟩, 15), (⟨"SecondLeft$Reader", "readFacing", "()Z"⟩, 15), (⟨"SecondLeft$Reader", "readTurns", "()Z"⟩, 15), (⟨"SecondLeft$Reader", "readTurn", "(I)I"⟩, 15), (⟨"SecondLeft$Reader", "readSideTo", "(I)Z"⟩, 15), (⟨"SecondLeft$Walker", "place", "(III)V"⟩, 4), (⟨"SecondLeft$Walker", "goAhead", "()V"⟩, 4), (⟨"SecondLeft$Walker", "isThere", "()Z"⟩, 4), (⟨"SecondLeft$Walker", "faceTo", "(I)V"⟩, 4), (⟨"SecondLeft$Walker", "hear", "(I)V"⟩, 4)]
theorem lw_r2 : ∀ q ∈ lw_privs_2, lw_okq q := List.forall_mem_cons.mpr ⟨lw_p16, List.forall_mem_cons.mpr ⟨lw_p17, List.forall_mem_cons.mpr ⟨lw_p18, List.forall_mem_cons.mpr ⟨lw_p19, List.forall_mem_cons.mpr ⟨lw_p20, List.forall_mem_cons.mpr ⟨lw_p21, List.forall_mem_cons.mpr ⟨lw_p22, List.forall_mem_cons.mpr ⟨lw_p23, List.forall_mem_cons.mpr ⟨lw_p24, List.forall_mem_cons.mpr ⟨lw_p25, List.forall_mem_cons.mpr ⟨lw_p26, List.forall_mem_cons.mpr ⟨lw_p27, List.forall_mem_cons.mpr ⟨lw_p28, List.forall_mem_cons.mpr ⟨lw_p29, List.forall_mem_cons.mpr ⟨lw_p30, List.forall_mem_cons.mpr ⟨lw_p31, fun _ h => absurd h List.not_mem_nil⟩⟩⟩⟩⟩⟩⟩⟩⟩⟩⟩⟩⟩⟩⟩⟩
theorem lw_p32 : lw_okq (⟨"SecondLeft$Laws", "nameTeller", "(I)V"⟩, 4) := ⟨⟨by decide +kernel, by decide +kernel⟩, List.mem_of_getElem? (i := 174) (by decide +kernel), List.mem_of_getElem? (i := 845) (by decide +kernel), List.mem_of_getElem? (i := 846) (by decide +kernel)⟩
theorem lw_p33 : lw_okq (⟨"SecondLeft$Walker", "does", "([II)Z"⟩, 4) := ⟨⟨by decide +kernel, by decide +kernel⟩, List.mem_of_getElem? (i := 226) (by decide +kernel), List.mem_of_getElem? (i := 907) (by decide +kernel), List.mem_of_getElem? (i := 908) (by decide +kernel)⟩
theorem lw_p34 : lw_okq (⟨"SecondLeft$Walker", "drawn", "(I)V"⟩, 4) := ⟨⟨by decide +kernel, by decide +kernel⟩, List.mem_of_getElem? (i := 226) (by decide +kernel), List.mem_of_getElem? (i := 932) (by decide +kernel), List.mem_of_getElem? (i := 933) (by decide +kernel)⟩
theorem lw_p35 : lw_okq (⟨"SecondLeft$Walker", "hearLowest", "()V"⟩, 4) := ⟨⟨by decide +kernel, by decide +kernel⟩, List.mem_of_getElem? (i := 226) (by decide +kernel), List.mem_of_getElem? (i := 936) (by decide +kernel), List.mem_of_getElem? (i := 937) (by decide +kernel)⟩
theorem lw_p36 : lw_okq (⟨"SecondLeft$Ways", "setWeights", "(I)V"⟩, 8) := ⟨⟨by decide +kernel, by decide +kernel⟩, List.mem_of_getElem? (i := 245) (by decide +kernel), List.mem_of_getElem? (i := 1001) (by decide +kernel), List.mem_of_getElem? (i := 1002) (by decide +kernel)⟩
theorem lw_p37 : lw_okq (⟨"SecondLeft$Visits", "nearest", "(II)I"⟩, 11) := ⟨⟨by decide +kernel, by decide +kernel⟩, List.mem_of_getElem? (i := 282) (by decide +kernel), List.mem_of_getElem? (i := 1074) (by decide +kernel), List.mem_of_getElem? (i := 1075) (by decide +kernel)⟩
theorem lw_p38 : lw_okq (⟨"SecondLeft$Visits", "lookAround", "(II)V"⟩, 11) := ⟨⟨by decide +kernel, by decide +kernel⟩, List.mem_of_getElem? (i := 282) (by decide +kernel), List.mem_of_getElem? (i := 1082) (by decide +kernel), List.mem_of_getElem? (i := 1083) (by decide +kernel)⟩
theorem lw_p39 : lw_okq (⟨"SecondLeft$Visits", "listPlaces", "()Z"⟩, 11) := ⟨⟨by decide +kernel, by decide +kernel⟩, List.mem_of_getElem? (i := 282) (by decide +kernel), List.mem_of_getElem? (i := 1096) (by decide +kernel), List.mem_of_getElem? (i := 1097) (by decide +kernel)⟩
theorem lw_p40 : lw_okq (⟨"SecondLeft$Visits", "tryOrders", "(IIIJJ)V"⟩, 11) := ⟨⟨by decide +kernel, by decide +kernel⟩, List.mem_of_getElem? (i := 282) (by decide +kernel), List.mem_of_getElem? (i := 1103) (by decide +kernel), List.mem_of_getElem? (i := 1104) (by decide +kernel)⟩
theorem lw_p41 : lw_okq (⟨"SecondLeft$Visits", "sumFrom", "(I)J"⟩, 11) := ⟨⟨by decide +kernel, by decide +kernel⟩, List.mem_of_getElem? (i := 282) (by decide +kernel), List.mem_of_getElem? (i := 1118) (by decide +kernel), List.mem_of_getElem? (i := 1119) (by decide +kernel)⟩
theorem lw_p42 : lw_okq (⟨"SecondLeft$Finder", "tries", "(III)Z"⟩, 5) := ⟨⟨by decide +kernel, by decide +kernel⟩, List.mem_of_getElem? (i := 325) (by decide +kernel), List.mem_of_getElem? (i := 1163) (by decide +kernel), List.mem_of_getElem? (i := 1164) (by decide +kernel)⟩
theorem lw_p43 : lw_okq (⟨"SecondLeft$Finder", "allGo", "(IIIZ)Z"⟩, 5) := ⟨⟨by decide +kernel, by decide +kernel⟩, List.mem_of_getElem? (i := 325) (by decide +kernel), List.mem_of_getElem? (i := 1170) (by decide +kernel), List.mem_of_getElem? (i := 1171) (by decide +kernel)⟩
theorem lw_p44 : lw_okq (⟨"SecondLeft$Finder", "after", "(III)I"⟩, 5) := ⟨⟨by decide +kernel, by decide +kernel⟩, List.mem_of_getElem? (i := 325) (by decide +kernel), List.mem_of_getElem? (i := 1175) (by decide +kernel), List.mem_of_getElem? (i := 1176) (by decide +kernel)⟩
theorem lw_p45 : lw_okq (⟨"SecondLeft$Finder", "endsAtGoal", "(IZ)Z"⟩, 5) := ⟨⟨by decide +kernel, by decide +kernel⟩, List.mem_of_getElem? (i := 325) (by decide +kernel), List.mem_of_getElem? (i := 1184) (by decide +kernel), List.mem_of_getElem? (i := 1185) (by decide +kernel)⟩
theorem lw_p46 : lw_okq (⟨"SecondLeft$Posts", "countStreets", "()V"⟩, 6) := ⟨⟨by decide +kernel, by decide +kernel⟩, List.mem_of_getElem? (i := 348) (by decide +kernel), List.mem_of_getElem? (i := 1211) (by decide +kernel), List.mem_of_getElem? (i := 1212) (by decide +kernel)⟩
theorem lw_p47 : lw_okq (⟨"SecondLeft$Posts", "towards", "(II)I"⟩, 6) := ⟨⟨by decide +kernel, by decide +kernel⟩, List.mem_of_getElem? (i := 348) (by decide +kernel), List.mem_of_getElem? (i := 1216) (by decide +kernel), List.mem_of_getElem? (i := 1217) (by decide +kernel)⟩
def lw_privs_3 : List (MethodName × Nat) := [(⟨"SecondLeft$Laws", "nameTeller", "(I)V"⟩, 4), (⟨"SecondLeft$Walker", "does", "([II)Z"⟩, 4), (⟨"SecondLeft$Walker", "drawn", "(I)V"⟩, 4), (⟨"SecondLeft$Walker", "hearLowest", "()V"⟩, 4), (⟨"SecondLeft$Ways", "setWeights", "(I)V"⟩, 8), (⟨"SecondLeft$Visits", "nearest", "(II)I"⟩, 11), (⟨"SecondLeft$Visits", "lookAround", "(II)V"⟩, 11), (⟨"SecondLeft$Visits", "listPlaces", "()Z"⟩, 11), (⟨"SecondLeft$Visits", "tryOrders", "(IIIJJ)V"⟩, 11), (⟨"SecondLeft$Visits", "sumFrom", "(I)J"⟩, 11), (⟨"SecondLeft$Finder", "tries", "(III)Z"⟩, 5), (⟨"SecondLeft$Finder", "allGo", "(IIIZ)Z"⟩, 5), (⟨"SecondLeft$Finder", "after", "(III)I"⟩, 5), (⟨"SecondLeft$Finder", "endsAtGoal", "(IZ)Z"⟩, 5), (⟨"SecondLeft$Posts", "countStreets", "()V"⟩, 6), (⟨"SecondLeft$Posts", "towards", "(II)I"⟩, 6)]
theorem lw_r3 : ∀ q ∈ lw_privs_3, lw_okq q := List.forall_mem_cons.mpr ⟨lw_p32, List.forall_mem_cons.mpr ⟨lw_p33, List.forall_mem_cons.mpr ⟨lw_p34, List.forall_mem_cons.mpr ⟨lw_p35, List.forall_mem_cons.mpr ⟨lw_p36, List.forall_mem_cons.mpr ⟨lw_p37, List.forall_mem_cons.mpr ⟨lw_p38, List.forall_mem_cons.mpr ⟨lw_p39, List.forall_mem_cons.mpr ⟨lw_p40, List.forall_mem_cons.mpr ⟨lw_p41, List.forall_mem_cons.mpr ⟨lw_p42, List.forall_mem_cons.mpr ⟨lw_p43, List.forall_mem_cons.mpr ⟨lw_p44, List.forall_mem_cons.mpr ⟨lw_p45, List.forall_mem_cons.mpr ⟨lw_p46, List.forall_mem_cons.mpr ⟨lw_p47, fun _ h => absurd h List.not_mem_nil⟩⟩⟩⟩⟩⟩⟩⟩⟩⟩⟩⟩⟩⟩⟩⟩
theorem lw_p48 : lw_okq (⟨"SecondLeft$Posts", "setOnward", "()V"⟩, 6) := ⟨⟨by decide +kernel, by decide +kernel⟩, List.mem_of_getElem? (i := 348) (by decide +kernel), List.mem_of_getElem? (i := 1221) (by decide +kernel), List.mem_of_getElem? (i := 1222) (by decide +kernel)⟩
theorem lw_p49 : lw_okq (⟨"SecondLeft$Posts", "firstThatServes", "(I)I"⟩, 6) := ⟨⟨by decide +kernel, by decide +kernel⟩, List.mem_of_getElem? (i := 348) (by decide +kernel), List.mem_of_getElem? (i := 1228) (by decide +kernel), List.mem_of_getElem? (i := 1229) (by decide +kernel)⟩
theorem lw_p50 : lw_okq (⟨"SecondLeft$Posts", "allCome", "(I)Z"⟩, 6) := ⟨⟨by decide +kernel, by decide +kernel⟩, List.mem_of_getElem? (i := 348) (by decide +kernel), List.mem_of_getElem? (i := 1233) (by decide +kernel), List.mem_of_getElem? (i := 1234) (by decide +kernel)⟩
theorem lw_p51 : lw_okq (⟨"SecondLeft$Posts", "comes", "(II)Z"⟩, 6) := ⟨⟨by decide +kernel, by decide +kernel⟩, List.mem_of_getElem? (i := 348) (by decide +kernel), List.mem_of_getElem? (i := 1237) (by decide +kernel), List.mem_of_getElem? (i := 1238) (by decide +kernel)⟩
theorem lw_p52 : lw_okq (⟨"SecondLeftModel", "isCorner", "(I)Z"⟩, 47) := ⟨⟨by decide +kernel, by decide +kernel⟩, List.mem_of_getElem? (i := 1273) (by decide +kernel), List.mem_of_getElem? (i := 1436) (by decide +kernel), List.mem_of_getElem? (i := 1437) (by decide +kernel)⟩
theorem lw_p53 : lw_okq (⟨"SecondLeftModel", "streetOf", "(II)I"⟩, 47) := ⟨⟨by decide +kernel, by decide +kernel⟩, List.mem_of_getElem? (i := 1273) (by decide +kernel), List.mem_of_getElem? (i := 1440) (by decide +kernel), List.mem_of_getElem? (i := 1441) (by decide +kernel)⟩
theorem lw_p54 : lw_okq (⟨"SecondLeftModel", "isTeller", "(I)Z"⟩, 47) := ⟨⟨by decide +kernel, by decide +kernel⟩, List.mem_of_getElem? (i := 1273) (by decide +kernel), List.mem_of_getElem? (i := 1456) (by decide +kernel), List.mem_of_getElem? (i := 1457) (by decide +kernel)⟩
theorem lw_p55 : lw_okq (⟨"SecondLeftModel", "take", "(I)Z"⟩, 47) := ⟨⟨by decide +kernel, by decide +kernel⟩, List.mem_of_getElem? (i := 1273) (by decide +kernel), List.mem_of_getElem? (i := 1460) (by decide +kernel), List.mem_of_getElem? (i := 1461) (by decide +kernel)⟩
theorem lw_p56 : lw_okq (⟨"SecondLeftModel", "tellNow", "(II)I"⟩, 47) := ⟨⟨by decide +kernel, by decide +kernel⟩, List.mem_of_getElem? (i := 1273) (by decide +kernel), List.mem_of_getElem? (i := 1469) (by decide +kernel), List.mem_of_getElem? (i := 1470) (by decide +kernel)⟩
theorem lw_p57 : lw_okq (⟨"SecondLeftModel", "four", "(I)V"⟩, 47) := ⟨⟨by decide +kernel, by decide +kernel⟩, List.mem_of_getElem? (i := 1273) (by decide +kernel), List.mem_of_getElem? (i := 1477) (by decide +kernel), List.mem_of_getElem? (i := 1478) (by decide +kernel)⟩
theorem lw_p58 : lw_okq (⟨"SecondLeftModel", "readText", "()I"⟩, 47) := ⟨⟨by decide +kernel, by decide +kernel⟩, List.mem_of_getElem? (i := 1273) (by decide +kernel), List.mem_of_getElem? (i := 1489) (by decide +kernel), List.mem_of_getElem? (i := 1490) (by decide +kernel)⟩
theorem lw_p59 : lw_okq (⟨"SecondLeftModel", "nextToken", "()V"⟩, 47) := ⟨⟨by decide +kernel, by decide +kernel⟩, List.mem_of_getElem? (i := 1273) (by decide +kernel), List.mem_of_getElem? (i := 1493) (by decide +kernel), List.mem_of_getElem? (i := 1494) (by decide +kernel)⟩
theorem lw_p60 : lw_okq (⟨"SecondLeftModel", "byteAt", "(I)I"⟩, 47) := ⟨⟨by decide +kernel, by decide +kernel⟩, List.mem_of_getElem? (i := 1273) (by decide +kernel), List.mem_of_getElem? (i := 1497) (by decide +kernel), List.mem_of_getElem? (i := 1498) (by decide +kernel)⟩
theorem lw_p61 : lw_okq (⟨"SecondLeftModel", "clause", "()I"⟩, 47) := ⟨⟨by decide +kernel, by decide +kernel⟩, List.mem_of_getElem? (i := 1273) (by decide +kernel), List.mem_of_getElem? (i := 1512) (by decide +kernel), List.mem_of_getElem? (i := 1513) (by decide +kernel)⟩
theorem lw_p62 : lw_okq (⟨"SecondLeftModel", "sortOf", "()I"⟩, 47) := ⟨⟨by decide +kernel, by decide +kernel⟩, List.mem_of_getElem? (i := 1273) (by decide +kernel), List.mem_of_getElem? (i := 1516) (by decide +kernel), List.mem_of_getElem? (i := 1517) (by decide +kernel)⟩
theorem lw_p63 : lw_okq (⟨"SecondLeftModel", "isWord", "(J)Z"⟩, 47) := ⟨⟨by decide +kernel, by decide +kernel⟩, List.mem_of_getElem? (i := 1273) (by decide +kernel), List.mem_of_getElem? (i := 1532) (by decide +kernel), List.mem_of_getElem? (i := 1533) (by decide +kernel)⟩
def lw_privs_4 : List (MethodName × Nat) := [(⟨"SecondLeft$Posts", "setOnward", "()V"⟩, 6), (⟨"SecondLeft$Posts", "firstThatServes", "(I)I"⟩, 6), (⟨"SecondLeft$Posts", "allCome", "(I)Z"⟩, 6), (⟨"SecondLeft$Posts", "comes", "(II)Z"⟩, 6), (⟨"SecondLeftModel", "isCorner", "(I)Z"⟩, 47), (⟨"SecondLeftModel", "streetOf", "(II)I"⟩, 47), (⟨"SecondLeftModel", "isTeller", "(I)Z"⟩, 47), (⟨"SecondLeftModel", "take", "(I)Z"⟩, 47), (⟨"SecondLeftModel", "tellNow", "(II)I"⟩, 47), (⟨"SecondLeftModel", "four", "(I)V"⟩, 47), (⟨"SecondLeftModel", "readText", "()I"⟩, 47), (⟨"SecondLeftModel", "nextToken", "()V"⟩, 47), (⟨"SecondLeftModel", "byteAt", "(I)I"⟩, 47), (⟨"SecondLeftModel", "clause", "()I"⟩, 47), (⟨"SecondLeftModel", "sortOf", "()I"⟩, 47), (⟨"SecondLeftModel", "isWord", "(J)Z"⟩, 47)]
theorem lw_r4 : ∀ q ∈ lw_privs_4, lw_okq q := List.forall_mem_cons.mpr ⟨lw_p48, List.forall_mem_cons.mpr ⟨lw_p49, List.forall_mem_cons.mpr ⟨lw_p50, List.forall_mem_cons.mpr ⟨lw_p51, List.forall_mem_cons.mpr ⟨lw_p52, List.forall_mem_cons.mpr ⟨lw_p53, List.forall_mem_cons.mpr ⟨lw_p54, List.forall_mem_cons.mpr ⟨lw_p55, List.forall_mem_cons.mpr ⟨lw_p56, List.forall_mem_cons.mpr ⟨lw_p57, List.forall_mem_cons.mpr ⟨lw_p58, List.forall_mem_cons.mpr ⟨lw_p59, List.forall_mem_cons.mpr ⟨lw_p60, List.forall_mem_cons.mpr ⟨lw_p61, List.forall_mem_cons.mpr ⟨lw_p62, List.forall_mem_cons.mpr ⟨lw_p63, fun _ h => absurd h List.not_mem_nil⟩⟩⟩⟩⟩⟩⟩⟩⟩⟩⟩⟩⟩⟩⟩⟩
theorem lw_p64 : lw_okq (⟨"SecondLeftModel", "body", "(II)I"⟩, 47) := ⟨⟨by decide +kernel, by decide +kernel⟩, List.mem_of_getElem? (i := 1273) (by decide +kernel), List.mem_of_getElem? (i := 1542) (by decide +kernel), List.mem_of_getElem? (i := 1543) (by decide +kernel)⟩
theorem lw_p65 : lw_okq (⟨"SecondLeftModel", "figure", "(III)I"⟩, 47) := ⟨⟨by decide +kernel, by decide +kernel⟩, List.mem_of_getElem? (i := 1273) (by decide +kernel), List.mem_of_getElem? (i := 1546) (by decide +kernel), List.mem_of_getElem? (i := 1547) (by decide +kernel)⟩
theorem lw_p66 : lw_okq (⟨"SecondLeftModel", "streetClause", "(I)I"⟩, 47) := ⟨⟨by decide +kernel, by decide +kernel⟩, List.mem_of_getElem? (i := 1273) (by decide +kernel), List.mem_of_getElem? (i := 1550) (by decide +kernel), List.mem_of_getElem? (i := 1551) (by decide +kernel)⟩
theorem lw_p67 : lw_okq (⟨"SecondLeftModel", "worded", "(JIII)I"⟩, 47) := ⟨⟨by decide +kernel, by decide +kernel⟩, List.mem_of_getElem? (i := 1273) (by decide +kernel), List.mem_of_getElem? (i := 1554) (by decide +kernel), List.mem_of_getElem? (i := 1555) (by decide +kernel)⟩
theorem lw_p68 : lw_okq (⟨"SecondLeftModel", "tellingClause", "(I)I"⟩, 47) := ⟨⟨by decide +kernel, by decide +kernel⟩, List.mem_of_getElem? (i := 1273) (by decide +kernel), List.mem_of_getElem? (i := 1558) (by decide +kernel), List.mem_of_getElem? (i := 1559) (by decide +kernel)⟩
theorem lw_p69 : lw_okq (⟨"SecondLeftModel", "oneTurn", "(II)I"⟩, 47) := ⟨⟨by decide +kernel, by decide +kernel⟩, List.mem_of_getElem? (i := 1273) (by decide +kernel), List.mem_of_getElem? (i := 1562) (by decide +kernel), List.mem_of_getElem? (i := 1563) (by decide +kernel)⟩
theorem lw_p70 : lw_okq (⟨"SecondLeftModel", "sideOf", "(J)I"⟩, 47) := ⟨⟨by decide +kernel, by decide +kernel⟩, List.mem_of_getElem? (i := 1273) (by decide +kernel), List.mem_of_getElem? (i := 1566) (by decide +kernel), List.mem_of_getElem? (i := 1567) (by decide +kernel)⟩
theorem lw_p71 : lw_okq (⟨"SecondLeftModel", "startClause", "(I)I"⟩, 47) := ⟨⟨by decide +kernel, by decide +kernel⟩, List.mem_of_getElem? (i := 1273) (by decide +kernel), List.mem_of_getElem? (i := 1570) (by decide +kernel), List.mem_of_getElem? (i := 1571) (by decide +kernel)⟩
theorem lw_p72 : lw_okq (⟨"SecondLeftModel", "turnClause", "(I)I"⟩, 47) := ⟨⟨by decide +kernel, by decide +kernel⟩, List.mem_of_getElem? (i := 1273) (by decide +kernel), List.mem_of_getElem? (i := 1574) (by decide +kernel), List.mem_of_getElem? (i := 1575) (by decide +kernel)⟩
theorem lw_p73 : lw_okq (⟨"SecondLeftModel", "lawClause", "(I)I"⟩, 47) := ⟨⟨by decide +kernel, by decide +kernel⟩, List.mem_of_getElem? (i := 1273) (by decide +kernel), List.mem_of_getElem? (i := 1578) (by decide +kernel), List.mem_of_getElem? (i := 1579) (by decide +kernel)⟩
theorem lw_p74 : lw_okq (⟨"SecondLeftModel", "summed", "()I"⟩, 47) := ⟨⟨by decide +kernel, by decide +kernel⟩, List.mem_of_getElem? (i := 1273) (by decide +kernel), List.mem_of_getElem? (i := 1582) (by decide +kernel), List.mem_of_getElem? (i := 1583) (by decide +kernel)⟩
theorem lw_p75 : lw_okq (⟨"SecondLeftModel", "behindOne", "()I"⟩, 47) := ⟨⟨by decide +kernel, by decide +kernel⟩, List.mem_of_getElem? (i := 1273) (by decide +kernel), List.mem_of_getElem? (i := 1586) (by decide +kernel), List.mem_of_getElem? (i := 1587) (by decide +kernel)⟩
theorem lw_p76 : lw_okq (⟨"SecondLeftModel", "settlePile", "(I)V"⟩, 47) := ⟨⟨by decide +kernel, by decide +kernel⟩, List.mem_of_getElem? (i := 1273) (by decide +kernel), List.mem_of_getElem? (i := 1593) (by decide +kernel), List.mem_of_getElem? (i := 1594) (by decide +kernel)⟩
theorem lw_p77 : lw_okq (⟨"SecondLeftModel", "emit", "(II)V"⟩, 47) := ⟨⟨by decide +kernel, by decide +kernel⟩, List.mem_of_getElem? (i := 1273) (by decide +kernel), List.mem_of_getElem? (i := 1597) (by decide +kernel), List.mem_of_getElem? (i := 1598) (by decide +kernel)⟩
theorem lw_p78 : lw_okq (⟨"SecondLeftModel", "openAt", "()I"⟩, 47) := ⟨⟨by decide +kernel, by decide +kernel⟩, List.mem_of_getElem? (i := 1273) (by decide +kernel), List.mem_of_getElem? (i := 1601) (by decide +kernel), List.mem_of_getElem? (i := 1602) (by decide +kernel)⟩
theorem lw_p79 : lw_okq (⟨"SecondLeftModel", "shut", "(I)V"⟩, 47) := ⟨⟨by decide +kernel, by decide +kernel⟩, List.mem_of_getElem? (i := 1273) (by decide +kernel), List.mem_of_getElem? (i := 1605) (by decide +kernel), List.mem_of_getElem? (i := 1606) (by decide +kernel)⟩
def lw_privs_5 : List (MethodName × Nat) := [(⟨"SecondLeftModel", "body", "(II)I"⟩, 47), (⟨"SecondLeftModel", "figure", "(III)I"⟩, 47), (⟨"SecondLeftModel", "streetClause", "(I)I"⟩, 47), (⟨"SecondLeftModel", "worded", "(JIII)I"⟩, 47), (⟨"SecondLeftModel", "tellingClause", "(I)I"⟩, 47), (⟨"SecondLeftModel", "oneTurn", "(II)I"⟩, 47), (⟨"SecondLeftModel", "sideOf", "(J)I"⟩, 47), (⟨"SecondLeftModel", "startClause", "(I)I"⟩, 47), (⟨"SecondLeftModel", "turnClause", "(I)I"⟩, 47), (⟨"SecondLeftModel", "lawClause", "(I)I"⟩, 47), (⟨"SecondLeftModel", "summed", "()I"⟩, 47), (⟨"SecondLeftModel", "behindOne", "()I"⟩, 47), (⟨"SecondLeftModel", "settlePile", "(I)V"⟩, 47), (⟨"SecondLeftModel", "emit", "(II)V"⟩, 47), (⟨"SecondLeftModel", "openAt", "()I"⟩, 47), (⟨"SecondLeftModel", "shut", "(I)V"⟩, 47)]
theorem lw_r5 : ∀ q ∈ lw_privs_5, lw_okq q := List.forall_mem_cons.mpr ⟨lw_p64, List.forall_mem_cons.mpr ⟨lw_p65, List.forall_mem_cons.mpr ⟨lw_p66, List.forall_mem_cons.mpr ⟨lw_p67, List.forall_mem_cons.mpr ⟨lw_p68, List.forall_mem_cons.mpr ⟨lw_p69, List.forall_mem_cons.mpr ⟨lw_p70, List.forall_mem_cons.mpr ⟨lw_p71, List.forall_mem_cons.mpr ⟨lw_p72, List.forall_mem_cons.mpr ⟨lw_p73, List.forall_mem_cons.mpr ⟨lw_p74, List.forall_mem_cons.mpr ⟨lw_p75, List.forall_mem_cons.mpr ⟨lw_p76, List.forall_mem_cons.mpr ⟨lw_p77, List.forall_mem_cons.mpr ⟨lw_p78, List.forall_mem_cons.mpr ⟨lw_p79, fun _ h => absurd h List.not_mem_nil⟩⟩⟩⟩⟩⟩⟩⟩⟩⟩⟩⟩⟩⟩⟩⟩
theorem lw_p80 : lw_okq (⟨"SecondLeftModel", "beginOne", "()I"⟩, 47) := ⟨⟨by decide +kernel, by decide +kernel⟩, List.mem_of_getElem? (i := 1273) (by decide +kernel), List.mem_of_getElem? (i := 1609) (by decide +kernel), List.mem_of_getElem? (i := 1610) (by decide +kernel)⟩
theorem lw_p81 : lw_okq (⟨"SecondLeftModel", "nameOf", "()I"⟩, 47) := ⟨⟨by decide +kernel, by decide +kernel⟩, List.mem_of_getElem? (i := 1273) (by decide +kernel), List.mem_of_getElem? (i := 1613) (by decide +kernel), List.mem_of_getElem? (i := 1614) (by decide +kernel)⟩
theorem lw_p82 : lw_okq (⟨"SecondLeftModel", "isOf", "(I)Z"⟩, 47) := ⟨⟨by decide +kernel, by decide +kernel⟩, List.mem_of_getElem? (i := 1273) (by decide +kernel), List.mem_of_getElem? (i := 1617) (by decide +kernel), List.mem_of_getElem? (i := 1618) (by decide +kernel)⟩
theorem lw_p83 : lw_okq (⟨"SecondLeftModel", "opened", "(I)I"⟩, 47) := ⟨⟨by decide +kernel, by decide +kernel⟩, List.mem_of_getElem? (i := 1273) (by decide +kernel), List.mem_of_getElem? (i := 1621) (by decide +kernel), List.mem_of_getElem? (i := 1622) (by decide +kernel)⟩
theorem lw_p84 : lw_okq (⟨"SecondLeftModel", "keep", "()V"⟩, 47) := ⟨⟨by decide +kernel, by decide +kernel⟩, List.mem_of_getElem? (i := 1273) (by decide +kernel), List.mem_of_getElem? (i := 1641) (by decide +kernel), List.mem_of_getElem? (i := 1642) (by decide +kernel)⟩
theorem lw_p85 : lw_okq (⟨"SecondLeftModel", "startNow", "(II)V"⟩, 47) := ⟨⟨by decide +kernel, by decide +kernel⟩, List.mem_of_getElem? (i := 1273) (by decide +kernel), List.mem_of_getElem? (i := 1645) (by decide +kernel), List.mem_of_getElem? (i := 1646) (by decide +kernel)⟩
theorem lw_p86 : lw_okq (⟨"SecondLeftModel", "isWalker", "()Z"⟩, 47) := ⟨⟨by decide +kernel, by decide +kernel⟩, List.mem_of_getElem? (i := 1273) (by decide +kernel), List.mem_of_getElem? (i := 1653) (by decide +kernel), List.mem_of_getElem? (i := 1654) (by decide +kernel)⟩
theorem lw_p87 : lw_okq (⟨"SecondLeftModel", "walkable", "(I)I"⟩, 47) := ⟨⟨by decide +kernel, by decide +kernel⟩, List.mem_of_getElem? (i := 1273) (by decide +kernel), List.mem_of_getElem? (i := 1657) (by decide +kernel), List.mem_of_getElem? (i := 1658) (by decide +kernel)⟩
theorem lw_p88 : lw_okq (⟨"SecondLeftModel", "walkSo", "(I)V"⟩, 47) := ⟨⟨by decide +kernel, by decide +kernel⟩, List.mem_of_getElem? (i := 1273) (by decide +kernel), List.mem_of_getElem? (i := 1661) (by decide +kernel), List.mem_of_getElem? (i := 1662) (by decide +kernel)⟩
theorem lw_p89 : lw_okq (⟨"SecondLeftModel", "walkNow", "()V"⟩, 47) := ⟨⟨by decide +kernel, by decide +kernel⟩, List.mem_of_getElem? (i := 1273) (by decide +kernel), List.mem_of_getElem? (i := 1665) (by decide +kernel), List.mem_of_getElem? (i := 1666) (by decide +kernel)⟩
theorem lw_p90 : lw_okq (⟨"SecondLeftModel", "paceOf", "(II)I"⟩, 47) := ⟨⟨by decide +kernel, by decide +kernel⟩, List.mem_of_getElem? (i := 1273) (by decide +kernel), List.mem_of_getElem? (i := 1669) (by decide +kernel), List.mem_of_getElem? (i := 1670) (by decide +kernel)⟩
theorem lw_p91 : lw_okq (⟨"SecondLeftModel", "isLane", "(II)Z"⟩, 47) := ⟨⟨by decide +kernel, by decide +kernel⟩, List.mem_of_getElem? (i := 1273) (by decide +kernel), List.mem_of_getElem? (i := 1673) (by decide +kernel), List.mem_of_getElem? (i := 1674) (by decide +kernel)⟩
theorem lw_p92 : lw_okq (⟨"SecondLeftModel", "sightOf", "(I)I"⟩, 47) := ⟨⟨by decide +kernel, by decide +kernel⟩, List.mem_of_getElem? (i := 1273) (by decide +kernel), List.mem_of_getElem? (i := 1677) (by decide +kernel), List.mem_of_getElem? (i := 1678) (by decide +kernel)⟩
theorem lw_p93 : lw_okq (⟨"SecondLeftModel", "says", "(IIII)I"⟩, 47) := ⟨⟨by decide +kernel, by decide +kernel⟩, List.mem_of_getElem? (i := 1273) (by decide +kernel), List.mem_of_getElem? (i := 1681) (by decide +kernel), List.mem_of_getElem? (i := 1682) (by decide +kernel)⟩
theorem lw_p94 : lw_okq (⟨"SecondLeftModel", "worked", "(I)I"⟩, 47) := ⟨⟨by decide +kernel, by decide +kernel⟩, List.mem_of_getElem? (i := 1273) (by decide +kernel), List.mem_of_getElem? (i := 1685) (by decide +kernel), List.mem_of_getElem? (i := 1686) (by decide +kernel)⟩
theorem lw_p95 : lw_okq (⟨"SecondLeftModel", "cornerOf", "(I)I"⟩, 47) := ⟨⟨by decide +kernel, by decide +kernel⟩, List.mem_of_getElem? (i := 1273) (by decide +kernel), List.mem_of_getElem? (i := 1708) (by decide +kernel), List.mem_of_getElem? (i := 1709) (by decide +kernel)⟩
def lw_privs_6 : List (MethodName × Nat) := [(⟨"SecondLeftModel", "beginOne", "()I"⟩, 47), (⟨"SecondLeftModel", "nameOf", "()I"⟩, 47), (⟨"SecondLeftModel", "isOf", "(I)Z"⟩, 47), (⟨"SecondLeftModel", "opened", "(I)I"⟩, 47), (⟨"SecondLeftModel", "keep", "()V"⟩, 47), (⟨"SecondLeftModel", "startNow", "(II)V"⟩, 47), (⟨"SecondLeftModel", "isWalker", "()Z"⟩, 47), (⟨"SecondLeftModel", "walkable", "(I)I"⟩, 47), (⟨"SecondLeftModel", "walkSo", "(I)V"⟩, 47), (⟨"SecondLeftModel", "walkNow", "()V"⟩, 47), (⟨"SecondLeftModel", "paceOf", "(II)I"⟩, 47), (⟨"SecondLeftModel", "isLane", "(II)Z"⟩, 47), (⟨"SecondLeftModel", "sightOf", "(I)I"⟩, 47), (⟨"SecondLeftModel", "says", "(IIII)I"⟩, 47), (⟨"SecondLeftModel", "worked", "(I)I"⟩, 47), (⟨"SecondLeftModel", "cornerOf", "(I)I"⟩, 47)]
theorem lw_r6 : ∀ q ∈ lw_privs_6, lw_okq q := List.forall_mem_cons.mpr ⟨lw_p80, List.forall_mem_cons.mpr ⟨lw_p81, List.forall_mem_cons.mpr ⟨lw_p82, List.forall_mem_cons.mpr ⟨lw_p83, List.forall_mem_cons.mpr ⟨lw_p84, List.forall_mem_cons.mpr ⟨lw_p85, List.forall_mem_cons.mpr ⟨lw_p86, List.forall_mem_cons.mpr ⟨lw_p87, List.forall_mem_cons.mpr ⟨lw_p88, List.forall_mem_cons.mpr ⟨lw_p89, List.forall_mem_cons.mpr ⟨lw_p90, List.forall_mem_cons.mpr ⟨lw_p91, List.forall_mem_cons.mpr ⟨lw_p92, List.forall_mem_cons.mpr ⟨lw_p93, List.forall_mem_cons.mpr ⟨lw_p94, List.forall_mem_cons.mpr ⟨lw_p95, fun _ h => absurd h List.not_mem_nil⟩⟩⟩⟩⟩⟩⟩⟩⟩⟩⟩⟩⟩⟩⟩⟩
theorem lw_p96 : lw_okq (⟨"SecondLeftModel", "askNow", "(I)V"⟩, 47) := ⟨⟨by decide +kernel, by decide +kernel⟩, List.mem_of_getElem? (i := 1273) (by decide +kernel), List.mem_of_getElem? (i := 1712) (by decide +kernel), List.mem_of_getElem? (i := 1713) (by decide +kernel)⟩
theorem lw_p97 : lw_okq (⟨"SecondLeftModel", "asksOf", "(I)I"⟩, 47) := ⟨⟨by decide +kernel, by decide +kernel⟩, List.mem_of_getElem? (i := 1273) (by decide +kernel), List.mem_of_getElem? (i := 1716) (by decide +kernel), List.mem_of_getElem? (i := 1717) (by decide +kernel)⟩
theorem lw_p98 : lw_okq (⟨"SecondLeftModel", "nameTeller", "(I)V"⟩, 47) := ⟨⟨by decide +kernel, by decide +kernel⟩, List.mem_of_getElem? (i := 1273) (by decide +kernel), List.mem_of_getElem? (i := 1720) (by decide +kernel), List.mem_of_getElem? (i := 1721) (by decide +kernel)⟩
theorem lw_p99 : lw_okq (⟨"SecondLeftModel", "isTelling", "(I)Z"⟩, 47) := ⟨⟨by decide +kernel, by decide +kernel⟩, List.mem_of_getElem? (i := 1273) (by decide +kernel), List.mem_of_getElem? (i := 1728) (by decide +kernel), List.mem_of_getElem? (i := 1729) (by decide +kernel)⟩
theorem lw_p100 : lw_okq (⟨"SecondLeftModel", "takeTurns", "(II)V"⟩, 47) := ⟨⟨by decide +kernel, by decide +kernel⟩, List.mem_of_getElem? (i := 1273) (by decide +kernel), List.mem_of_getElem? (i := 1732) (by decide +kernel), List.mem_of_getElem? (i := 1733) (by decide +kernel)⟩
theorem lw_p101 : lw_okq (⟨"SecondLeftModel", "turnsOf", "(I)I"⟩, 47) := ⟨⟨by decide +kernel, by decide +kernel⟩, List.mem_of_getElem? (i := 1273) (by decide +kernel), List.mem_of_getElem? (i := 1736) (by decide +kernel), List.mem_of_getElem? (i := 1737) (by decide +kernel)⟩
theorem lw_p102 : lw_okq (⟨"SecondLeftModel", "turnAt", "(II)I"⟩, 47) := ⟨⟨by decide +kernel, by decide +kernel⟩, List.mem_of_getElem? (i := 1273) (by decide +kernel), List.mem_of_getElem? (i := 1740) (by decide +kernel), List.mem_of_getElem? (i := 1741) (by decide +kernel)⟩
theorem lw_p103 : lw_okq (⟨"SecondLeftModel", "begin", "(II)V"⟩, 47) := ⟨⟨by decide +kernel, by decide +kernel⟩, List.mem_of_getElem? (i := 1273) (by decide +kernel), List.mem_of_getElem? (i := 1744) (by decide +kernel), List.mem_of_getElem? (i := 1745) (by decide +kernel)⟩
theorem lw_p104 : lw_okq (⟨"SecondLeftModel", "goAll", "(I)Z"⟩, 47) := ⟨⟨by decide +kernel, by decide +kernel⟩, List.mem_of_getElem? (i := 1273) (by decide +kernel), List.mem_of_getElem? (i := 1748) (by decide +kernel), List.mem_of_getElem? (i := 1749) (by decide +kernel)⟩
theorem lw_p105 : lw_okq (⟨"SecondLeftModel", "goTurn", "(II)Z"⟩, 47) := ⟨⟨by decide +kernel, by decide +kernel⟩, List.mem_of_getElem? (i := 1273) (by decide +kernel), List.mem_of_getElem? (i := 1752) (by decide +kernel), List.mem_of_getElem? (i := 1753) (by decide +kernel)⟩
theorem lw_p106 : lw_okq (⟨"SecondLeftModel", "goOn", "()Z"⟩, 47) := ⟨⟨by decide +kernel, by decide +kernel⟩, List.mem_of_getElem? (i := 1273) (by decide +kernel), List.mem_of_getElem? (i := 1756) (by decide +kernel), List.mem_of_getElem? (i := 1757) (by decide +kernel)⟩
theorem lw_p107 : lw_okq (⟨"SecondLeftModel", "isDoubt", "(I)Z"⟩, 47) := ⟨⟨by decide +kernel, by decide +kernel⟩, List.mem_of_getElem? (i := 1273) (by decide +kernel), List.mem_of_getElem? (i := 1760) (by decide +kernel), List.mem_of_getElem? (i := 1761) (by decide +kernel)⟩
theorem lw_p108 : lw_okq (⟨"SecondLeftModel", "isCounted", "(II)Z"⟩, 47) := ⟨⟨by decide +kernel, by decide +kernel⟩, List.mem_of_getElem? (i := 1273) (by decide +kernel), List.mem_of_getElem? (i := 1764) (by decide +kernel), List.mem_of_getElem? (i := 1765) (by decide +kernel)⟩
theorem lw_p109 : lw_okq (⟨"SecondLeftModel", "isPlayed", "(I)Z"⟩, 47) := ⟨⟨by decide +kernel, by decide +kernel⟩, List.mem_of_getElem? (i := 1273) (by decide +kernel), List.mem_of_getElem? (i := 1772) (by decide +kernel), List.mem_of_getElem? (i := 1773) (by decide +kernel)⟩
theorem lw_p110 : lw_okq (⟨"SecondLeftModel", "isTaught", "(I)Z"⟩, 47) := ⟨⟨by decide +kernel, by decide +kernel⟩, List.mem_of_getElem? (i := 1273) (by decide +kernel), List.mem_of_getElem? (i := 1780) (by decide +kernel), List.mem_of_getElem? (i := 1781) (by decide +kernel)⟩
theorem lw_p111 : lw_okq (⟨"SecondLeftModel", "isWalked", "(I)Z"⟩, 47) := ⟨⟨by decide +kernel, by decide +kernel⟩, List.mem_of_getElem? (i := 1273) (by decide +kernel), List.mem_of_getElem? (i := 1785) (by decide +kernel), List.mem_of_getElem? (i := 1786) (by decide +kernel)⟩
def lw_privs_7 : List (MethodName × Nat) := [(⟨"SecondLeftModel", "askNow", "(I)V"⟩, 47), (⟨"SecondLeftModel", "asksOf", "(I)I"⟩, 47), (⟨"SecondLeftModel", "nameTeller", "(I)V"⟩, 47), (⟨"SecondLeftModel", "isTelling", "(I)Z"⟩, 47), (⟨"SecondLeftModel", "takeTurns", "(II)V"⟩, 47), (⟨"SecondLeftModel", "turnsOf", "(I)I"⟩, 47), (⟨"SecondLeftModel", "turnAt", "(II)I"⟩, 47), (⟨"SecondLeftModel", "begin", "(II)V"⟩, 47), (⟨"SecondLeftModel", "goAll", "(I)Z"⟩, 47), (⟨"SecondLeftModel", "goTurn", "(II)Z"⟩, 47), (⟨"SecondLeftModel", "goOn", "()Z"⟩, 47), (⟨"SecondLeftModel", "isDoubt", "(I)Z"⟩, 47), (⟨"SecondLeftModel", "isCounted", "(II)Z"⟩, 47), (⟨"SecondLeftModel", "isPlayed", "(I)Z"⟩, 47), (⟨"SecondLeftModel", "isTaught", "(I)Z"⟩, 47), (⟨"SecondLeftModel", "isWalked", "(I)Z"⟩, 47)]
theorem lw_r7 : ∀ q ∈ lw_privs_7, lw_okq q := List.forall_mem_cons.mpr ⟨lw_p96, List.forall_mem_cons.mpr ⟨lw_p97, List.forall_mem_cons.mpr ⟨lw_p98, List.forall_mem_cons.mpr ⟨lw_p99, List.forall_mem_cons.mpr ⟨lw_p100, List.forall_mem_cons.mpr ⟨lw_p101, List.forall_mem_cons.mpr ⟨lw_p102, List.forall_mem_cons.mpr ⟨lw_p103, List.forall_mem_cons.mpr ⟨lw_p104, List.forall_mem_cons.mpr ⟨lw_p105, List.forall_mem_cons.mpr ⟨lw_p106, List.forall_mem_cons.mpr ⟨lw_p107, List.forall_mem_cons.mpr ⟨lw_p108, List.forall_mem_cons.mpr ⟨lw_p109, List.forall_mem_cons.mpr ⟨lw_p110, List.forall_mem_cons.mpr ⟨lw_p111, fun _ h => absurd h List.not_mem_nil⟩⟩⟩⟩⟩⟩⟩⟩⟩⟩⟩⟩⟩⟩⟩⟩
theorem lw_p112 : lw_okq (⟨"SecondLeftModel", "anew", "()V"⟩, 47) := ⟨⟨by decide +kernel, by decide +kernel⟩, List.mem_of_getElem? (i := 1273) (by decide +kernel), List.mem_of_getElem? (i := 1796) (by decide +kernel), List.mem_of_getElem? (i := 1797) (by decide +kernel)⟩
theorem lw_p113 : lw_okq (⟨"SecondLeftModel", "oneOfDay", "()V"⟩, 47) := ⟨⟨by decide +kernel, by decide +kernel⟩, List.mem_of_getElem? (i := 1273) (by decide +kernel), List.mem_of_getElem? (i := 1800) (by decide +kernel), List.mem_of_getElem? (i := 1801) (by decide +kernel)⟩
theorem lw_p114 : lw_okq (⟨"SecondLeftModel", "isAhead", "()Z"⟩, 47) := ⟨⟨by decide +kernel, by decide +kernel⟩, List.mem_of_getElem? (i := 1273) (by decide +kernel), List.mem_of_getElem? (i := 1804) (by decide +kernel), List.mem_of_getElem? (i := 1805) (by decide +kernel)⟩
theorem lw_p115 : lw_okq (⟨"SecondLeftModel", "slipOf", "(II)I"⟩, 47) := ⟨⟨by decide +kernel, by decide +kernel⟩, List.mem_of_getElem? (i := 1273) (by decide +kernel), List.mem_of_getElem? (i := 1824) (by decide +kernel), List.mem_of_getElem? (i := 1825) (by decide +kernel)⟩
theorem lw_p116 : lw_okq (⟨"SecondLeftModel", "tellerOf", "(I)I"⟩, 47) := ⟨⟨by decide +kernel, by decide +kernel⟩, List.mem_of_getElem? (i := 1273) (by decide +kernel), List.mem_of_getElem? (i := 1828) (by decide +kernel), List.mem_of_getElem? (i := 1829) (by decide +kernel)⟩
theorem lw_p117 : lw_okq (⟨"SecondLeftModel", "facingOf", "(I)I"⟩, 47) := ⟨⟨by decide +kernel, by decide +kernel⟩, List.mem_of_getElem? (i := 1273) (by decide +kernel), List.mem_of_getElem? (i := 1832) (by decide +kernel), List.mem_of_getElem? (i := 1833) (by decide +kernel)⟩
theorem lw_p118 : lw_okq (⟨"SecondLeftModel", "leadsOf", "(II)I"⟩, 47) := ⟨⟨by decide +kernel, by decide +kernel⟩, List.mem_of_getElem? (i := 1273) (by decide +kernel), List.mem_of_getElem? (i := 1840) (by decide +kernel), List.mem_of_getElem? (i := 1841) (by decide +kernel)⟩
theorem lw_p119 : lw_okq (⟨"SecondLeftModel", "findWays", "(I)V"⟩, 47) := ⟨⟨by decide +kernel, by decide +kernel⟩, List.mem_of_getElem? (i := 1273) (by decide +kernel), List.mem_of_getElem? (i := 1848) (by decide +kernel), List.mem_of_getElem? (i := 1849) (by decide +kernel)⟩
theorem lw_p120 : lw_okq (⟨"SecondLeftModel", "findWeights", "(I)V"⟩, 47) := ⟨⟨by decide +kernel, by decide +kernel⟩, List.mem_of_getElem? (i := 1273) (by decide +kernel), List.mem_of_getElem? (i := 1852) (by decide +kernel), List.mem_of_getElem? (i := 1853) (by decide +kernel)⟩
theorem lw_p121 : lw_okq (⟨"SecondLeftModel", "weightTo", "(I)I"⟩, 47) := ⟨⟨by decide +kernel, by decide +kernel⟩, List.mem_of_getElem? (i := 1273) (by decide +kernel), List.mem_of_getElem? (i := 1856) (by decide +kernel), List.mem_of_getElem? (i := 1857) (by decide +kernel)⟩
theorem lw_p122 : lw_okq (⟨"SecondLeftModel", "findProducts", "(I)Z"⟩, 47) := ⟨⟨by decide +kernel, by decide +kernel⟩, List.mem_of_getElem? (i := 1273) (by decide +kernel), List.mem_of_getElem? (i := 1864) (by decide +kernel), List.mem_of_getElem? (i := 1865) (by decide +kernel)⟩
theorem lw_p123 : lw_okq (⟨"SecondLeftModel", "findLeads", "()V"⟩, 47) := ⟨⟨by decide +kernel, by decide +kernel⟩, List.mem_of_getElem? (i := 1273) (by decide +kernel), List.mem_of_getElem? (i := 1882) (by decide +kernel), List.mem_of_getElem? (i := 1883) (by decide +kernel)⟩
theorem lw_p124 : lw_okq (⟨"SecondLeftModel", "findFar", "(I)V"⟩, 47) := ⟨⟨by decide +kernel, by decide +kernel⟩, List.mem_of_getElem? (i := 1273) (by decide +kernel), List.mem_of_getElem? (i := 1902) (by decide +kernel), List.mem_of_getElem? (i := 1903) (by decide +kernel)⟩
theorem lw_p125 : lw_okq (⟨"SecondLeftModel", "nearest", "(I)I"⟩, 47) := ⟨⟨by decide +kernel, by decide +kernel⟩, List.mem_of_getElem? (i := 1273) (by decide +kernel), List.mem_of_getElem? (i := 1907) (by decide +kernel), List.mem_of_getElem? (i := 1908) (by decide +kernel)⟩
theorem lw_p126 : lw_okq (⟨"SecondLeftModel", "findOrder", "(I)Z"⟩, 47) := ⟨⟨by decide +kernel, by decide +kernel⟩, List.mem_of_getElem? (i := 1273) (by decide +kernel), List.mem_of_getElem? (i := 1915) (by decide +kernel), List.mem_of_getElem? (i := 1916) (by decide +kernel)⟩
theorem lw_p127 : lw_okq (⟨"SecondLeftModel", "timeOf", "()J"⟩, 47) := ⟨⟨by decide +kernel, by decide +kernel⟩, List.mem_of_getElem? (i := 1273) (by decide +kernel), List.mem_of_getElem? (i := 1919) (by decide +kernel), List.mem_of_getElem? (i := 1920) (by decide +kernel)⟩
def lw_privs_8 : List (MethodName × Nat) := [(⟨"SecondLeftModel", "anew", "()V"⟩, 47), (⟨"SecondLeftModel", "oneOfDay", "()V"⟩, 47), (⟨"SecondLeftModel", "isAhead", "()Z"⟩, 47), (⟨"SecondLeftModel", "slipOf", "(II)I"⟩, 47), (⟨"SecondLeftModel", "tellerOf", "(I)I"⟩, 47), (⟨"SecondLeftModel", "facingOf", "(I)I"⟩, 47), (⟨"SecondLeftModel", "leadsOf", "(II)I"⟩, 47), (⟨"SecondLeftModel", "findWays", "(I)V"⟩, 47), (⟨"SecondLeftModel", "findWeights", "(I)V"⟩, 47), (⟨"SecondLeftModel", "weightTo", "(I)I"⟩, 47), (⟨"SecondLeftModel", "findProducts", "(I)Z"⟩, 47), (⟨"SecondLeftModel", "findLeads", "()V"⟩, 47), (⟨"SecondLeftModel", "findFar", "(I)V"⟩, 47), (⟨"SecondLeftModel", "nearest", "(I)I"⟩, 47), (⟨"SecondLeftModel", "findOrder", "(I)Z"⟩, 47), (⟨"SecondLeftModel", "timeOf", "()J"⟩, 47)]
theorem lw_r8 : ∀ q ∈ lw_privs_8, lw_okq q := List.forall_mem_cons.mpr ⟨lw_p112, List.forall_mem_cons.mpr ⟨lw_p113, List.forall_mem_cons.mpr ⟨lw_p114, List.forall_mem_cons.mpr ⟨lw_p115, List.forall_mem_cons.mpr ⟨lw_p116, List.forall_mem_cons.mpr ⟨lw_p117, List.forall_mem_cons.mpr ⟨lw_p118, List.forall_mem_cons.mpr ⟨lw_p119, List.forall_mem_cons.mpr ⟨lw_p120, List.forall_mem_cons.mpr ⟨lw_p121, List.forall_mem_cons.mpr ⟨lw_p122, List.forall_mem_cons.mpr ⟨lw_p123, List.forall_mem_cons.mpr ⟨lw_p124, List.forall_mem_cons.mpr ⟨lw_p125, List.forall_mem_cons.mpr ⟨lw_p126, List.forall_mem_cons.mpr ⟨lw_p127, fun _ h => absurd h List.not_mem_nil⟩⟩⟩⟩⟩⟩⟩⟩⟩⟩⟩⟩⟩⟩⟩⟩
theorem lw_p128 : lw_okq (⟨"SecondLeftModel", "nextOrder", "()Z"⟩, 47) := ⟨⟨by decide +kernel, by decide +kernel⟩, List.mem_of_getElem? (i := 1273) (by decide +kernel), List.mem_of_getElem? (i := 1923) (by decide +kernel), List.mem_of_getElem? (i := 1924) (by decide +kernel)⟩
theorem lw_p129 : lw_okq (⟨"SecondLeftModel", "timeByAsking", "(I)J"⟩, 47) := ⟨⟨by decide +kernel, by decide +kernel⟩, List.mem_of_getElem? (i := 1273) (by decide +kernel), List.mem_of_getElem? (i := 1931) (by decide +kernel), List.mem_of_getElem? (i := 1932) (by decide +kernel)⟩
theorem lw_p130 : lw_okq (⟨"SecondLeftModel", "safeOf", "(II)I"⟩, 47) := ⟨⟨by decide +kernel, by decide +kernel⟩, List.mem_of_getElem? (i := 1273) (by decide +kernel), List.mem_of_getElem? (i := 1939) (by decide +kernel), List.mem_of_getElem? (i := 1940) (by decide +kernel)⟩
theorem lw_p131 : lw_okq (⟨"SecondLeftModel", "stateOf", "(III)I"⟩, 47) := ⟨⟨by decide +kernel, by decide +kernel⟩, List.mem_of_getElem? (i := 1273) (by decide +kernel), List.mem_of_getElem? (i := 1943) (by decide +kernel), List.mem_of_getElem? (i := 1944) (by decide +kernel)⟩
theorem lw_p132 : lw_okq (⟨"SecondLeftModel", "findTelling", "(III)Z"⟩, 47) := ⟨⟨by decide +kernel, by decide +kernel⟩, List.mem_of_getElem? (i := 1273) (by decide +kernel), List.mem_of_getElem? (i := 1968) (by decide +kernel), List.mem_of_getElem? (i := 1969) (by decide +kernel)⟩
theorem lw_p133 : lw_okq (⟨"SecondLeftModel", "leadsToGoal", "(III)Z"⟩, 47) := ⟨⟨by decide +kernel, by decide +kernel⟩, List.mem_of_getElem? (i := 1273) (by decide +kernel), List.mem_of_getElem? (i := 1975) (by decide +kernel), List.mem_of_getElem? (i := 1976) (by decide +kernel)⟩
theorem lw_p134 : lw_okq (⟨"SecondLeftModel", "findShown", "()V"⟩, 47) := ⟨⟨by decide +kernel, by decide +kernel⟩, List.mem_of_getElem? (i := 1273) (by decide +kernel), List.mem_of_getElem? (i := 1991) (by decide +kernel), List.mem_of_getElem? (i := 1992) (by decide +kernel)⟩
theorem lw_p135 : lw_okq (⟨"SecondLeftModel", "areEnough", "(I)Z"⟩, 47) := ⟨⟨by decide +kernel, by decide +kernel⟩, List.mem_of_getElem? (i := 1273) (by decide +kernel), List.mem_of_getElem? (i := 1995) (by decide +kernel), List.mem_of_getElem? (i := 1996) (by decide +kernel)⟩
theorem lw_p136 : lw_okq (⟨"SecondLeftModel", "comesToGoal", "(III)Z"⟩, 47) := ⟨⟨by decide +kernel, by decide +kernel⟩, List.mem_of_getElem? (i := 1273) (by decide +kernel), List.mem_of_getElem? (i := 1999) (by decide +kernel), List.mem_of_getElem? (i := 2000) (by decide +kernel)⟩
theorem lw_p137 : lw_okq (⟨"SecondLeftModel", "directionFrom", "(III)I"⟩, 47) := ⟨⟨by decide +kernel, by decide +kernel⟩, List.mem_of_getElem? (i := 1273) (by decide +kernel), List.mem_of_getElem? (i := 2003) (by decide +kernel), List.mem_of_getElem? (i := 2004) (by decide +kernel)⟩
def lw_privs_9 : List (MethodName × Nat) := [(⟨"SecondLeftModel", "nextOrder", "()Z"⟩, 47), (⟨"SecondLeftModel", "timeByAsking", "(I)J"⟩, 47), (⟨"SecondLeftModel", "safeOf", "(II)I"⟩, 47), (⟨"SecondLeftModel", "stateOf", "(III)I"⟩, 47), (⟨"SecondLeftModel", "findTelling", "(III)Z"⟩, 47), (⟨"SecondLeftModel", "leadsToGoal", "(III)Z"⟩, 47), (⟨"SecondLeftModel", "findShown", "()V"⟩, 47), (⟨"SecondLeftModel", "areEnough", "(I)Z"⟩, 47), (⟨"SecondLeftModel", "comesToGoal", "(III)Z"⟩, 47), (⟨"SecondLeftModel", "directionFrom", "(III)I"⟩, 47)]
theorem lw_r9 : ∀ q ∈ lw_privs_9, lw_okq q := List.forall_mem_cons.mpr ⟨lw_p128, List.forall_mem_cons.mpr ⟨lw_p129, List.forall_mem_cons.mpr ⟨lw_p130, List.forall_mem_cons.mpr ⟨lw_p131, List.forall_mem_cons.mpr ⟨lw_p132, List.forall_mem_cons.mpr ⟨lw_p133, List.forall_mem_cons.mpr ⟨lw_p134, List.forall_mem_cons.mpr ⟨lw_p135, List.forall_mem_cons.mpr ⟨lw_p136, List.forall_mem_cons.mpr ⟨lw_p137, fun _ h => absurd h List.not_mem_nil⟩⟩⟩⟩⟩⟩⟩⟩⟩⟩
def lw_privs : List (MethodName × Nat) := lw_privs_1 ++ (lw_privs_2 ++ (lw_privs_3 ++ (lw_privs_4 ++ (lw_privs_5 ++ (lw_privs_6 ++ (lw_privs_7 ++ (lw_privs_8 ++ (lw_privs_9))))))))
def lw_tbl : List Cond := k2_sels lw_privs ++ tables_1
theorem lw_privs_ok : ∀ q ∈ lw_privs, lw_okq q := by
  show ∀ q ∈ lw_privs_1 ++ (lw_privs_2 ++ (lw_privs_3 ++ (lw_privs_4 ++ (lw_privs_5 ++ (lw_privs_6 ++ (lw_privs_7 ++ (lw_privs_8 ++ (lw_privs_9)))))))), lw_okq q
  exact List.forall_mem_append.mpr ⟨lw_r1, List.forall_mem_append.mpr ⟨lw_r2, List.forall_mem_append.mpr ⟨lw_r3, List.forall_mem_append.mpr ⟨lw_r4, List.forall_mem_append.mpr ⟨lw_r5, List.forall_mem_append.mpr ⟨lw_r6, List.forall_mem_append.mpr ⟨lw_r7, List.forall_mem_append.mpr ⟨lw_r8, lw_r9⟩⟩⟩⟩⟩⟩⟩⟩
end
section
def RX0 : String := "SecondLeft$Finder"
def TX0 : u_T := fun k => match k with
  | 0 => ("SecondLeft$Finder", "town", "LSecondLeft$Town;", true)
  | 1 => ("SecondLeft$Finder", "going", "LSecondLeft$Going;", true)
  | 2 => ("SecondLeft$Finder", "known", "[I", true)
  | 3 => ("SecondLeft$Finder", "states", "[I", true)
  | _ => ("SecondLeft$Finder", "chosen", "[I", true)
def tyX0 : Nat → FieldType := fun k => match k with
  | 0 => .object "SecondLeft$Town"
  | 1 => .object "SecondLeft$Going"
  | 2 => .array .int
  | 3 => .array .int
  | _ => .array .int
abbrev wsX00 : List Cond := u_ws RX0 TX0 5
theorem nmX0 : ∀ a, a < 5 → ∀ b, b < 5 → a ≠ b → (TX0 a).2.1 ≠ (TX0 b).2.1 := by decide +kernel
theorem tyX0_ok : ∀ k, k < 5 → parseFieldDescriptor (TX0 k).2.2.1 = some (tyX0 k) := by decide +kernel
abbrev cX0_init : ByteArray := prog_2_method_1_code
def yX0_init : MethodName := ⟨RX0, "<init>", "(LSecondLeft$Town;LSecondLeft$Going;)V"⟩
abbrev cX0_find : ByteArray := prog_2_method_2_code
def yX0_find : MethodName := ⟨RX0, "find", "(III)I"⟩
abbrev cX0_tries : ByteArray := prog_2_method_3_code
def yX0_tries : MethodName := ⟨RX0, "tries", "(III)Z"⟩
abbrev cX0_turnOfKind : ByteArray := prog_2_method_4_code
def yX0_turnOfKind : MethodName := ⟨RX0, "turnOfKind", "(I)I"⟩
abbrev cX0_kindOfTurn : ByteArray := prog_2_method_5_code
def yX0_kindOfTurn : MethodName := ⟨RX0, "kindOfTurn", "(I)I"⟩
abbrev cX0_allGo : ByteArray := prog_2_method_6_code
def yX0_allGo : MethodName := ⟨RX0, "allGo", "(IIIZ)Z"⟩
abbrev cX0_after : ByteArray := prog_2_method_7_code
def yX0_after : MethodName := ⟨RX0, "after", "(III)I"⟩
abbrev cX0_endsAtGoal : ByteArray := prog_2_method_8_code
def yX0_endsAtGoal : MethodName := ⟨RX0, "endsAtGoal", "(IZ)Z"⟩
def RX1 : String := "SecondLeft$Going"
def TX1 : u_T := fun k => match k with
  | 0 => ("SecondLeft$Going", "town", "LSecondLeft$Town;", true)
  | 1 => ("SecondLeft$Going", "path", "[I", true)
  | 2 => ("SecondLeft$Going", "at", "I", false)
  | 3 => ("SecondLeft$Going", "facing", "I", false)
  | _ => ("SecondLeft$Going", "come", "I", false)
def tyX1 : Nat → FieldType := fun k => match k with
  | 0 => .object "SecondLeft$Town"
  | 1 => .array .int
  | 2 => .int
  | 3 => .int
  | _ => .int
abbrev wsX10 : List Cond := u_ws RX1 TX1 5
theorem nmX1 : ∀ a, a < 5 → ∀ b, b < 5 → a ≠ b → (TX1 a).2.1 ≠ (TX1 b).2.1 := by decide +kernel
theorem tyX1_ok : ∀ k, k < 5 → parseFieldDescriptor (TX1 k).2.2.1 = some (tyX1 k) := by decide +kernel
abbrev cX1_init : ByteArray := prog_3_method_1_code
def yX1_init : MethodName := ⟨RX1, "<init>", "(LSecondLeft$Town;)V"⟩
abbrev cX1_setOut : ByteArray := prog_3_method_2_code
def yX1_setOut : MethodName := ⟨RX1, "setOut", "(II)V"⟩
abbrev cX1_setOutAsTold : ByteArray := prog_3_method_3_code
def yX1_setOutAsTold : MethodName := ⟨RX1, "setOutAsTold", "(I)V"⟩
abbrev cX1_comesTo : ByteArray := prog_3_method_4_code
def yX1_comesTo : MethodName := ⟨RX1, "comesTo", "(III)I"⟩
abbrev cX1_goesAll : ByteArray := prog_3_method_5_code
def yX1_goesAll : MethodName := ⟨RX1, "goesAll", "(III)Z"⟩
abbrev cX1_goesFirst : ByteArray := prog_3_method_6_code
def yX1_goesFirst : MethodName := ⟨RX1, "goesFirst", "(III)Z"⟩
abbrev cX1_meant : ByteArray := prog_3_method_7_code
def yX1_meant : MethodName := ⟨RX1, "meant", "(II)I"⟩
abbrev cX1_goesOn : ByteArray := prog_3_method_8_code
def yX1_goesOn : MethodName := ⟨RX1, "goesOn", "()Z"⟩
abbrev cX1_takes : ByteArray := prog_3_method_9_code
def yX1_takes : MethodName := ⟨RX1, "takes", "(II)Z"⟩
abbrev cX1_sideOf : ByteArray := prog_3_method_10_code
def yX1_sideOf : MethodName := ⟨RX1, "sideOf", "(II)I"⟩
def RX2 : String := "SecondLeft$Laws"
def TX2 : u_T := fun k => match k with
  | 0 => ("SecondLeft$Laws", "town", "LSecondLeft$Town;", true)
  | 1 => ("SecondLeft$Laws", "walk", "LSecondLeft$Walk;", true)
  | 2 => ("SecondLeft$Laws", "names", "[I", true)
  | _ => ("SecondLeft$Laws", "stack", "[I", true)
def tyX2 : Nat → FieldType := fun k => match k with
  | 0 => .object "SecondLeft$Town"
  | 1 => .object "SecondLeft$Walk"
  | 2 => .array .int
  | _ => .array .int
abbrev wsX20 : List Cond := u_ws RX2 TX2 4
theorem nmX2 : ∀ a, a < 4 → ∀ b, b < 4 → a ≠ b → (TX2 a).2.1 ≠ (TX2 b).2.1 := by decide +kernel
theorem tyX2_ok : ∀ k, k < 4 → parseFieldDescriptor (TX2 k).2.2.1 = some (tyX2 k) := by decide +kernel
abbrev cX2_init : ByteArray := prog_4_method_1_code
def yX2_init : MethodName := ⟨RX2, "<init>", "(LSecondLeft$Town;LSecondLeft$Walk;)V"⟩
abbrev cX2_slip : ByteArray := prog_4_method_2_code
def yX2_slip : MethodName := ⟨RX2, "slip", "(II)I"⟩
abbrev cX2_pace : ByteArray := prog_4_method_3_code
def yX2_pace : MethodName := ⟨RX2, "pace", "(II)I"⟩
abbrev cX2_asking : ByteArray := prog_4_method_4_code
def yX2_asking : MethodName := ⟨RX2, "asking", "(I)I"⟩
abbrev cX2_nameTeller : ByteArray := prog_4_method_5_code
def yX2_nameTeller : MethodName := ⟨RX2, "nameTeller", "(I)V"⟩
def RX3 : String := "SecondLeft$Posts"
def TX3 : u_T := fun k => match k with
  | 0 => ("SecondLeft$Posts", "town", "LSecondLeft$Town;", true)
  | 1 => ("SecondLeft$Posts", "streetsToGoal", "[I", true)
  | 2 => ("SecondLeft$Posts", "shown", "[I", true)
  | 3 => ("SecondLeft$Posts", "onward", "[I", true)
  | 4 => ("SecondLeft$Posts", "linked", "I", false)
  | _ => ("SecondLeft$Posts", "good", "J", false)
def tyX3 : Nat → FieldType := fun k => match k with
  | 0 => .object "SecondLeft$Town"
  | 1 => .array .int
  | 2 => .array .int
  | 3 => .array .int
  | 4 => .int
  | _ => .long
abbrev wsX30 : List Cond := u_ws RX3 TX3 6
theorem nmX3 : ∀ a, a < 6 → ∀ b, b < 6 → a ≠ b → (TX3 a).2.1 ≠ (TX3 b).2.1 := by decide +kernel
theorem tyX3_ok : ∀ k, k < 6 → parseFieldDescriptor (TX3 k).2.2.1 = some (tyX3 k) := by decide +kernel
abbrev cX3_init : ByteArray := prog_5_method_1_code
def yX3_init : MethodName := ⟨RX3, "<init>", "(LSecondLeft$Town;)V"⟩
abbrev cX3_fewest : ByteArray := prog_5_method_2_code
def yX3_fewest : MethodName := ⟨RX3, "fewest", "()I"⟩
abbrev cX3_firstThatServes : ByteArray := prog_5_method_3_code
def yX3_firstThatServes : MethodName := ⟨RX3, "firstThatServes", "(I)I"⟩
abbrev cX3_nextOfSize : ByteArray := prog_5_method_4_code
def yX3_nextOfSize : MethodName := ⟨RX3, "nextOfSize", "(I)I"⟩
abbrev cX3_countStreets : ByteArray := prog_5_method_5_code
def yX3_countStreets : MethodName := ⟨RX3, "countStreets", "()V"⟩
abbrev cX3_towards : ByteArray := prog_5_method_6_code
def yX3_towards : MethodName := ⟨RX3, "towards", "(II)I"⟩
abbrev cX3_setOnward : ByteArray := prog_5_method_7_code
def yX3_setOnward : MethodName := ⟨RX3, "setOnward", "()V"⟩
abbrev cX3_allCome : ByteArray := prog_5_method_8_code
def yX3_allCome : MethodName := ⟨RX3, "allCome", "(I)Z"⟩
abbrev cX3_comes : ByteArray := prog_5_method_9_code
def yX3_comes : MethodName := ⟨RX3, "comes", "(II)Z"⟩
def RX4 : String := "SecondLeft$Reader"
def TX4 : u_T := fun k => match k with
  | 0 => ("SecondLeft$Reader", "tape", "[I", true)
  | 1 => ("SecondLeft$Reader", "code", "[I", true)
  | 2 => ("SecondLeft$Reader", "lawEnds", "[I", true)
  | 3 => ("SecondLeft$Reader", "rows", "[I", true)
  | 4 => ("SecondLeft$Reader", "kinds", "[I", true)
  | 5 => ("SecondLeft$Reader", "values", "[I", true)
  | 6 => ("SecondLeft$Reader", "places", "[I", true)
  | 7 => ("SecondLeft$Reader", "fault", "I", false)
  | 8 => ("SecondLeft$Reader", "faultPlace", "I", false)
  | 9 => ("SecondLeft$Reader", "token", "I", false)
  | 10 => ("SecondLeft$Reader", "kind", "I", false)
  | 11 => ("SecondLeft$Reader", "value", "I", false)
  | 12 => ("SecondLeft$Reader", "coded", "I", false)
  | 13 => ("SecondLeft$Reader", "clauses", "I", false)
  | _ => ("SecondLeft$Reader", "names", "I", false)
def tyX4 : Nat → FieldType := fun k => match k with
  | 0 => .array .int
  | 1 => .array .int
  | 2 => .array .int
  | 3 => .array .int
  | 4 => .array .int
  | 5 => .array .int
  | 6 => .array .int
  | 7 => .int
  | 8 => .int
  | 9 => .int
  | 10 => .int
  | 11 => .int
  | 12 => .int
  | 13 => .int
  | _ => .int
abbrev wsX40 : List Cond := u_ws RX4 TX4 15
theorem nmX4 : ∀ a, a < 15 → ∀ b, b < 15 → a ≠ b → (TX4 a).2.1 ≠ (TX4 b).2.1 := by decide +kernel
theorem tyX4_ok : ∀ k, k < 15 → parseFieldDescriptor (TX4 k).2.2.1 = some (tyX4 k) := by decide +kernel
abbrev cX4_init : ByteArray := prog_6_method_1_code
def yX4_init : MethodName := ⟨RX4, "<init>", "([I)V"⟩
abbrev cX4_reads : ByteArray := prog_6_method_2_code
def yX4_reads : MethodName := ⟨RX4, "reads", "(I)Z"⟩
abbrev cX4_asRead : ByteArray := prog_6_method_3_code
def yX4_asRead : MethodName := ⟨RX4, "asRead", "()LSecondLeft$Text;"⟩
abbrev cX4_part : ByteArray := prog_6_method_4_code
def yX4_part : MethodName := ⟨RX4, "part", "(I)V"⟩
abbrev cX4_endOfToken : ByteArray := prog_6_method_5_code
def yX4_endOfToken : MethodName := ⟨RX4, "endOfToken", "(II)I"⟩
abbrev cX4_setToken : ByteArray := prog_6_method_6_code
def yX4_setToken : MethodName := ⟨RX4, "setToken", "(III)V"⟩
abbrev cX4_isBlank : ByteArray := prog_6_method_7_code
def yX4_isBlank : MethodName := ⟨RX4, "isBlank", "(I)Z"⟩
abbrev cX4_isLetter : ByteArray := prog_6_method_8_code
def yX4_isLetter : MethodName := ⟨RX4, "isLetter", "(I)Z"⟩
abbrev cX4_isDigit : ByteArray := prog_6_method_9_code
def yX4_isDigit : MethodName := ⟨RX4, "isDigit", "(I)Z"⟩
abbrev cX4_numberOf : ByteArray := prog_6_method_10_code
def yX4_numberOf : MethodName := ⟨RX4, "numberOf", "(II)I"⟩
abbrev cX4_wordOf : ByteArray := prog_6_method_11_code
def yX4_wordOf : MethodName := ⟨RX4, "wordOf", "(II)I"⟩
abbrev cX4_takeToken : ByteArray := prog_6_method_12_code
def yX4_takeToken : MethodName := ⟨RX4, "takeToken", "()Z"⟩
abbrev cX4_failed : ByteArray := prog_6_method_13_code
def yX4_failed : MethodName := ⟨RX4, "failed", "(I)Z"⟩
abbrev cX4_readClause : ByteArray := prog_6_method_14_code
def yX4_readClause : MethodName := ⟨RX4, "readClause", "()Z"⟩
abbrev cX4_keep : ByteArray := prog_6_method_15_code
def yX4_keep : MethodName := ⟨RX4, "keep", "(II)V"⟩
abbrev cX4_readDeed : ByteArray := prog_6_method_16_code
def yX4_readDeed : MethodName := ⟨RX4, "readDeed", "(I)Z"⟩
abbrev cX4_readNumber : ByteArray := prog_6_method_17_code
def yX4_readNumber : MethodName := ⟨RX4, "readNumber", "(III)Z"⟩
abbrev cX4_readCorner : ByteArray := prog_6_method_18_code
def yX4_readCorner : MethodName := ⟨RX4, "readCorner", "(I)Z"⟩
abbrev cX4_readFacing : ByteArray := prog_6_method_19_code
def yX4_readFacing : MethodName := ⟨RX4, "readFacing", "()Z"⟩
abbrev cX4_readWord : ByteArray := prog_6_method_20_code
def yX4_readWord : MethodName := ⟨RX4, "readWord", "(I)Z"⟩
abbrev cX4_readSign : ByteArray := prog_6_method_21_code
def yX4_readSign : MethodName := ⟨RX4, "readSign", "(I)Z"⟩
abbrev cX4_isSign : ByteArray := prog_6_method_22_code
def yX4_isSign : MethodName := ⟨RX4, "isSign", "(I)Z"⟩
abbrev cX4_readSideTo : ByteArray := prog_6_method_23_code
def yX4_readSideTo : MethodName := ⟨RX4, "readSideTo", "(I)Z"⟩
abbrev cX4_readTurns : ByteArray := prog_6_method_24_code
def yX4_readTurns : MethodName := ⟨RX4, "readTurns", "()Z"⟩
abbrev cX4_readTurn : ByteArray := prog_6_method_25_code
def yX4_readTurn : MethodName := ⟨RX4, "readTurn", "(I)I"⟩
abbrev cX4_beginLaw : ByteArray := prog_6_method_26_code
def yX4_beginLaw : MethodName := ⟨RX4, "beginLaw", "(I)Z"⟩
abbrev cX4_endLaw : ByteArray := prog_6_method_27_code
def yX4_endLaw : MethodName := ⟨RX4, "endLaw", "(I)Z"⟩
abbrev cX4_emit : ByteArray := prog_6_method_28_code
def yX4_emit : MethodName := ⟨RX4, "emit", "(I)Z"⟩
abbrev cX4_readSum : ByteArray := prog_6_method_29_code
def yX4_readSum : MethodName := ⟨RX4, "readSum", "(I)Z"⟩
abbrev cX4_readProduct : ByteArray := prog_6_method_30_code
def yX4_readProduct : MethodName := ⟨RX4, "readProduct", "(I)Z"⟩
abbrev cX4_readOne : ByteArray := prog_6_method_31_code
def yX4_readOne : MethodName := ⟨RX4, "readOne", "(I)Z"⟩
def RX5 : String := "SecondLeft$Text"
def TX5 : u_T := fun k => match k with
  | 0 => ("SecondLeft$Text", "code", "[I", true)
  | 1 => ("SecondLeft$Text", "lawEnds", "[I", true)
  | 2 => ("SecondLeft$Text", "rows", "[I", true)
  | _ => ("SecondLeft$Text", "clauses", "I", true)
def tyX5 : Nat → FieldType := fun k => match k with
  | 0 => .array .int
  | 1 => .array .int
  | 2 => .array .int
  | _ => .int
abbrev wsX50 : List Cond := u_ws RX5 TX5 4
theorem nmX5 : ∀ a, a < 4 → ∀ b, b < 4 → a ≠ b → (TX5 a).2.1 ≠ (TX5 b).2.1 := by decide +kernel
theorem tyX5_ok : ∀ k, k < 4 → parseFieldDescriptor (TX5 k).2.2.1 = some (tyX5 k) := by decide +kernel
abbrev cX5_init : ByteArray := prog_7_method_1_code
def yX5_init : MethodName := ⟨RX5, "<init>", "([I[I[II)V"⟩
abbrev cX5_rules : ByteArray := prog_7_method_2_code
def yX5_rules : MethodName := ⟨RX5, "rules", "(I)Z"⟩
abbrev cX5_value : ByteArray := prog_7_method_3_code
def yX5_value : MethodName := ⟨RX5, "value", "(I[I[I)I"⟩
abbrev cX5_ofTwo : ByteArray := prog_7_method_4_code
def yX5_ofTwo : MethodName := ⟨RX5, "ofTwo", "(IJJ)I"⟩
def RX6 : String := "SecondLeft$Town"
def TX6 : u_T := fun k => match k with
  | 0 => ("SecondLeft$Town", "sights", "[I", true)
  | 1 => ("SecondLeft$Town", "streets", "[I", true)
  | 2 => ("SecondLeft$Town", "lanes", "[I", true)
  | 3 => ("SecondLeft$Town", "tellerRows", "[I", true)
  | 4 => ("SecondLeft$Town", "tellingRows", "[I", true)
  | 5 => ("SecondLeft$Town", "scripts", "[LSecondLeft$Text;", true)
  | 6 => ("SecondLeft$Town", "corners", "I", false)
  | 7 => ("SecondLeft$Town", "goal", "I", false)
  | 8 => ("SecondLeft$Town", "tellers", "I", false)
  | 9 => ("SecondLeft$Town", "tellings", "I", false)
  | 10 => ("SecondLeft$Town", "texts", "I", false)
  | _ => ("SecondLeft$Town", "ruling", "I", false)
def tyX6 : Nat → FieldType := fun k => match k with
  | 0 => .array .int
  | 1 => .array .int
  | 2 => .array .int
  | 3 => .array .int
  | 4 => .array .int
  | 5 => .array (.object "SecondLeft$Text")
  | 6 => .int
  | 7 => .int
  | 8 => .int
  | 9 => .int
  | 10 => .int
  | _ => .int
abbrev wsX60 : List Cond := u_ws RX6 TX6 12
theorem nmX6 : ∀ a, a < 12 → ∀ b, b < 12 → a ≠ b → (TX6 a).2.1 ≠ (TX6 b).2.1 := by decide +kernel
theorem tyX6_ok : ∀ k, k < 12 → parseFieldDescriptor (TX6 k).2.2.1 = some (tyX6 k) := by decide +kernel
abbrev cX6_init : ByteArray := prog_8_method_1_code
def yX6_init : MethodName := ⟨RX6, "<init>", "()V"⟩
abbrev cX6_copyFrom : ByteArray := prog_8_method_2_code
def yX6_copyFrom : MethodName := ⟨RX6, "copyFrom", "(LSecondLeft$Town;)V"⟩
abbrev cX6_hasCorner : ByteArray := prog_8_method_3_code
def yX6_hasCorner : MethodName := ⟨RX6, "hasCorner", "(I)Z"⟩
abbrev cX6_hasTeller : ByteArray := prog_8_method_4_code
def yX6_hasTeller : MethodName := ⟨RX6, "hasTeller", "(I)Z"⟩
abbrev cX6_hasTelling : ByteArray := prog_8_method_5_code
def yX6_hasTelling : MethodName := ⟨RX6, "hasTelling", "(I)Z"⟩
abbrev cX6_isSet : ByteArray := prog_8_method_6_code
def yX6_isSet : MethodName := ⟨RX6, "isSet", "(II)Z"⟩
abbrev cX6_sightOf : ByteArray := prog_8_method_7_code
def yX6_sightOf : MethodName := ⟨RX6, "sightOf", "(I)I"⟩
abbrev cX6_ahead : ByteArray := prog_8_method_8_code
def yX6_ahead : MethodName := ⟨RX6, "ahead", "(II)I"⟩
abbrev cX6_laneAt : ByteArray := prog_8_method_9_code
def yX6_laneAt : MethodName := ⟨RX6, "laneAt", "(II)I"⟩
abbrev cX6_counts : ByteArray := prog_8_method_10_code
def yX6_counts : MethodName := ⟨RX6, "counts", "(IIZ)Z"⟩
abbrev cX6_hasOther : ByteArray := prog_8_method_11_code
def yX6_hasOther : MethodName := ⟨RX6, "hasOther", "(III)Z"⟩
abbrev cX6_tellerCell : ByteArray := prog_8_method_12_code
def yX6_tellerCell : MethodName := ⟨RX6, "tellerCell", "(II)I"⟩
abbrev cX6_tellingCell : ByteArray := prog_8_method_13_code
def yX6_tellingCell : MethodName := ⟨RX6, "tellingCell", "(II)I"⟩
abbrev cX6_turnOf : ByteArray := prog_8_method_14_code
def yX6_turnOf : MethodName := ⟨RX6, "turnOf", "(II)I"⟩
abbrev cX6_textOf : ByteArray := prog_8_method_15_code
def yX6_textOf : MethodName := ⟨RX6, "textOf", "(I)LSecondLeft$Text;"⟩
abbrev cX6_addCorner : ByteArray := prog_8_method_16_code
def yX6_addCorner : MethodName := ⟨RX6, "addCorner", "(I)I"⟩
abbrev cX6_addStreet : ByteArray := prog_8_method_17_code
def yX6_addStreet : MethodName := ⟨RX6, "addStreet", "(IIII)Z"⟩
abbrev cX6_setGoal : ByteArray := prog_8_method_18_code
def yX6_setGoal : MethodName := ⟨RX6, "setGoal", "(I)Z"⟩
abbrev cX6_addTeller : ByteArray := prog_8_method_19_code
def yX6_addTeller : MethodName := ⟨RX6, "addTeller", "(IIII)I"⟩
abbrev cX6_addTelling : ByteArray := prog_8_method_20_code
def yX6_addTelling : MethodName := ⟨RX6, "addTelling", "(IIII)I"⟩
abbrev cX6_putTurns : ByteArray := prog_8_method_21_code
def yX6_putTurns : MethodName := ⟨RX6, "putTurns", "(II)I"⟩
abbrev cX6_isTurn : ByteArray := prog_8_method_22_code
def yX6_isTurn : MethodName := ⟨RX6, "isTurn", "(I)Z"⟩
abbrev cX6_addText : ByteArray := prog_8_method_23_code
def yX6_addText : MethodName := ⟨RX6, "addText", "(LSecondLeft$Text;)I"⟩
def RX7 : String := "SecondLeft$Visits"
def TX7 : u_T := fun k => match k with
  | 0 => ("SecondLeft$Visits", "town", "LSecondLeft$Town;", true)
  | 1 => ("SecondLeft$Visits", "walk", "LSecondLeft$Walk;", true)
  | 2 => ("SecondLeft$Visits", "laws", "LSecondLeft$Laws;", true)
  | 3 => ("SecondLeft$Visits", "ways", "LSecondLeft$Ways;", true)
  | 4 => ("SecondLeft$Visits", "paces", "[I", true)
  | 5 => ("SecondLeft$Visits", "seconds", "[I", true)
  | 6 => ("SecondLeft$Visits", "places", "[I", true)
  | 7 => ("SecondLeft$Visits", "order", "[I", true)
  | 8 => ("SecondLeft$Visits", "best", "[I", true)
  | 9 => ("SecondLeft$Visits", "count", "I", false)
  | _ => ("SecondLeft$Visits", "least", "J", false)
def tyX7 : Nat → FieldType := fun k => match k with
  | 0 => .object "SecondLeft$Town"
  | 1 => .object "SecondLeft$Walk"
  | 2 => .object "SecondLeft$Laws"
  | 3 => .object "SecondLeft$Ways"
  | 4 => .array .int
  | 5 => .array .int
  | 6 => .array .int
  | 7 => .array .int
  | 8 => .array .int
  | 9 => .int
  | _ => .long
abbrev wsX70 : List Cond := u_ws RX7 TX7 11
theorem nmX7 : ∀ a, a < 11 → ∀ b, b < 11 → a ≠ b → (TX7 a).2.1 ≠ (TX7 b).2.1 := by decide +kernel
theorem tyX7_ok : ∀ k, k < 11 → parseFieldDescriptor (TX7 k).2.2.1 = some (tyX7 k) := by decide +kernel
abbrev cX7_init : ByteArray := prog_9_method_1_code
def yX7_init : MethodName := ⟨RX7, "<init>", "(LSecondLeft$Town;LSecondLeft$Walk;LSecondLeft$Laws;LSecondLeft$Ways;)V"⟩
abbrev cX7_setPaces : ByteArray := prog_9_method_2_code
def yX7_setPaces : MethodName := ⟨RX7, "setPaces", "()V"⟩
abbrev cX7_secondsTo : ByteArray := prog_9_method_3_code
def yX7_secondsTo : MethodName := ⟨RX7, "secondsTo", "(II)I"⟩
abbrev cX7_measure : ByteArray := prog_9_method_4_code
def yX7_measure : MethodName := ⟨RX7, "measure", "(I)V"⟩
abbrev cX7_nearest : ByteArray := prog_9_method_5_code
def yX7_nearest : MethodName := ⟨RX7, "nearest", "(II)I"⟩
abbrev cX7_lookAround : ByteArray := prog_9_method_6_code
def yX7_lookAround : MethodName := ⟨RX7, "lookAround", "(II)V"⟩
abbrev cX7_plan : ByteArray := prog_9_method_7_code
def yX7_plan : MethodName := ⟨RX7, "plan", "(I)Z"⟩
abbrev cX7_listPlaces : ByteArray := prog_9_method_8_code
def yX7_listPlaces : MethodName := ⟨RX7, "listPlaces", "()Z"⟩
abbrev cX7_tryOrders : ByteArray := prog_9_method_9_code
def yX7_tryOrders : MethodName := ⟨RX7, "tryOrders", "(IIIJJ)V"⟩
abbrev cX7_soonestTeller : ByteArray := prog_9_method_10_code
def yX7_soonestTeller : MethodName := ⟨RX7, "soonestTeller", "()I"⟩
abbrev cX7_sumFrom : ByteArray := prog_9_method_11_code
def yX7_sumFrom : MethodName := ⟨RX7, "sumFrom", "(I)J"⟩
def RX8 : String := "SecondLeft$Walk"
def TX8 : u_T := fun k => match k with
  | 0 => ("SecondLeft$Walk", "row", "[I", true)
  | 1 => ("SecondLeft$Walk", "kept", "[I", true)
  | 2 => ("SecondLeft$Walk", "steps", "I", false)
  | _ => ("SecondLeft$Walk", "free", "I", false)
def tyX8 : Nat → FieldType := fun k => match k with
  | 0 => .array .int
  | 1 => .array .int
  | 2 => .int
  | _ => .int
abbrev wsX80 : List Cond := u_ws RX8 TX8 4
theorem nmX8 : ∀ a, a < 4 → ∀ b, b < 4 → a ≠ b → (TX8 a).2.1 ≠ (TX8 b).2.1 := by decide +kernel
theorem tyX8_ok : ∀ k, k < 4 → parseFieldDescriptor (TX8 k).2.2.1 = some (tyX8 k) := by decide +kernel
abbrev cX8_init : ByteArray := prog_10_method_1_code
def yX8_init : MethodName := ⟨RX8, "<init>", "()V"⟩
abbrev cX8_copyFrom : ByteArray := prog_10_method_2_code
def yX8_copyFrom : MethodName := ⟨RX8, "copyFrom", "(LSecondLeft$Walk;)V"⟩
abbrev cX8_keepStep : ByteArray := prog_10_method_3_code
def yX8_keepStep : MethodName := ⟨RX8, "keepStep", "()V"⟩
abbrev cX8_takeBack : ByteArray := prog_10_method_4_code
def yX8_takeBack : MethodName := ⟨RX8, "takeBack", "()I"⟩
def RX9 : String := "SecondLeft$Walker"
def TX9 : u_T := fun k => match k with
  | 0 => ("SecondLeft$Walker", "town", "LSecondLeft$Town;", true)
  | 1 => ("SecondLeft$Walker", "walk", "LSecondLeft$Walk;", true)
  | 2 => ("SecondLeft$Walker", "laws", "LSecondLeft$Laws;", true)
  | _ => ("SecondLeft$Walker", "going", "LSecondLeft$Going;", true)
def tyX9 : Nat → FieldType := fun k => match k with
  | 0 => .object "SecondLeft$Town"
  | 1 => .object "SecondLeft$Walk"
  | 2 => .object "SecondLeft$Laws"
  | _ => .object "SecondLeft$Going"
abbrev wsX90 : List Cond := u_ws RX9 TX9 4
theorem nmX9 : ∀ a, a < 4 → ∀ b, b < 4 → a ≠ b → (TX9 a).2.1 ≠ (TX9 b).2.1 := by decide +kernel
theorem tyX9_ok : ∀ k, k < 4 → parseFieldDescriptor (TX9 k).2.2.1 = some (tyX9 k) := by decide +kernel
abbrev cX9_init : ByteArray := prog_11_method_1_code
def yX9_init : MethodName := ⟨RX9, "<init>", "(LSecondLeft$Town;LSecondLeft$Walk;LSecondLeft$Laws;LSecondLeft$Going;)V"⟩
abbrev cX9_isThere : ByteArray := prog_11_method_2_code
def yX9_isThere : MethodName := ⟨RX9, "isThere", "()Z"⟩
abbrev cX9_begins : ByteArray := prog_11_method_3_code
def yX9_begins : MethodName := ⟨RX9, "begins", "(II)Z"⟩
abbrev cX9_place : ByteArray := prog_11_method_4_code
def yX9_place : MethodName := ⟨RX9, "place", "(III)V"⟩
abbrev cX9_canGo : ByteArray := prog_11_method_5_code
def yX9_canGo : MethodName := ⟨RX9, "canGo", "(I)Z"⟩
abbrev cX9_goes : ByteArray := prog_11_method_6_code
def yX9_goes : MethodName := ⟨RX9, "goes", "(I)Z"⟩
abbrev cX9_goAhead : ByteArray := prog_11_method_7_code
def yX9_goAhead : MethodName := ⟨RX9, "goAhead", "()V"⟩
abbrev cX9_turns : ByteArray := prog_11_method_8_code
def yX9_turns : MethodName := ⟨RX9, "turns", "(I)I"⟩
abbrev cX9_faceTo : ByteArray := prog_11_method_9_code
def yX9_faceTo : MethodName := ⟨RX9, "faceTo", "(I)V"⟩
abbrev cX9_asks : ByteArray := prog_11_method_10_code
def yX9_asks : MethodName := ⟨RX9, "asks", "(I)I"⟩
abbrev cX9_hear : ByteArray := prog_11_method_11_code
def yX9_hear : MethodName := ⟨RX9, "hear", "(I)V"⟩
abbrev cX9_follows : ByteArray := prog_11_method_12_code
def yX9_follows : MethodName := ⟨RX9, "follows", "(I)I"⟩
abbrev cX9_spendsDay : ByteArray := prog_11_method_13_code
def yX9_spendsDay : MethodName := ⟨RX9, "spendsDay", "(II)I"⟩
abbrev cX9_anew : ByteArray := prog_11_method_14_code
def yX9_anew : MethodName := ⟨RX9, "anew", "(I)I"⟩
abbrev cX9_drawn : ByteArray := prog_11_method_15_code
def yX9_drawn : MethodName := ⟨RX9, "drawn", "(I)V"⟩
abbrev cX9_hearLowest : ByteArray := prog_11_method_16_code
def yX9_hearLowest : MethodName := ⟨RX9, "hearLowest", "()V"⟩
abbrev cX9_plays : ByteArray := prog_11_method_17_code
def yX9_plays : MethodName := ⟨RX9, "plays", "(LSecondLeft$Text;)I"⟩
abbrev cX9_does : ByteArray := prog_11_method_18_code
def yX9_does : MethodName := ⟨RX9, "does", "([II)Z"⟩
def RX10 : String := "SecondLeft$Ways"
def TX10 : u_T := fun k => match k with
  | 0 => ("SecondLeft$Ways", "town", "LSecondLeft$Town;", true)
  | 1 => ("SecondLeft$Ways", "laws", "LSecondLeft$Laws;", true)
  | 2 => ("SecondLeft$Ways", "going", "LSecondLeft$Going;", true)
  | 3 => ("SecondLeft$Ways", "weights", "[I", true)
  | 4 => ("SecondLeft$Ways", "ends", "[I", true)
  | 5 => ("SecondLeft$Ways", "corners", "[I", true)
  | 6 => ("SecondLeft$Ways", "products", "[J", true)
  | _ => ("SecondLeft$Ways", "total", "J", false)
def tyX10 : Nat → FieldType := fun k => match k with
  | 0 => .object "SecondLeft$Town"
  | 1 => .object "SecondLeft$Laws"
  | 2 => .object "SecondLeft$Going"
  | 3 => .array .int
  | 4 => .array .int
  | 5 => .array .int
  | 6 => .array .long
  | _ => .long
abbrev wsX100 : List Cond := u_ws RX10 TX10 8
theorem nmX10 : ∀ a, a < 8 → ∀ b, b < 8 → a ≠ b → (TX10 a).2.1 ≠ (TX10 b).2.1 := by decide +kernel
theorem tyX10_ok : ∀ k, k < 8 → parseFieldDescriptor (TX10 k).2.2.1 = some (tyX10 k) := by decide +kernel
abbrev cX10_init : ByteArray := prog_12_method_1_code
def yX10_init : MethodName := ⟨RX10, "<init>", "(LSecondLeft$Town;LSecondLeft$Laws;LSecondLeft$Going;)V"⟩
abbrev cX10_setWeights : ByteArray := prog_12_method_2_code
def yX10_setWeights : MethodName := ⟨RX10, "setWeights", "(I)V"⟩
abbrev cX10_weigh : ByteArray := prog_12_method_3_code
def yX10_weigh : MethodName := ⟨RX10, "weigh", "(I)V"⟩
abbrev cX10_weightTo : ByteArray := prog_12_method_4_code
def yX10_weightTo : MethodName := ⟨RX10, "weightTo", "(II)I"⟩
abbrev cX10_multiply : ByteArray := prog_12_method_5_code
def yX10_multiply : MethodName := ⟨RX10, "multiply", "(I)V"⟩
abbrev cX10_listCorners : ByteArray := prog_12_method_6_code
def yX10_listCorners : MethodName := ⟨RX10, "listCorners", "()V"⟩
abbrev cX10_thatReach : ByteArray := prog_12_method_7_code
def yX10_thatReach : MethodName := ⟨RX10, "thatReach", "(I)I"⟩
abbrev cX10_safeWeight : ByteArray := prog_12_method_8_code
def yX10_safeWeight : MethodName := ⟨RX10, "safeWeight", "(II)I"⟩
def RX11 : String := "SecondLeft"
def TX11 : u_T := fun k => match k with
  | 0 => ("SecondLeft", "town", "LSecondLeft$Town;", true)
  | 1 => ("SecondLeft", "townOfImage", "LSecondLeft$Town;", true)
  | 2 => ("SecondLeft", "now", "LSecondLeft$Walk;", true)
  | 3 => ("SecondLeft", "walkOfImage", "LSecondLeft$Walk;", true)
  | 4 => ("SecondLeft", "tape", "[I", true)
  | 5 => ("SecondLeft", "reader", "LSecondLeft$Reader;", true)
  | 6 => ("SecondLeft", "laws", "LSecondLeft$Laws;", true)
  | 7 => ("SecondLeft", "going", "LSecondLeft$Going;", true)
  | 8 => ("SecondLeft", "hand", "LSecondLeft$Walker;", true)
  | 9 => ("SecondLeft", "ways", "LSecondLeft$Ways;", true)
  | 10 => ("SecondLeft", "visits", "LSecondLeft$Visits;", true)
  | 11 => ("SecondLeft", "finder", "LSecondLeft$Finder;", true)
  | 12 => ("SecondLeft", "posts", "LSecondLeft$Posts;", true)
  | 13 => ("SecondLeft", "fed", "I", false)
  | 14 => ("SecondLeft", "latestFault", "I", false)
  | _ => ("SecondLeft", "latestPlace", "I", false)
def tyX11 : Nat → FieldType := fun k => match k with
  | 0 => .object "SecondLeft$Town"
  | 1 => .object "SecondLeft$Town"
  | 2 => .object "SecondLeft$Walk"
  | 3 => .object "SecondLeft$Walk"
  | 4 => .array .int
  | 5 => .object "SecondLeft$Reader"
  | 6 => .object "SecondLeft$Laws"
  | 7 => .object "SecondLeft$Going"
  | 8 => .object "SecondLeft$Walker"
  | 9 => .object "SecondLeft$Ways"
  | 10 => .object "SecondLeft$Visits"
  | 11 => .object "SecondLeft$Finder"
  | 12 => .object "SecondLeft$Posts"
  | 13 => .int
  | 14 => .int
  | _ => .int
abbrev wsX110 : List Cond := u_ws RX11 TX11 16
theorem nmX11 : ∀ a, a < 16 → ∀ b, b < 16 → a ≠ b → (TX11 a).2.1 ≠ (TX11 b).2.1 := by decide +kernel
theorem tyX11_ok : ∀ k, k < 16 → parseFieldDescriptor (TX11 k).2.2.1 = some (tyX11 k) := by decide +kernel
abbrev cX11_init : ByteArray := prog_1_method_1_code
def yX11_init : MethodName := ⟨RX11, "<init>", "()V"⟩
abbrev cX11_corner : ByteArray := prog_1_method_2_code
def yX11_corner : MethodName := ⟨RX11, "corner", "(I)I"⟩
abbrev cX11_street : ByteArray := prog_1_method_3_code
def yX11_street : MethodName := ⟨RX11, "street", "(IIIZ)Z"⟩
abbrev cX11_goal : ByteArray := prog_1_method_4_code
def yX11_goal : MethodName := ⟨RX11, "goal", "(I)Z"⟩
abbrev cX11_teller : ByteArray := prog_1_method_5_code
def yX11_teller : MethodName := ⟨RX11, "teller", "(IIII)I"⟩
abbrev cX11_telling : ByteArray := prog_1_method_6_code
def yX11_telling : MethodName := ⟨RX11, "telling", "(IIII)I"⟩
abbrev cX11_feed : ByteArray := prog_1_method_7_code
def yX11_feed : MethodName := ⟨RX11, "feed", "(IIIII)I"⟩
abbrev cX11_putBytes : ByteArray := prog_1_method_8_code
def yX11_putBytes : MethodName := ⟨RX11, "putBytes", "(I)V"⟩
abbrev cX11_end : ByteArray := prog_1_method_9_code
def yX11_end : MethodName := ⟨RX11, "end", "(I)I"⟩
abbrev cX11_text : ByteArray := prog_1_method_10_code
def yX11_text : MethodName := ⟨RX11, "text", "()I"⟩
abbrev cX11_fault : ByteArray := prog_1_method_11_code
def yX11_fault : MethodName := ⟨RX11, "fault", "(I)I"⟩
abbrev cX11_by : ByteArray := prog_1_method_12_code
def yX11_by : MethodName := ⟨RX11, "by", "(I)Z"⟩
abbrev cX11_start : ByteArray := prog_1_method_13_code
def yX11_start : MethodName := ⟨RX11, "start", "(II)Z"⟩
abbrev cX11_walk : ByteArray := prog_1_method_14_code
def yX11_walk : MethodName := ⟨RX11, "walk", "(I)I"⟩
abbrev cX11_turn : ByteArray := prog_1_method_15_code
def yX11_turn : MethodName := ⟨RX11, "turn", "(I)I"⟩
abbrev cX11_ask : ByteArray := prog_1_method_16_code
def yX11_ask : MethodName := ⟨RX11, "ask", "(I)I"⟩
abbrev cX11_follow : ByteArray := prog_1_method_17_code
def yX11_follow : MethodName := ⟨RX11, "follow", "(I)I"⟩
abbrev cX11_played : ByteArray := prog_1_method_18_code
def yX11_played : MethodName := ⟨RX11, "played", "(I)I"⟩
abbrev cX11_day : ByteArray := prog_1_method_19_code
def yX11_day : MethodName := ⟨RX11, "day", "(II)I"⟩
abbrev cX11_undo : ByteArray := prog_1_method_20_code
def yX11_undo : MethodName := ⟨RX11, "undo", "()I"⟩
abbrev cX11_walker : ByteArray := prog_1_method_21_code
def yX11_walker : MethodName := ⟨RX11, "walker", "(I)I"⟩
abbrev cX11_ofCorner : ByteArray := prog_1_method_22_code
def yX11_ofCorner : MethodName := ⟨RX11, "ofCorner", "(II)I"⟩
abbrev cX11_ofTeller : ByteArray := prog_1_method_23_code
def yX11_ofTeller : MethodName := ⟨RX11, "ofTeller", "(II)I"⟩
abbrev cX11_ofTelling : ByteArray := prog_1_method_24_code
def yX11_ofTelling : MethodName := ⟨RX11, "ofTelling", "(II)I"⟩
abbrev cX11_leads : ByteArray := prog_1_method_25_code
def yX11_leads : MethodName := ⟨RX11, "leads", "(II)I"⟩
abbrev cX11_likely : ByteArray := prog_1_method_26_code
def yX11_likely : MethodName := ⟨RX11, "likely", "(II)I"⟩
abbrev cX11_byAll : ByteArray := prog_1_method_27_code
def yX11_byAll : MethodName := ⟨RX11, "byAll", "(IIZ)J"⟩
abbrev cX11_clash : ByteArray := prog_1_method_28_code
def yX11_clash : MethodName := ⟨RX11, "clash", "(I)I"⟩
abbrev cX11_wrong : ByteArray := prog_1_method_29_code
def yX11_wrong : MethodName := ⟨RX11, "wrong", "(IZ)I"⟩
abbrev cX11_isLess : ByteArray := prog_1_method_30_code
def yX11_isLess : MethodName := ⟨RX11, "isLess", "(II)Z"⟩
abbrev cX11_far : ByteArray := prog_1_method_31_code
def yX11_far : MethodName := ⟨RX11, "far", "(II)I"⟩
abbrev cX11_see : ByteArray := prog_1_method_32_code
def yX11_see : MethodName := ⟨RX11, "see", "(II)J"⟩
abbrev cX11_orAsk : ByteArray := prog_1_method_33_code
def yX11_orAsk : MethodName := ⟨RX11, "orAsk", "(I)I"⟩
abbrev cX11_safeSoFar : ByteArray := prog_1_method_34_code
def yX11_safeSoFar : MethodName := ⟨RX11, "safeSoFar", "(IIZ)I"⟩
abbrev cX11_howFar : ByteArray := prog_1_method_35_code
def yX11_howFar : MethodName := ⟨RX11, "howFar", "(II)I"⟩
abbrev cX11_lost : ByteArray := prog_1_method_36_code
def yX11_lost : MethodName := ⟨RX11, "lost", "(II)I"⟩
abbrev cX11_listen : ByteArray := prog_1_method_37_code
def yX11_listen : MethodName := ⟨RX11, "listen", "(IIIIZ)J"⟩
abbrev cX11_tell : ByteArray := prog_1_method_38_code
def yX11_tell : MethodName := ⟨RX11, "tell", "(IIII)I"⟩
abbrev cX11_where : ByteArray := prog_1_method_39_code
def yX11_where : MethodName := ⟨RX11, "where", "(IZ)I"⟩
abbrev cX11_map : ByteArray := prog_1_method_40_code
def yX11_map : MethodName := ⟨RX11, "map", "(III)I"⟩
abbrev cX11_signs : ByteArray := prog_1_method_41_code
def yX11_signs : MethodName := ⟨RX11, "signs", "()I"⟩
abbrev cX11_whose : ByteArray := prog_1_method_42_code
def yX11_whose : MethodName := ⟨RX11, "whose", "(IIIZ)I"⟩
abbrev cX11_heard : ByteArray := prog_1_method_43_code
def yX11_heard : MethodName := ⟨RX11, "heard", "(I)I"⟩
abbrev cX11_image : ByteArray := prog_1_method_44_code
def yX11_image : MethodName := ⟨RX11, "image", "()I"⟩
abbrev cX11_back : ByteArray := prog_1_method_45_code
def yX11_back : MethodName := ⟨RX11, "back", "()I"⟩
abbrev cX11_about : ByteArray := prog_1_method_46_code
def yX11_about : MethodName := ⟨RX11, "about", "(I)I"⟩
abbrev cX11_isDirection : ByteArray := prog_1_method_47_code
def yX11_isDirection : MethodName := ⟨RX11, "isDirection", "(I)Z"⟩
abbrev cX11_isSlip : ByteArray := prog_1_method_48_code
def yX11_isSlip : MethodName := ⟨RX11, "isSlip", "(I)Z"⟩
abbrev cX11_held : ByteArray := prog_1_method_49_code
def yX11_held : MethodName := ⟨RX11, "held", "(III)I"⟩
abbrev cX11_power : ByteArray := prog_1_method_50_code
def yX11_power : MethodName := ⟨RX11, "power", "(JI)J"⟩
abbrev cX11_inLowestTerms : ByteArray := prog_1_method_51_code
def yX11_inLowestTerms : MethodName := ⟨RX11, "inLowestTerms", "(JJZ)J"⟩
def RX12 : String := "SecondLeftModel"
def TX12 : u_T := fun k => match k with
  | 0 => ("SecondLeftModel", "a", "[I", true)
  | 1 => ("SecondLeftModel", "image", "[I", true)
  | 2 => ("SecondLeftModel", "texts", "[I", true)
  | 3 => ("SecondLeftModel", "told", "[I", true)
  | 4 => ("SecondLeftModel", "toldMany", "I", false)
  | 5 => ("SecondLeftModel", "tape", "[I", true)
  | 6 => ("SecondLeftModel", "taped", "I", false)
  | 7 => ("SecondLeftModel", "fault", "I", false)
  | 8 => ("SecondLeftModel", "faultPlace", "I", false)
  | 9 => ("SecondLeftModel", "at", "I", false)
  | 10 => ("SecondLeftModel", "place", "I", false)
  | 11 => ("SecondLeftModel", "token", "I", false)
  | 12 => ("SecondLeftModel", "number", "I", false)
  | 13 => ("SecondLeftModel", "word", "J", false)
  | 14 => ("SecondLeftModel", "text0", "I", false)
  | 15 => ("SecondLeftModel", "written", "I", false)
  | 16 => ("SecondLeftModel", "sort0", "I", false)
  | 17 => ("SecondLeftModel", "pile", "[I", true)
  | 18 => ("SecondLeftModel", "piled", "I", false)
  | 19 => ("SecondLeftModel", "opens", "I", false)
  | 20 => ("SecondLeftModel", "isWhole", "Z", false)
  | 21 => ("SecondLeftModel", "once", "I", false)
  | 22 => ("SecondLeftModel", "named", "[I", true)
  | 23 => ("SecondLeftModel", "values", "[J", true)
  | 24 => ("SecondLeftModel", "here", "I", false)
  | 25 => ("SecondLeftModel", "face", "I", false)
  | 26 => ("SecondLeftModel", "spent", "I", false)
  | 27 => ("SecondLeftModel", "came", "I", false)
  | 28 => ("SecondLeftModel", "doubts", "I", false)
  | 29 => ("SecondLeftModel", "doubtful", "I", false)
  | 30 => ("SecondLeftModel", "cameBy", "I", false)
  | 31 => ("SecondLeftModel", "going", "[I", true)
  | 32 => ("SecondLeftModel", "goingMany", "I", false)
  | 33 => ("SecondLeftModel", "wayTo", "[I", true)
  | 34 => ("SecondLeftModel", "wayWeight", "[I", true)
  | 35 => ("SecondLeftModel", "products", "[J", true)
  | 36 => ("SecondLeftModel", "allProducts", "J", false)
  | 37 => ("SecondLeftModel", "canLead", "[I", true)
  | 38 => ("SecondLeftModel", "seconds", "[I", true)
  | 39 => ("SecondLeftModel", "isDone", "[Z", true)
  | 40 => ("SecondLeftModel", "doubted", "[I", true)
  | 41 => ("SecondLeftModel", "order", "[I", true)
  | 42 => ("SecondLeftModel", "bestOrder", "[I", true)
  | 43 => ("SecondLeftModel", "doubtedMany", "I", false)
  | 44 => ("SecondLeftModel", "bestTime", "J", false)
  | 45 => ("SecondLeftModel", "streets", "[I", true)
  | _ => ("SecondLeftModel", "shows", "[I", true)
def tyX12 : Nat → FieldType := fun k => match k with
  | 0 => .array .int
  | 1 => .array .int
  | 2 => .array .int
  | 3 => .array .int
  | 4 => .int
  | 5 => .array .int
  | 6 => .int
  | 7 => .int
  | 8 => .int
  | 9 => .int
  | 10 => .int
  | 11 => .int
  | 12 => .int
  | 13 => .long
  | 14 => .int
  | 15 => .int
  | 16 => .int
  | 17 => .array .int
  | 18 => .int
  | 19 => .int
  | 20 => .boolean
  | 21 => .int
  | 22 => .array .int
  | 23 => .array .long
  | 24 => .int
  | 25 => .int
  | 26 => .int
  | 27 => .int
  | 28 => .int
  | 29 => .int
  | 30 => .int
  | 31 => .array .int
  | 32 => .int
  | 33 => .array .int
  | 34 => .array .int
  | 35 => .array .long
  | 36 => .long
  | 37 => .array .int
  | 38 => .array .int
  | 39 => .array .boolean
  | 40 => .array .int
  | 41 => .array .int
  | 42 => .array .int
  | 43 => .int
  | 44 => .long
  | 45 => .array .int
  | _ => .array .int
abbrev wsX120 : List Cond := u_ws RX12 TX12 47
theorem nmX12 : ∀ a, a < 47 → ∀ b, b < 47 → a ≠ b → (TX12 a).2.1 ≠ (TX12 b).2.1 := by decide +kernel
theorem tyX12_ok : ∀ k, k < 47 → parseFieldDescriptor (TX12 k).2.2.1 = some (tyX12 k) := by decide +kernel
abbrev cX12_init : ByteArray := prog_14_method_1_code
def yX12_init : MethodName := ⟨RX12, "<init>", "()V"⟩
abbrev cX12_copy : ByteArray := prog_14_method_2_code
def yX12_copy : MethodName := ⟨RX12, "copy", "([I[I)V"⟩
abbrev cX12_isIn : ByteArray := prog_14_method_3_code
def yX12_isIn : MethodName := ⟨RX12, "isIn", "(III)Z"⟩
abbrev cX12_has : ByteArray := prog_14_method_4_code
def yX12_has : MethodName := ⟨RX12, "has", "(II)Z"⟩
abbrev cX12_bits : ByteArray := prog_14_method_5_code
def yX12_bits : MethodName := ⟨RX12, "bits", "(I)I"⟩
abbrev cX12_isCorner : ByteArray := prog_14_method_6_code
def yX12_isCorner : MethodName := ⟨RX12, "isCorner", "(I)Z"⟩
abbrev cX12_isTeller : ByteArray := prog_14_method_7_code
def yX12_isTeller : MethodName := ⟨RX12, "isTeller", "(I)Z"⟩
abbrev cX12_isTelling : ByteArray := prog_14_method_8_code
def yX12_isTelling : MethodName := ⟨RX12, "isTelling", "(I)Z"⟩
abbrev cX12_sightOf : ByteArray := prog_14_method_9_code
def yX12_sightOf : MethodName := ⟨RX12, "sightOf", "(I)I"⟩
abbrev cX12_streetOf : ByteArray := prog_14_method_10_code
def yX12_streetOf : MethodName := ⟨RX12, "streetOf", "(II)I"⟩
abbrev cX12_isLane : ByteArray := prog_14_method_11_code
def yX12_isLane : MethodName := ⟨RX12, "isLane", "(II)Z"⟩
abbrev cX12_corner : ByteArray := prog_14_method_12_code
def yX12_corner : MethodName := ⟨RX12, "corner", "(I)I"⟩
abbrev cX12_street : ByteArray := prog_14_method_13_code
def yX12_street : MethodName := ⟨RX12, "street", "(IIIZ)Z"⟩
abbrev cX12_goal : ByteArray := prog_14_method_14_code
def yX12_goal : MethodName := ⟨RX12, "goal", "(I)Z"⟩
abbrev cX12_teller : ByteArray := prog_14_method_15_code
def yX12_teller : MethodName := ⟨RX12, "teller", "(IIII)I"⟩
abbrev cX12_isTurn : ByteArray := prog_14_method_16_code
def yX12_isTurn : MethodName := ⟨RX12, "isTurn", "(I)Z"⟩
abbrev cX12_take : ByteArray := prog_14_method_17_code
def yX12_take : MethodName := ⟨RX12, "take", "(I)Z"⟩
abbrev cX12_tellNow : ByteArray := prog_14_method_18_code
def yX12_tellNow : MethodName := ⟨RX12, "tellNow", "(II)I"⟩
abbrev cX12_telling : ByteArray := prog_14_method_19_code
def yX12_telling : MethodName := ⟨RX12, "telling", "(IIII)I"⟩
abbrev cX12_tellerOf : ByteArray := prog_14_method_20_code
def yX12_tellerOf : MethodName := ⟨RX12, "tellerOf", "(I)I"⟩
abbrev cX12_facingOf : ByteArray := prog_14_method_21_code
def yX12_facingOf : MethodName := ⟨RX12, "facingOf", "(I)I"⟩
abbrev cX12_turnsOf : ByteArray := prog_14_method_22_code
def yX12_turnsOf : MethodName := ⟨RX12, "turnsOf", "(I)I"⟩
abbrev cX12_turnAt : ByteArray := prog_14_method_23_code
def yX12_turnAt : MethodName := ⟨RX12, "turnAt", "(II)I"⟩
abbrev cX12_cornerOf : ByteArray := prog_14_method_24_code
def yX12_cornerOf : MethodName := ⟨RX12, "cornerOf", "(I)I"⟩
abbrev cX12_four : ByteArray := prog_14_method_25_code
def yX12_four : MethodName := ⟨RX12, "four", "(I)V"⟩
abbrev cX12_feed : ByteArray := prog_14_method_26_code
def yX12_feed : MethodName := ⟨RX12, "feed", "(IIIII)I"⟩
abbrev cX12_end : ByteArray := prog_14_method_27_code
def yX12_end : MethodName := ⟨RX12, "end", "(I)I"⟩
abbrev cX12_byteAt : ByteArray := prog_14_method_28_code
def yX12_byteAt : MethodName := ⟨RX12, "byteAt", "(I)I"⟩
abbrev cX12_isLetterByte : ByteArray := prog_14_method_29_code
def yX12_isLetterByte : MethodName := ⟨RX12, "isLetterByte", "(I)Z"⟩
abbrev cX12_isFigure : ByteArray := prog_14_method_30_code
def yX12_isFigure : MethodName := ⟨RX12, "isFigure", "(I)Z"⟩
abbrev cX12_isSign : ByteArray := prog_14_method_31_code
def yX12_isSign : MethodName := ⟨RX12, "isSign", "(I)Z"⟩
abbrev cX12_nextToken : ByteArray := prog_14_method_32_code
def yX12_nextToken : MethodName := ⟨RX12, "nextToken", "()V"⟩
abbrev cX12_w2 : ByteArray := prog_14_method_33_code
def yX12_w2 : MethodName := ⟨RX12, "w2", "(II)J"⟩
abbrev cX12_w3 : ByteArray := prog_14_method_34_code
def yX12_w3 : MethodName := ⟨RX12, "w3", "(III)J"⟩
abbrev cX12_w4 : ByteArray := prog_14_method_35_code
def yX12_w4 : MethodName := ⟨RX12, "w4", "(IIII)J"⟩
abbrev cX12_w5 : ByteArray := prog_14_method_36_code
def yX12_w5 : MethodName := ⟨RX12, "w5", "(IIIII)J"⟩
abbrev cX12_w6 : ByteArray := prog_14_method_37_code
def yX12_w6 : MethodName := ⟨RX12, "w6", "(IIIIII)J"⟩
abbrev cX12_isWord : ByteArray := prog_14_method_38_code
def yX12_isWord : MethodName := ⟨RX12, "isWord", "(J)Z"⟩
abbrev cX12_emit : ByteArray := prog_14_method_39_code
def yX12_emit : MethodName := ⟨RX12, "emit", "(II)V"⟩
abbrev cX12_nameOf : ByteArray := prog_14_method_40_code
def yX12_nameOf : MethodName := ⟨RX12, "nameOf", "()I"⟩
abbrev cX12_isOf : ByteArray := prog_14_method_41_code
def yX12_isOf : MethodName := ⟨RX12, "isOf", "(I)Z"⟩
abbrev cX12_rank : ByteArray := prog_14_method_42_code
def yX12_rank : MethodName := ⟨RX12, "rank", "(I)I"⟩
abbrev cX12_settlePile : ByteArray := prog_14_method_43_code
def yX12_settlePile : MethodName := ⟨RX12, "settlePile", "(I)V"⟩
abbrev cX12_opened : ByteArray := prog_14_method_44_code
def yX12_opened : MethodName := ⟨RX12, "opened", "(I)I"⟩
abbrev cX12_beginOne : ByteArray := prog_14_method_45_code
def yX12_beginOne : MethodName := ⟨RX12, "beginOne", "()I"⟩
abbrev cX12_openAt : ByteArray := prog_14_method_46_code
def yX12_openAt : MethodName := ⟨RX12, "openAt", "()I"⟩
abbrev cX12_shut : ByteArray := prog_14_method_47_code
def yX12_shut : MethodName := ⟨RX12, "shut", "(I)V"⟩
abbrev cX12_behindOne : ByteArray := prog_14_method_48_code
def yX12_behindOne : MethodName := ⟨RX12, "behindOne", "()I"⟩
abbrev cX12_summed : ByteArray := prog_14_method_49_code
def yX12_summed : MethodName := ⟨RX12, "summed", "()I"⟩
abbrev cX12_figure : ByteArray := prog_14_method_50_code
def yX12_figure : MethodName := ⟨RX12, "figure", "(III)I"⟩
abbrev cX12_worded : ByteArray := prog_14_method_51_code
def yX12_worded : MethodName := ⟨RX12, "worded", "(JIII)I"⟩
abbrev cX12_sideOf : ByteArray := prog_14_method_52_code
def yX12_sideOf : MethodName := ⟨RX12, "sideOf", "(J)I"⟩
abbrev cX12_streetClause : ByteArray := prog_14_method_53_code
def yX12_streetClause : MethodName := ⟨RX12, "streetClause", "(I)I"⟩
abbrev cX12_oneTurn : ByteArray := prog_14_method_54_code
def yX12_oneTurn : MethodName := ⟨RX12, "oneTurn", "(II)I"⟩
abbrev cX12_tellingClause : ByteArray := prog_14_method_55_code
def yX12_tellingClause : MethodName := ⟨RX12, "tellingClause", "(I)I"⟩
abbrev cX12_startClause : ByteArray := prog_14_method_56_code
def yX12_startClause : MethodName := ⟨RX12, "startClause", "(I)I"⟩
abbrev cX12_turnClause : ByteArray := prog_14_method_57_code
def yX12_turnClause : MethodName := ⟨RX12, "turnClause", "(I)I"⟩
abbrev cX12_lawClause : ByteArray := prog_14_method_58_code
def yX12_lawClause : MethodName := ⟨RX12, "lawClause", "(I)I"⟩
abbrev cX12_body : ByteArray := prog_14_method_59_code
def yX12_body : MethodName := ⟨RX12, "body", "(II)I"⟩
abbrev cX12_sortOf : ByteArray := prog_14_method_60_code
def yX12_sortOf : MethodName := ⟨RX12, "sortOf", "()I"⟩
abbrev cX12_clause : ByteArray := prog_14_method_61_code
def yX12_clause : MethodName := ⟨RX12, "clause", "()I"⟩
abbrev cX12_readText : ByteArray := prog_14_method_62_code
def yX12_readText : MethodName := ⟨RX12, "readText", "()I"⟩
abbrev cX12_text : ByteArray := prog_14_method_63_code
def yX12_text : MethodName := ⟨RX12, "text", "()I"⟩
abbrev cX12_fault : ByteArray := prog_14_method_64_code
def yX12_fault : MethodName := ⟨RX12, "fault", "(I)I"⟩
abbrev cX12_by : ByteArray := prog_14_method_65_code
def yX12_by : MethodName := ⟨RX12, "by", "(I)Z"⟩
abbrev cX12_held : ByteArray := prog_14_method_66_code
def yX12_held : MethodName := ⟨RX12, "held", "(J)J"⟩
abbrev cX12_two : ByteArray := prog_14_method_67_code
def yX12_two : MethodName := ⟨RX12, "two", "(IJJ)J"⟩
abbrev cX12_worked : ByteArray := prog_14_method_68_code
def yX12_worked : MethodName := ⟨RX12, "worked", "(I)I"⟩
abbrev cX12_says : ByteArray := prog_14_method_69_code
def yX12_says : MethodName := ⟨RX12, "says", "(IIII)I"⟩
abbrev cX12_nameTeller : ByteArray := prog_14_method_70_code
def yX12_nameTeller : MethodName := ⟨RX12, "nameTeller", "(I)V"⟩
abbrev cX12_slipOf : ByteArray := prog_14_method_71_code
def yX12_slipOf : MethodName := ⟨RX12, "slipOf", "(II)I"⟩
abbrev cX12_paceOf : ByteArray := prog_14_method_72_code
def yX12_paceOf : MethodName := ⟨RX12, "paceOf", "(II)I"⟩
abbrev cX12_asksOf : ByteArray := prog_14_method_73_code
def yX12_asksOf : MethodName := ⟨RX12, "asksOf", "(I)I"⟩
abbrev cX12_begin : ByteArray := prog_14_method_74_code
def yX12_begin : MethodName := ⟨RX12, "begin", "(II)V"⟩
abbrev cX12_isDoubt : ByteArray := prog_14_method_75_code
def yX12_isDoubt : MethodName := ⟨RX12, "isDoubt", "(I)Z"⟩
abbrev cX12_goOn : ByteArray := prog_14_method_76_code
def yX12_goOn : MethodName := ⟨RX12, "goOn", "()Z"⟩
abbrev cX12_isCounted : ByteArray := prog_14_method_77_code
def yX12_isCounted : MethodName := ⟨RX12, "isCounted", "(II)Z"⟩
abbrev cX12_goTurn : ByteArray := prog_14_method_78_code
def yX12_goTurn : MethodName := ⟨RX12, "goTurn", "(II)Z"⟩
abbrev cX12_takeTurns : ByteArray := prog_14_method_79_code
def yX12_takeTurns : MethodName := ⟨RX12, "takeTurns", "(II)V"⟩
abbrev cX12_goAll : ByteArray := prog_14_method_80_code
def yX12_goAll : MethodName := ⟨RX12, "goAll", "(I)Z"⟩
abbrev cX12_leadsOf : ByteArray := prog_14_method_81_code
def yX12_leadsOf : MethodName := ⟨RX12, "leadsOf", "(II)I"⟩
abbrev cX12_keep : ByteArray := prog_14_method_82_code
def yX12_keep : MethodName := ⟨RX12, "keep", "()V"⟩
abbrev cX12_undo : ByteArray := prog_14_method_83_code
def yX12_undo : MethodName := ⟨RX12, "undo", "()I"⟩
abbrev cX12_isWalker : ByteArray := prog_14_method_84_code
def yX12_isWalker : MethodName := ⟨RX12, "isWalker", "()Z"⟩
abbrev cX12_startNow : ByteArray := prog_14_method_85_code
def yX12_startNow : MethodName := ⟨RX12, "startNow", "(II)V"⟩
abbrev cX12_start : ByteArray := prog_14_method_86_code
def yX12_start : MethodName := ⟨RX12, "start", "(II)Z"⟩
abbrev cX12_isAhead : ByteArray := prog_14_method_87_code
def yX12_isAhead : MethodName := ⟨RX12, "isAhead", "()Z"⟩
abbrev cX12_walkNow : ByteArray := prog_14_method_88_code
def yX12_walkNow : MethodName := ⟨RX12, "walkNow", "()V"⟩
abbrev cX12_walkable : ByteArray := prog_14_method_89_code
def yX12_walkable : MethodName := ⟨RX12, "walkable", "(I)I"⟩
abbrev cX12_walkSo : ByteArray := prog_14_method_90_code
def yX12_walkSo : MethodName := ⟨RX12, "walkSo", "(I)V"⟩
abbrev cX12_walk : ByteArray := prog_14_method_91_code
def yX12_walk : MethodName := ⟨RX12, "walk", "(I)I"⟩
abbrev cX12_turned : ByteArray := prog_14_method_92_code
def yX12_turned : MethodName := ⟨RX12, "turned", "(II)I"⟩
abbrev cX12_turn : ByteArray := prog_14_method_93_code
def yX12_turn : MethodName := ⟨RX12, "turn", "(I)I"⟩
abbrev cX12_askNow : ByteArray := prog_14_method_94_code
def yX12_askNow : MethodName := ⟨RX12, "askNow", "(I)V"⟩
abbrev cX12_ask : ByteArray := prog_14_method_95_code
def yX12_ask : MethodName := ⟨RX12, "ask", "(I)I"⟩
abbrev cX12_follow : ByteArray := prog_14_method_96_code
def yX12_follow : MethodName := ⟨RX12, "follow", "(I)I"⟩
abbrev cX12_isWalked : ByteArray := prog_14_method_97_code
def yX12_isWalked : MethodName := ⟨RX12, "isWalked", "(I)Z"⟩
abbrev cX12_isTaught : ByteArray := prog_14_method_98_code
def yX12_isTaught : MethodName := ⟨RX12, "isTaught", "(I)Z"⟩
abbrev cX12_isPlayed : ByteArray := prog_14_method_99_code
def yX12_isPlayed : MethodName := ⟨RX12, "isPlayed", "(I)Z"⟩
abbrev cX12_played : ByteArray := prog_14_method_100_code
def yX12_played : MethodName := ⟨RX12, "played", "(I)I"⟩
abbrev cX12_anew : ByteArray := prog_14_method_101_code
def yX12_anew : MethodName := ⟨RX12, "anew", "()V"⟩
abbrev cX12_oneOfDay : ByteArray := prog_14_method_102_code
def yX12_oneOfDay : MethodName := ⟨RX12, "oneOfDay", "()V"⟩
abbrev cX12_day : ByteArray := prog_14_method_103_code
def yX12_day : MethodName := ⟨RX12, "day", "(II)I"⟩
abbrev cX12_walker : ByteArray := prog_14_method_104_code
def yX12_walker : MethodName := ⟨RX12, "walker", "(I)I"⟩
abbrev cX12_ofCorner : ByteArray := prog_14_method_105_code
def yX12_ofCorner : MethodName := ⟨RX12, "ofCorner", "(II)I"⟩
abbrev cX12_ofTeller : ByteArray := prog_14_method_106_code
def yX12_ofTeller : MethodName := ⟨RX12, "ofTeller", "(II)I"⟩
abbrev cX12_ofTelling : ByteArray := prog_14_method_107_code
def yX12_ofTelling : MethodName := ⟨RX12, "ofTelling", "(II)I"⟩
abbrev cX12_leads : ByteArray := prog_14_method_108_code
def yX12_leads : MethodName := ⟨RX12, "leads", "(II)I"⟩
abbrev cX12_findWeights : ByteArray := prog_14_method_109_code
def yX12_findWeights : MethodName := ⟨RX12, "findWeights", "(I)V"⟩
abbrev cX12_findWays : ByteArray := prog_14_method_110_code
def yX12_findWays : MethodName := ⟨RX12, "findWays", "(I)V"⟩
abbrev cX12_weightTo : ByteArray := prog_14_method_111_code
def yX12_weightTo : MethodName := ⟨RX12, "weightTo", "(I)I"⟩
abbrev cX12_likely : ByteArray := prog_14_method_112_code
def yX12_likely : MethodName := ⟨RX12, "likely", "(II)I"⟩
abbrev cX12_common : ByteArray := prog_14_method_113_code
def yX12_common : MethodName := ⟨RX12, "common", "(JJ)J"⟩
abbrev cX12_part : ByteArray := prog_14_method_114_code
def yX12_part : MethodName := ⟨RX12, "part", "(JJZ)J"⟩
abbrev cX12_findProducts : ByteArray := prog_14_method_115_code
def yX12_findProducts : MethodName := ⟨RX12, "findProducts", "(I)Z"⟩
abbrev cX12_byAll : ByteArray := prog_14_method_116_code
def yX12_byAll : MethodName := ⟨RX12, "byAll", "(IIZ)J"⟩
abbrev cX12_findLeads : ByteArray := prog_14_method_117_code
def yX12_findLeads : MethodName := ⟨RX12, "findLeads", "()V"⟩
abbrev cX12_clash : ByteArray := prog_14_method_118_code
def yX12_clash : MethodName := ⟨RX12, "clash", "(I)I"⟩
abbrev cX12_wrong : ByteArray := prog_14_method_119_code
def yX12_wrong : MethodName := ⟨RX12, "wrong", "(IZ)I"⟩
abbrev cX12_heard : ByteArray := prog_14_method_120_code
def yX12_heard : MethodName := ⟨RX12, "heard", "(I)I"⟩
abbrev cX12_whose : ByteArray := prog_14_method_121_code
def yX12_whose : MethodName := ⟨RX12, "whose", "(IIIZ)I"⟩
abbrev cX12_nearest : ByteArray := prog_14_method_122_code
def yX12_nearest : MethodName := ⟨RX12, "nearest", "(I)I"⟩
abbrev cX12_findFar : ByteArray := prog_14_method_123_code
def yX12_findFar : MethodName := ⟨RX12, "findFar", "(I)V"⟩
abbrev cX12_far : ByteArray := prog_14_method_124_code
def yX12_far : MethodName := ⟨RX12, "far", "(II)I"⟩
abbrev cX12_timeOf : ByteArray := prog_14_method_125_code
def yX12_timeOf : MethodName := ⟨RX12, "timeOf", "()J"⟩
abbrev cX12_nextOrder : ByteArray := prog_14_method_126_code
def yX12_nextOrder : MethodName := ⟨RX12, "nextOrder", "()Z"⟩
abbrev cX12_findOrder : ByteArray := prog_14_method_127_code
def yX12_findOrder : MethodName := ⟨RX12, "findOrder", "(I)Z"⟩
abbrev cX12_see : ByteArray := prog_14_method_128_code
def yX12_see : MethodName := ⟨RX12, "see", "(II)J"⟩
abbrev cX12_timeByAsking : ByteArray := prog_14_method_129_code
def yX12_timeByAsking : MethodName := ⟨RX12, "timeByAsking", "(I)J"⟩
abbrev cX12_orAsk : ByteArray := prog_14_method_130_code
def yX12_orAsk : MethodName := ⟨RX12, "orAsk", "(I)I"⟩
abbrev cX12_stateOf : ByteArray := prog_14_method_131_code
def yX12_stateOf : MethodName := ⟨RX12, "stateOf", "(III)I"⟩
abbrev cX12_safeOf : ByteArray := prog_14_method_132_code
def yX12_safeOf : MethodName := ⟨RX12, "safeOf", "(II)I"⟩
abbrev cX12_safeSoFar : ByteArray := prog_14_method_133_code
def yX12_safeSoFar : MethodName := ⟨RX12, "safeSoFar", "(IIZ)I"⟩
abbrev cX12_howFar : ByteArray := prog_14_method_134_code
def yX12_howFar : MethodName := ⟨RX12, "howFar", "(II)I"⟩
abbrev cX12_lost : ByteArray := prog_14_method_135_code
def yX12_lost : MethodName := ⟨RX12, "lost", "(II)I"⟩
abbrev cX12_power : ByteArray := prog_14_method_136_code
def yX12_power : MethodName := ⟨RX12, "power", "(JI)J"⟩
abbrev cX12_listen : ByteArray := prog_14_method_137_code
def yX12_listen : MethodName := ⟨RX12, "listen", "(IIIIZ)J"⟩
abbrev cX12_turnOf : ByteArray := prog_14_method_138_code
def yX12_turnOf : MethodName := ⟨RX12, "turnOf", "(I)I"⟩
abbrev cX12_leadsToGoal : ByteArray := prog_14_method_139_code
def yX12_leadsToGoal : MethodName := ⟨RX12, "leadsToGoal", "(III)Z"⟩
abbrev cX12_findTelling : ByteArray := prog_14_method_140_code
def yX12_findTelling : MethodName := ⟨RX12, "findTelling", "(III)Z"⟩
abbrev cX12_tell : ByteArray := prog_14_method_141_code
def yX12_tell : MethodName := ⟨RX12, "tell", "(IIII)I"⟩
abbrev cX12_where : ByteArray := prog_14_method_142_code
def yX12_where : MethodName := ⟨RX12, "where", "(IZ)I"⟩
abbrev cX12_map : ByteArray := prog_14_method_143_code
def yX12_map : MethodName := ⟨RX12, "map", "(III)I"⟩
abbrev cX12_findShown : ByteArray := prog_14_method_144_code
def yX12_findShown : MethodName := ⟨RX12, "findShown", "()V"⟩
abbrev cX12_directionFrom : ByteArray := prog_14_method_145_code
def yX12_directionFrom : MethodName := ⟨RX12, "directionFrom", "(III)I"⟩
abbrev cX12_comesToGoal : ByteArray := prog_14_method_146_code
def yX12_comesToGoal : MethodName := ⟨RX12, "comesToGoal", "(III)Z"⟩
abbrev cX12_areEnough : ByteArray := prog_14_method_147_code
def yX12_areEnough : MethodName := ⟨RX12, "areEnough", "(I)Z"⟩
abbrev cX12_signs : ByteArray := prog_14_method_148_code
def yX12_signs : MethodName := ⟨RX12, "signs", "()I"⟩
abbrev cX12_image : ByteArray := prog_14_method_149_code
def yX12_image : MethodName := ⟨RX12, "image", "()I"⟩
abbrev cX12_back : ByteArray := prog_14_method_150_code
def yX12_back : MethodName := ⟨RX12, "back", "()I"⟩
abbrev cX12_about : ByteArray := prog_14_method_151_code
def yX12_about : MethodName := ⟨RX12, "about", "(I)I"⟩
def RJx145de : String := "java/io/Serializable"
def TJx145de : u_T := fun k => match k with
  | _ => ("", "", "", false)
def tyJx145de : Nat → FieldType := fun k => match k with
  | _ => .int
abbrev wsJx145de0 : List Cond := u_ws RJx145de TJx145de 0
theorem nmJx145de : ∀ a, a < 0 → ∀ b, b < 0 → a ≠ b → (TJx145de a).2.1 ≠ (TJx145de b).2.1 := by decide +kernel
theorem tyJx145de_ok : ∀ k, k < 0 → parseFieldDescriptor (TJx145de k).2.2.1 = some (tyJx145de k) := by decide +kernel
def RJx9f9b0 : String := "java/lang/CharSequence"
def TJx9f9b0 : u_T := fun k => match k with
  | _ => ("", "", "", false)
def tyJx9f9b0 : Nat → FieldType := fun k => match k with
  | _ => .int
abbrev wsJx9f9b00 : List Cond := u_ws RJx9f9b0 TJx9f9b0 0
theorem nmJx9f9b0 : ∀ a, a < 0 → ∀ b, b < 0 → a ≠ b → (TJx9f9b0 a).2.1 ≠ (TJx9f9b0 b).2.1 := by decide +kernel
theorem tyJx9f9b0_ok : ∀ k, k < 0 → parseFieldDescriptor (TJx9f9b0 k).2.2.1 = some (tyJx9f9b0 k) := by decide +kernel
def RJx8e188 : String := "java/lang/Cloneable"
def TJx8e188 : u_T := fun k => match k with
  | _ => ("", "", "", false)
def tyJx8e188 : Nat → FieldType := fun k => match k with
  | _ => .int
abbrev wsJx8e1880 : List Cond := u_ws RJx8e188 TJx8e188 0
theorem nmJx8e188 : ∀ a, a < 0 → ∀ b, b < 0 → a ≠ b → (TJx8e188 a).2.1 ≠ (TJx8e188 b).2.1 := by decide +kernel
theorem tyJx8e188_ok : ∀ k, k < 0 → parseFieldDescriptor (TJx8e188 k).2.2.1 = some (tyJx8e188 k) := by decide +kernel
def RJxb160c : String := "java/lang/Comparable"
def TJxb160c : u_T := fun k => match k with
  | _ => ("", "", "", false)
def tyJxb160c : Nat → FieldType := fun k => match k with
  | _ => .int
abbrev wsJxb160c0 : List Cond := u_ws RJxb160c TJxb160c 0
theorem nmJxb160c : ∀ a, a < 0 → ∀ b, b < 0 → a ≠ b → (TJxb160c a).2.1 ≠ (TJxb160c b).2.1 := by decide +kernel
theorem tyJxb160c_ok : ∀ k, k < 0 → parseFieldDescriptor (TJxb160c k).2.2.1 = some (tyJxb160c k) := by decide +kernel
def RJ6 : String := "java/lang/Integer"
def TJ6 : u_T := fun k => match k with
  | _ => ("", "", "", false)
def tyJ6 : Nat → FieldType := fun k => match k with
  | _ => .int
abbrev wsJ60 : List Cond := u_ws RJ6 TJ6 0
theorem nmJ6 : ∀ a, a < 0 → ∀ b, b < 0 → a ≠ b → (TJ6 a).2.1 ≠ (TJ6 b).2.1 := by decide +kernel
theorem tyJ6_ok : ∀ k, k < 0 → parseFieldDescriptor (TJ6 k).2.2.1 = some (tyJ6 k) := by decide +kernel
abbrev cJ6_bitCount_0f7a4 : ByteArray := prog_16_method_49_code
def yJ6_bitCount_0f7a4 : MethodName := ⟨RJ6, "bitCount", "(I)I"⟩
def RJ9 : String := "java/lang/Math"
def TJ9 : u_T := fun k => match k with
  | _ => ("", "", "", false)
def tyJ9 : Nat → FieldType := fun k => match k with
  | _ => .int
abbrev wsJ90 : List Cond := u_ws RJ9 TJ9 0
theorem nmJ9 : ∀ a, a < 0 → ∀ b, b < 0 → a ≠ b → (TJ9 a).2.1 ≠ (TJ9 b).2.1 := by decide +kernel
theorem tyJ9_ok : ∀ k, k < 0 → parseFieldDescriptor (TJ9 k).2.2.1 = some (tyJ9 k) := by decide +kernel
abbrev cJ9_max_7cf53 : ByteArray := prog_17_method_65_code
def yJ9_max_7cf53 : MethodName := ⟨RJ9, "max", "(II)I"⟩
abbrev cJ9_max_f86c9 : ByteArray := prog_17_method_66_code
def yJ9_max_f86c9 : MethodName := ⟨RJ9, "max", "(JJ)J"⟩
abbrev cJ9_min_7cf53 : ByteArray := prog_17_method_69_code
def yJ9_min_7cf53 : MethodName := ⟨RJ9, "min", "(II)I"⟩
abbrev cJ9_min_f86c9 : ByteArray := prog_17_method_70_code
def yJ9_min_f86c9 : MethodName := ⟨RJ9, "min", "(JJ)J"⟩
def RJ0 : String := "java/lang/String"
def TJ0 : u_T := fun k => match k with
  | _ => ("", "", "", false)
def tyJ0 : Nat → FieldType := fun k => match k with
  | _ => .int
abbrev wsJ00 : List Cond := u_ws RJ0 TJ0 0
theorem nmJ0 : ∀ a, a < 0 → ∀ b, b < 0 → a ≠ b → (TJ0 a).2.1 ≠ (TJ0 b).2.1 := by decide +kernel
theorem tyJ0_ok : ∀ k, k < 0 → parseFieldDescriptor (TJ0 k).2.2.1 = some (tyJ0 k) := by decide +kernel
abbrev cJ0_length_8abf5 : ByteArray := prog_18_method_54_code
def yJ0_length_8abf5 : MethodName := ⟨RJ0, "length", "()I"⟩
abbrev cJ0_charAt_5068e : ByteArray := prog_18_method_56_code
def yJ0_charAt_5068e : MethodName := ⟨RJ0, "charAt", "(I)C"⟩
abbrev cJ0_coder_7d493 : ByteArray := prog_18_method_152_code
def yJ0_coder_7d493 : MethodName := ⟨RJ0, "coder", "()B"⟩
abbrev cJ0_isLatin1_aae02 : ByteArray := prog_18_method_154_code
def yJ0_isLatin1_aae02 : MethodName := ⟨RJ0, "isLatin1", "()Z"⟩
abbrev cJ0_checkIndex_df160 : ByteArray := prog_18_method_155_code
def yJ0_checkIndex_df160 : MethodName := ⟨RJ0, "checkIndex", "(II)V"⟩
def RJ1 : String := "java/lang/StringLatin1"
def TJ1 : u_T := fun k => match k with
  | _ => ("", "", "", false)
def tyJ1 : Nat → FieldType := fun k => match k with
  | _ => .int
abbrev wsJ10 : List Cond := u_ws RJ1 TJ1 0
theorem nmJ1 : ∀ a, a < 0 → ∀ b, b < 0 → a ≠ b → (TJ1 a).2.1 ≠ (TJ1 b).2.1 := by decide +kernel
theorem tyJ1_ok : ∀ k, k < 0 → parseFieldDescriptor (TJ1 k).2.2.1 = some (tyJ1 k) := by decide +kernel
abbrev cJ1_charAt_3b067 : ByteArray := prog_19_method_2_code
def yJ1_charAt_3b067 : MethodName := ⟨RJ1, "charAt", "([BI)C"⟩
def RJ2 : String := "java/lang/StringUTF16"
def TJ2 : u_T := fun k => match k with
  | _ => ("", "", "", false)
def tyJ2 : Nat → FieldType := fun k => match k with
  | _ => .int
abbrev wsJ20 : List Cond := u_ws RJ2 TJ2 0
theorem nmJ2 : ∀ a, a < 0 → ∀ b, b < 0 → a ≠ b → (TJ2 a).2.1 ≠ (TJ2 b).2.1 := by decide +kernel
theorem tyJ2_ok : ∀ k, k < 0 → parseFieldDescriptor (TJ2 k).2.2.1 = some (tyJ2 k) := by decide +kernel
abbrev cJ2_getChar_3b067 : ByteArray := prog_20_method_5_code
def yJ2_getChar_3b067 : MethodName := ⟨RJ2, "getChar", "([BI)C"⟩
abbrev cJ2_length_9d52b : ByteArray := prog_20_method_6_code
def yJ2_length_9d52b : MethodName := ⟨RJ2, "length", "([B)I"⟩
abbrev cJ2_charAt_3b067 : ByteArray := prog_20_method_83_code
def yJ2_charAt_3b067 : MethodName := ⟨RJ2, "charAt", "([BI)C"⟩
abbrev cJ2_checkIndex_2214a : ByteArray := prog_20_method_91_code
def yJ2_checkIndex_2214a : MethodName := ⟨RJ2, "checkIndex", "(I[B)V"⟩
def RJ10 : String := "java/lang/System"
def TJ10 : u_T := fun k => match k with
  | _ => ("", "", "", false)
def tyJ10 : Nat → FieldType := fun k => match k with
  | _ => .int
abbrev wsJ100 : List Cond := u_ws RJ10 TJ10 0
theorem nmJ10 : ∀ a, a < 0 → ∀ b, b < 0 → a ≠ b → (TJ10 a).2.1 ≠ (TJ10 b).2.1 := by decide +kernel
theorem tyJ10_ok : ∀ k, k < 0 → parseFieldDescriptor (TJ10 k).2.2.1 = some (tyJ10 k) := by decide +kernel
def RJxfd54e : String := "java/lang/constant/Constable"
def TJxfd54e : u_T := fun k => match k with
  | _ => ("", "", "", false)
def tyJxfd54e : Nat → FieldType := fun k => match k with
  | _ => .int
abbrev wsJxfd54e0 : List Cond := u_ws RJxfd54e TJxfd54e 0
theorem nmJxfd54e : ∀ a, a < 0 → ∀ b, b < 0 → a ≠ b → (TJxfd54e a).2.1 ≠ (TJxfd54e b).2.1 := by decide +kernel
theorem tyJxfd54e_ok : ∀ k, k < 0 → parseFieldDescriptor (TJxfd54e k).2.2.1 = some (tyJxfd54e k) := by decide +kernel
def RJx3cf43 : String := "java/lang/constant/ConstantDesc"
def TJx3cf43 : u_T := fun k => match k with
  | _ => ("", "", "", false)
def tyJx3cf43 : Nat → FieldType := fun k => match k with
  | _ => .int
abbrev wsJx3cf430 : List Cond := u_ws RJx3cf43 TJx3cf43 0
theorem nmJx3cf43 : ∀ a, a < 0 → ∀ b, b < 0 → a ≠ b → (TJx3cf43 a).2.1 ≠ (TJx3cf43 b).2.1 := by decide +kernel
theorem tyJx3cf43_ok : ∀ k, k < 0 → parseFieldDescriptor (TJx3cf43 k).2.2.1 = some (tyJx3cf43 k) := by decide +kernel
def RJ7 : String := "java/util/Arrays"
def TJ7 : u_T := fun k => match k with
  | _ => ("", "", "", false)
def tyJ7 : Nat → FieldType := fun k => match k with
  | _ => .int
abbrev wsJ70 : List Cond := u_ws RJ7 TJ7 0
theorem nmJ7 : ∀ a, a < 0 → ∀ b, b < 0 → a ≠ b → (TJ7 a).2.1 ≠ (TJ7 b).2.1 := by decide +kernel
theorem tyJ7_ok : ∀ k, k < 0 → parseFieldDescriptor (TJ7 k).2.2.1 = some (tyJ7 k) := by decide +kernel
abbrev cJ7_fill_d0a16 : ByteArray := prog_22_method_101_code
def yJ7_fill_d0a16 : MethodName := ⟨RJ7, "fill", "([JJ)V"⟩
abbrev cJ7_fill_53178 : ByteArray := prog_22_method_103_code
def yJ7_fill_53178 : MethodName := ⟨RJ7, "fill", "([II)V"⟩
abbrev cJ7_copyOf_59c91 : ByteArray := prog_22_method_123_code
def yJ7_copyOf_59c91 : MethodName := ⟨RJ7, "copyOf", "([II)[I"⟩
def RJ3 : String := "jdk/internal/util/Preconditions"
def TJ3 : u_T := fun k => match k with
  | _ => ("", "", "", false)
def tyJ3 : Nat → FieldType := fun k => match k with
  | _ => .int
abbrev wsJ30 : List Cond := u_ws RJ3 TJ3 0
theorem nmJ3 : ∀ a, a < 0 → ∀ b, b < 0 → a ≠ b → (TJ3 a).2.1 ≠ (TJ3 b).2.1 := by decide +kernel
theorem tyJ3_ok : ∀ k, k < 0 → parseFieldDescriptor (TJ3 k).2.2.1 = some (tyJ3 k) := by decide +kernel
abbrev cJ3_checkIndex_8e157 : ByteArray := prog_23_method_11_code
def yJ3_checkIndex_8e157 : MethodName := ⟨RJ3, "checkIndex", "(IILjava/util/function/BiFunction;)I"⟩
def RL : String := "SecondLeftLaw"
abbrev cL_law : ByteArray := code
def yL_law : MethodName := ⟨RL, "law", "([I)Z"⟩
abbrev vwCl : List vw_C := [(RX0, TX0, 5), (RX1, TX1, 5), (RX2, TX2, 4), (RX3, TX3, 6), (RX4, TX4, 15), (RX5, TX5, 4), (RX6, TX6, 12), (RX7, TX7, 11), (RX8, TX8, 4), (RX9, TX9, 4), (RX10, TX10, 8), (RX11, TX11, 16), (RX12, TX12, 47)]
end
section
/-! THE ABSTRACT MACHINE: values are whole numbers (Int) or cells by their number; memory is shapes and three tables. -/
abbrev AV : Type := Int ⊕ (Int ⊕ Option Nat)
abbrev aI (x : Int) : AV := .inl x
abbrev aL (x : Int) : AV := .inr (.inl x)
abbrev aR (k : Nat) : AV := .inr (.inr (some k))
abbrev aN : AV := .inr (.inr none)
abbrev Sh : Type := Nat ⊕ (Nat × Nat)
abbrev Mem : Type := List Sh × (Nat → Nat → Int) × (Nat → Nat → Int) × (Nat → Nat → Option Nat)
def inI (x : Int) : Prop := -2147483648 ≤ x ∧ x < 2147483648
def inL (x : Int) : Prop := -9223372036854775808 ≤ x ∧ x < 9223372036854775808
def wI (x : Int) : Int := x.bmod 4294967296
def wL (x : Int) : Int := x.bmod 18446744073709551616
def mI (M : Mem) (k j : Nat) : Int := M.2.1 k j
def mJ (M : Mem) (k j : Nat) : Int := M.2.2.1 k j
def mR (M : Mem) (k j : Nat) : Option Nat := M.2.2.2 k j
def up2 {α : Type} (f : Nat → Nat → α) (k j : Nat) (v : α) : Nat → Nat → α := fun a b => if a = k ∧ b = j then v else f a b
def sI (M : Mem) (k j : Nat) (v : Int) : Mem := (M.1, up2 M.2.1 k j v, M.2.2)
def sJ (M : Mem) (k j : Nat) (v : Int) : Mem := (M.1, M.2.1, up2 M.2.2.1 k j v, M.2.2.2)
def sR (M : Mem) (k j : Nat) (v : Option Nat) : Mem := (M.1, M.2.1, M.2.2.1, up2 M.2.2.2 k j v)
theorem inI_wI (x : Int) : inI (wI x) := by
  unfold inI wI
  have h1 := Int.le_bmod (x := x) (m := 4294967296) (by decide)
  have h2 := Int.bmod_lt (x := x) (m := 4294967296) (by decide)
  omega
theorem inL_wL (x : Int) : inL (wL x) := by
  unfold inL wL
  have h1 := Int.le_bmod (x := x) (m := 18446744073709551616) (by decide)
  have h2 := Int.bmod_lt (x := x) (m := 18446744073709551616) (by decide)
  omega
theorem wI_id {x : Int} (h1 : -2147483648 ≤ x) (h2 : x < 2147483648) : wI x = x := by
  unfold wI
  exact Int.bmod_eq_of_le_mul_two (by omega) (by omega)
theorem wL_id {x : Int} (h1 : -9223372036854775808 ≤ x) (h2 : x < 9223372036854775808) : wL x = x := by
  unfold wL
  exact Int.bmod_eq_of_le_mul_two (by omega) (by omega)
theorem oI (x : Int) : (Int32.ofInt x).toInt = wI x := Int32.toInt_ofInt
theorem oL (x : Int) : (Int64.ofInt x).toInt = wL x := Int64.toInt_ofInt
theorem oI_id {x : Int} (h : inI x) : (Int32.ofInt x).toInt = x := (oI x).trans (wI_id h.1 h.2)
theorem oL_id {x : Int} (h : inL x) : (Int64.ofInt x).toInt = x := (oL x).trans (wL_id h.1 h.2)
theorem oI_to (x : Int32) : Int32.ofInt x.toInt = x := Int32.ofInt_toInt x
theorem oL_to (x : Int64) : Int64.ofInt x.toInt = x := Int64.ofInt_toInt x
theorem oI_w (x : Int) : Int32.ofInt (wI x) = Int32.ofInt x := by rw [← oI, oI_to]
theorem oL_w (x : Int) : Int64.ofInt (wL x) = Int64.ofInt x := by rw [← oL, oL_to]
theorem inI_to (x : Int32) : inI x.toInt := ⟨x.le_toInt, x.toInt_lt⟩
theorem inL_to (x : Int64) : inL x.toInt := ⟨x.le_toInt, x.toInt_lt⟩
theorem oI_add (x y : Int) : Int32.ofInt x + Int32.ofInt y = Int32.ofInt (wI (x + y)) := by rw [oI_w, Int32.ofInt_add]
theorem oI_sub (x y : Int) : Int32.ofInt x - Int32.ofInt y = Int32.ofInt (wI (x - y)) := by rw [oI_w, Int32.ofInt_sub]
theorem oI_mul (x y : Int) : Int32.ofInt x * Int32.ofInt y = Int32.ofInt (wI (x * y)) := by rw [oI_w, Int32.ofInt_mul]
theorem oI_neg (x : Int) : - Int32.ofInt x = Int32.ofInt (wI (-x)) := by rw [oI_w, Int32.ofInt_neg]
theorem oL_add (x y : Int) : Int64.ofInt x + Int64.ofInt y = Int64.ofInt (wL (x + y)) := by rw [oL_w, Int64.ofInt_add]
theorem oL_sub (x y : Int) : Int64.ofInt x - Int64.ofInt y = Int64.ofInt (wL (x - y)) := by rw [oL_w, Int64.ofInt_sub]
theorem oL_mul (x y : Int) : Int64.ofInt x * Int64.ofInt y = Int64.ofInt (wL (x * y)) := by rw [oL_w, Int64.ofInt_mul]
theorem oL_neg (x : Int) : - Int64.ofInt x = Int64.ofInt (wL (-x)) := by rw [oL_w, Int64.ofInt_neg]
theorem oI_eq {x y : Int} (hx : inI x) (hy : inI y) : Int32.ofInt x = Int32.ofInt y ↔ x = y := by
  rw [← Int32.toInt_inj, oI_id hx, oI_id hy]
theorem oI_lt {x y : Int} (hx : inI x) (hy : inI y) : Int32.ofInt x < Int32.ofInt y ↔ x < y := by
  rw [Int32.lt_iff_toInt_lt, oI_id hx, oI_id hy]
theorem oI_le {x y : Int} (hx : inI x) (hy : inI y) : Int32.ofInt x ≤ Int32.ofInt y ↔ x ≤ y := by
  rw [Int32.le_iff_toInt_le, oI_id hx, oI_id hy]
theorem oL_eq {x y : Int} (hx : inL x) (hy : inL y) : Int64.ofInt x = Int64.ofInt y ↔ x = y := by
  rw [← Int64.toInt_inj, oL_id hx, oL_id hy]
theorem oL_lt {x y : Int} (hx : inL x) (hy : inL y) : Int64.ofInt x < Int64.ofInt y ↔ x < y := by
  rw [Int64.lt_iff_toInt_lt, oL_id hx, oL_id hy]
theorem oI_0 : (0 : Int32) = Int32.ofInt 0 := rfl
theorem inI_0 : inI 0 := ⟨by decide, by decide⟩
def dvI (x y : Int) : Int := wI (x.tdiv y)
def rmI (x y : Int) : Int := x.tmod y
def dvL (x y : Int) : Int := wL (x.tdiv y)
def rmL (x y : Int) : Int := x.tmod y
theorem oI_div {x y : Int} (hx : inI x) (hy : inI y) : Int32.ofInt x / Int32.ofInt y = Int32.ofInt (dvI x y) := by
  apply Int32.toInt_inj.mp
  show _ = (Int32.ofInt (wI _)).toInt
  rw [Int32.toInt_div, oI_id hx, oI_id hy, oI_id (inI_wI _)]
  rfl
theorem oI_rem {x y : Int} (hx : inI x) (hy : inI y) : Int32.ofInt x - Int32.ofInt x / Int32.ofInt y * Int32.ofInt y = Int32.ofInt (rmI x y) := by
  rw [oI_div hx hy]
  unfold dvI rmI
  rw [oI_w, ← Int32.ofInt_mul, ← Int32.ofInt_sub, Int.tmod_def, Int.mul_comm]
theorem inI_rm {x y : Int} (hx : inI x) (hy : ¬ y = 0) : inI (rmI x y) := by
  unfold rmI
  unfold inI at *
  have h1 := Int.natAbs_tmod x y
  have h2 : x.natAbs % y.natAbs ≤ x.natAbs := Nat.mod_le _ _
  have h3 : 0 ≤ x → 0 ≤ x.tmod y := fun h => Int.tmod_nonneg y h
  have h4 : x ≤ 0 → x.tmod y ≤ 0 := fun h => by
    have := Int.tmod_nonneg y (a := -x) (by omega)
    rw [Int.neg_tmod] at this
    omega
  omega
theorem oL_div {x y : Int} (hx : inL x) (hy : inL y) : Int64.ofInt x / Int64.ofInt y = Int64.ofInt (dvL x y) := by
  apply Int64.toInt_inj.mp
  show _ = (Int64.ofInt (wL _)).toInt
  rw [Int64.toInt_div, oL_id hx, oL_id hy, oL_id (inL_wL _)]
  rfl
theorem oL_rem {x y : Int} (hx : inL x) (hy : inL y) : Int64.ofInt x - Int64.ofInt x / Int64.ofInt y * Int64.ofInt y = Int64.ofInt (rmL x y) := by
  rw [oL_div hx hy]
  unfold dvL rmL
  rw [oL_w, ← Int64.ofInt_mul, ← Int64.ofInt_sub, Int.tmod_def, Int.mul_comm]
theorem inL_rm {x y : Int} (hx : inL x) (hy : ¬ y = 0) : inL (rmL x y) := by
  unfold rmL
  unfold inL at *
  have h1 := Int.natAbs_tmod x y
  have h2 : x.natAbs % y.natAbs ≤ x.natAbs := Nat.mod_le _ _
  have h3 : 0 ≤ x → 0 ≤ x.tmod y := fun h => Int.tmod_nonneg y h
  have h4 : x ≤ 0 → x.tmod y ≤ 0 := fun h => by
    have := Int.tmod_nonneg y (a := -x) (by omega)
    rw [Int.neg_tmod] at this
    omega
  omega
def andI (x y : Int) : Int := (Int32.ofInt x &&& Int32.ofInt y).toInt
def orI (x y : Int) : Int := (Int32.ofInt x ||| Int32.ofInt y).toInt
def xorI (x y : Int) : Int := (Int32.ofInt x ^^^ Int32.ofInt y).toInt
def shlI (x y : Int) : Int := (Int32.ofInt x <<< (Int32.ofInt y &&& 31)).toInt
def shrI (x y : Int) : Int := (Int32.ofInt x >>> (Int32.ofInt y &&& 31)).toInt
def ushrI (x y : Int) : Int := ((Int32.ofInt x).toUInt32 >>> ((Int32.ofInt y).toUInt32 &&& Int32.toUInt32 31)).toInt32.toInt
def andL (x y : Int) : Int := (Int64.ofInt x &&& Int64.ofInt y).toInt
def orL (x y : Int) : Int := (Int64.ofInt x ||| Int64.ofInt y).toInt
def shlL (x y : Int) : Int := (Int64.ofInt x <<< ((Int32.ofInt y).toInt64 &&& 63)).toInt
def shrL (x y : Int) : Int := (Int64.ofInt x >>> ((Int32.ofInt y).toInt64 &&& 63)).toInt
def cmpL (x y : Int) : Int := if y < x then 1 else if x = y then 0 else -1
end
section
/-! THE WORLD that a memory stands for, and the judgement VC: from this abstract state the method comes to its end with Q. -/
def aV (ad : Nat → Nat) : AV → Value
  | .inl x => .int (Int32.ofInt x)
  | .inr (.inl x) => .long (Int64.ofInt x)
  | .inr (.inr r) => va_rf (r.map ad)
def tyC (ci : Nat) : Nat → FieldType := match ci with
  | 0 => tyX0 | 1 => tyX1 | 2 => tyX2 | 3 => tyX3 | 4 => tyX4 | 5 => tyX5 | 6 => tyX6 | 7 => tyX7 | 8 => tyX8 | 9 => tyX9 | 10 => tyX10 | 11 => tyX11 | _ => tyX12
def nFC (ci : Nat) : Nat := match vwCl[ci]? with
  | some q => q.2.2
  | none => 0
/-- what a place of a cell holds, by its type -/
def fV (ad : Nat → Nat) (M : Mem) (k j : Nat) (ty : FieldType) : Value := match ty with
  | .long => .long (Int64.ofInt (mJ M k j))
  | .object _ => va_rf ((mR M k j).map ad)
  | .array _ => va_rf ((mR M k j).map ad)
  | _ => .int (Int32.ofInt (mI M k j))
def tyA (t : Nat) : FieldType := match t with
  | 0 => .int
  | 1 => .long
  | 2 => .boolean
  | _ => .object "SecondLeft$Text"
def arA (ad : Nat → Nat) (M : Mem) (k t : Nat) : (Nat → Int32) ⊕ (Nat → Int64) ⊕ (Nat → UInt32) ⊕ (Nat → UInt64) ⊕ (Nat → Option Nat) := match t with
  | 0 => .inl (fun i => Int32.ofInt (mI M k i))
  | 1 => .inr (.inl (fun i => Int64.ofInt (mJ M k i)))
  | 2 => .inl (fun i => Int32.ofInt (mI M k i))
  | _ => .inr (.inr (.inr (.inr (fun i => (mR M k i).map ad))))
def flC (ad : Nat → Nat) (M : Mem) (k ci : Nat) : List Value := (List.range (nFC ci)).map (fun j => fV ad M k j (tyC ci j))
def cellW (dA : Nat → ClassId) (ad : Nat → Nat) (M : Mem) (k : Nat) (sh : Sh) : va_E := match sh with
  | .inl ci => .inr (ci, flC ad M k ci)
  | .inr (t, n) => .inl (dA t, n, arA ad M k t)
def wld (dA : Nat → ClassId) (ad : Nat → Nat) (M : Mem) : va_W := M.1.mapIdx (fun k sh => (ad k, cellW dA ad M k sh))
def tysA (dA : Nat → ClassId) : List (ClassId × FieldType) := [(dA 0, tyA 0), (dA 1, tyA 1), (dA 2, tyA 2), (dA 3, tyA 3)]
theorem wld_at {dA : Nat → ClassId} {ad : Nat → Nat} {M : Mem} {k : Nat} {sh : Sh} (h : M.1[k]? = some sh) : (wld dA ad M)[k]? = some (ad k, cellW dA ad M k sh) := by
  unfold wld
  rw [List.getElem?_mapIdx, h]
  rfl
theorem wld_get {dA : Nat → ClassId} {ad : Nat → Nat} {M : Mem} {k : Nat} {q : Nat × va_E} (h : (wld dA ad M)[k]? = some q) : ∃ sh, M.1[k]? = some sh ∧ q = (ad k, cellW dA ad M k sh) := by
  unfold wld at h
  rw [List.getElem?_mapIdx] at h
  cases hs : M.1[k]? with
  | none => rw [hs] at h; cases h
  | some sh => rw [hs] at h; exact ⟨sh, rfl, (Option.some.inj h).symm⟩
theorem wld_len {dA : Nat → ClassId} {ad : Nat → Nat} {M : Mem} : (wld dA ad M).length = M.1.length := by unfold wld; simp
/-- a value is in its range, a cell's number is one of the memory's -/
def okV (S : List Sh) : AV → Prop
  | .inl x => inI x
  | .inr (.inl x) => inL x
  | .inr (.inr none) => True
  | .inr (.inr (some k)) => k < S.length
def okM (M : Mem) : Prop := ∀ k j, inI (mI M k j) ∧ inL (mJ M k j) ∧ ∀ r, mR M k j = some r → r < M.1.length
def okS (S : List Sh) (st : List AV) : Prop := ∀ v ∈ st, okV S v
def okL (S : List Sh) (L : List (Option AV)) : Prop := ∀ (i : Nat) (v : AV), L[i]? = some (some v) → okV S v
def lvL (ad : Nat → Nat) (L : List (Option AV)) : List (Nat × Value) := (List.range L.length).filterMap (fun i => (L[i]?.join).map (fun v => (i, aV ad v)))
theorem lvL_mem {ad : Nat → Nat} {L : List (Option AV)} {q : Nat × Value} : q ∈ lvL ad L ↔ ∃ v, L[q.1]? = some (some v) ∧ q.2 = aV ad v := by
  unfold lvL
  rw [List.mem_filterMap]
  constructor
  · rintro ⟨i, -, h⟩
    cases h2 : L[i]? with
    | none => rw [h2] at h; cases h
    | some o =>
      cases o with
      | none => rw [h2] at h; cases h
      | some v =>
        rw [h2] at h
        have e := (Option.some.inj h).symm
        subst e
        exact ⟨v, h2, rfl⟩
  · rintro ⟨v, h1, h2⟩
    refine ⟨q.1, List.mem_range.mpr (List.getElem?_eq_some_iff.mp h1).1, ?_⟩
    rw [h1]
    show some (q.1, aV ad v) = some q
    rw [← h2]
theorem lvL_at {ad : Nat → Nat} {L : List (Option AV)} {ls : Array Slot} {nL i : Nat} {v : AV} (h : lv_has ls nL (lvL ad L)) (hi : L[i]? = some (some v)) : ls[i]? = some (.val (aV ad v)) := h.2.2 (i, aV ad v) (lvL_mem.mpr ⟨v, hi, rfl⟩)
theorem aV_ext {ad ad' : Nat → Nat} {S : List Sh} {v : AV} (hv : okV S v) (h : ∀ k, k < S.length → ad' k = ad k) : aV ad' v = aV ad v := by
  rcases v with x | x | r
  · rfl
  · rfl
  · cases r with
    | none => rfl
    | some k => show va_rf (some (ad' k)) = va_rf (some (ad k)); rw [h k hv]
theorem lvL_ext {ad ad' : Nat → Nat} {S : List Sh} {L : List (Option AV)} (hv : okL S L) (h : ∀ k, k < S.length → ad' k = ad k) {ls : Array Slot} {nL : Nat} (hl : lv_has ls nL (lvL ad L)) : lv_has ls nL (lvL ad' L) := by
  refine ⟨hl.1, hl.2.1, fun q hq => ?_⟩
  obtain ⟨v, h1, h2⟩ := lvL_mem.mp hq
  rw [h2, aV_ext (hv _ _ h1) h]
  exact lvL_at hl h1
theorem stk_ext {ad ad' : Nat → Nat} {S : List Sh} {st : List AV} (hv : okS S st) (h : ∀ k, k < S.length → ad' k = ad k) : st.map (aV ad') = st.map (aV ad) := List.map_congr_left fun v hm => aV_ext (hv v hm) h
theorem okS_cons {S : List Sh} {v : AV} {st : List AV} : okS S (v :: st) ↔ okV S v ∧ okS S st := List.forall_mem_cons
/-- fewer places known -/
def lessL (L' L : List (Option AV)) : Prop := ∀ (i : Nat) (v : AV), L'[i]? = some (some v) → L[i]? = some (some v)
theorem lvL_less {ad : Nat → Nat} {L L' : List (Option AV)} {ls : Array Slot} {nL : Nat} (hl : lv_has ls nL (lvL ad L)) (h : lessL L' L) : lv_has ls nL (lvL ad L') := by
  refine ⟨hl.1, hl.2.1, fun q hq => ?_⟩
  obtain ⟨v, h1, h2⟩ := lvL_mem.mp hq
  rw [h2]
  exact lvL_at hl (h _ _ h1)
def catA : AV → Nat
  | .inr (.inl _) => 2
  | _ => 1
theorem aV_cat (ad : Nat → Nat) (v : AV) : (aV ad v).category = catA v := by
  rcases v with x | x | r
  · rfl
  · rfl
  · cases r <;> rfl
/-- the place ahead holds no long: a store here spoils nothing -/
def freeB (L : List (Option AV)) (i : Nat) : Bool := match i with
  | 0 => true
  | j + 1 => match L[j]? with
    | some (some v) => catA v == 1
    | _ => true
theorem freeB_spec {L : List (Option AV)} {i j : Nat} {v : AV} (h : freeB L i = true) (hj : j + 1 = i) (hv : L[j]? = some (some v)) : catA v = 1 := by
  subst hj
  simp only [freeB, hv] at h
  simpa using h
theorem lvL_set1 {ad : Nat → Nat} {L : List (Option AV)} {ls' : Array Slot} {nL i : Nat} {v : AV} (hf : freeB L i = true) (h : lv_has ls' nL ((i, aV ad v) :: (lvL ad L).filter (fun q => !(q.1 == i) && !(q.1 + 1 == i && q.2.category == 2)))) : lv_has ls' nL (lvL ad (L.set i (some v))) := by
  refine ⟨h.1, h.2.1, fun q hq => ?_⟩
  obtain ⟨w, h1, h2⟩ := lvL_mem.mp hq
  by_cases hi : q.1 = i
  · have hlt : i < L.length := by
      have := (List.getElem?_eq_some_iff.mp h1).1
      rw [List.length_set] at this
      omega
    rw [hi, List.getElem?_set_self hlt] at h1
    cases h1
    exact h.2.2 q (by rw [List.mem_cons]; left; exact Prod.ext hi h2)
  · rw [List.getElem?_set_ne (Ne.symm hi)] at h1
    refine h.2.2 q (List.mem_cons_of_mem _ (List.mem_filter.mpr ⟨lvL_mem.mpr ⟨w, h1, h2⟩, ?_⟩))
    have e2 : q.2.category = catA w := by rw [h2, aV_cat]
    by_cases hj : q.1 + 1 = i
    · have e3 := freeB_spec hf hj h1
      simp [hi, e2, e3]
    · simp [hi, hj]
theorem lvL_set2 {ad : Nat → Nat} {L : List (Option AV)} {ls' : Array Slot} {nL i : Nat} {v : AV} (hf : freeB L i = true) (hn : (L.set (i + 1) none)[i + 1]? = some none) (h : lv_has ls' nL ((i, aV ad v) :: (lvL ad L).filter (fun q => !(q.1 == i) && (!(q.1 == i + 1) && !(q.1 + 1 == i && q.2.category == 2))))) : lv_has ls' nL (lvL ad ((L.set (i + 1) none).set i (some v))) := by
  refine ⟨h.1, h.2.1, fun q hq => ?_⟩
  obtain ⟨w, h1, h2⟩ := lvL_mem.mp hq
  by_cases hi : q.1 = i
  · have hlt : i < (L.set (i + 1) none).length := by
      have := (List.getElem?_eq_some_iff.mp h1).1
      rw [List.length_set] at this
      omega
    rw [hi, List.getElem?_set_self hlt] at h1
    cases h1
    exact h.2.2 q (by rw [List.mem_cons]; left; exact Prod.ext hi h2)
  · rw [List.getElem?_set_ne (Ne.symm hi)] at h1
    have hi1 : ¬ q.1 = i + 1 := fun e => by rw [e, hn] at h1; cases h1
    rw [List.getElem?_set_ne (fun e => hi1 e.symm)] at h1
    refine h.2.2 q (List.mem_cons_of_mem _ (List.mem_filter.mpr ⟨lvL_mem.mpr ⟨w, h1, h2⟩, ?_⟩))
    have e2 : q.2.category = catA w := by rw [h2, aV_cat]
    by_cases hj : q.1 + 1 = i
    · have e3 := freeB_spec hf hj h1
      simp [hi, hi1, e2, e3]
    · simp [hi, hi1, hj]
theorem okL_set {S : List Sh} {L : List (Option AV)} {i : Nat} {v : AV} (h : okL S L) (hv : okV S v) : okL S (L.set i (some v)) := by
  intro j w hj
  by_cases hi : j = i
  · subst hi
    have hlt : j < L.length := by
      have := (List.getElem?_eq_some_iff.mp hj).1
      rwa [List.length_set] at this
    rw [List.getElem?_set_self hlt] at hj
    cases hj
    exact hv
  · rw [List.getElem?_set_ne (Ne.symm hi)] at hj
    exact h j w hj
theorem okL_clr {S : List Sh} {L : List (Option AV)} {i : Nat} (h : okL S L) : okL S (L.set i none) := by
  intro j w hj
  by_cases hi : j = i
  · subst hi
    have hlt : j < L.length := by
      have := (List.getElem?_eq_some_iff.mp hj).1
      rwa [List.length_set] at this
    rw [List.getElem?_set_self hlt] at hj
    cases hj
  · rw [List.getElem?_set_ne (Ne.symm hi)] at hj
    exact h j w hj
end
section
/-! OUTSIDE THE WORLD (written by wip/whole/gen_ext.py) -/
def wTxt : String := "swaps leaves mixes pace asks corner street lane goal teller telling start walk turn ask follow to facing at of end least most left right on back who here asked turns face told narrow sight way "
def wByt : List Int32 := [115, 119, 97, 112, 115, 32, 108, 101, 97, 118, 101, 115, 32, 109, 105, 120, 101, 115, 32, 112, 97, 99, 101, 32, 97, 115, 107, 115, 32, 99, 111, 114, 110, 101, 114, 32, 115, 116, 114, 101, 101, 116, 32, 108, 97, 110, 101, 32, 103, 111, 97, 108, 32, 116, 101, 108, 108, 101, 114, 32, 116, 101, 108, 108, 105, 110, 103, 32, 115, 116, 97, 114, 116, 32, 119, 97, 108, 107, 32, 116, 117, 114, 110, 32, 97, 115, 107, 32, 102, 111, 108, 108, 111, 119, 32, 116, 111, 32, 102, 97, 99, 105, 110, 103, 32, 97, 116, 32, 111, 102, 32, 101, 110, 100, 32, 108, 101, 97, 115, 116, 32, 109, 111, 115, 116, 32, 108, 101, 102, 116, 32, 114, 105, 103, 104, 116, 32, 111, 110, 32, 98, 97, 99, 107, 32, 119, 104, 111, 32, 104, 101, 114, 101, 32, 97, 115, 107, 101, 100, 32, 116, 117, 114, 110, 115, 32, 102, 97, 99, 101, 32, 116, 111, 108, 100, 32, 110, 97, 114, 114, 111, 119, 32, 115, 105, 103, 104, 116, 32, 119, 97, 121, 32]
def wLen : Nat := 193
def nw0 : Cond := .methodLinkNest RX6 81 yX11_isDirection "SecondLeft"
def nw1 : Cond := .methodLinkNest RX6 84 yX11_isSlip "SecondLeft"
def nw2 : Cond := .methodLinkNest RX9 39 yX11_isDirection "SecondLeft"
def nw3 : Cond := .methodLinkNest RX2 57 yX11_held "SecondLeft"
def Ext (A : Nat → Prop) (U : State) (H : Heap) : Prop := (va_Nw nw0 U ∧ va_Nw nw1 U ∧ va_Nw nw2 U ∧ va_Nw nw3 U) ∧ va_AO "SecondLeft$Text" U ∧ (∃ adK adV : Nat → Nat, vk_S 1 [wLen] [wByt] adK adV A U H ∧ vk_R "SecondLeft$Reader" 107 wTxt (adK 0) U) ∧ va_Z "java/lang/String" "COMPACT_STRINGS" "Z" (.int 1) A U H ∧ va_Zq "jdk/internal/util/Preconditions" "SIOOBE_FORMATTER" "Ljava/util/function/BiFunction;" A U H
theorem Ext.same {A : Nat → Prop} {u U : State} {H : Heap} (hv : u.vm = U.vm) (h : Ext A u H) : Ext A U H := by
  obtain ⟨⟨n0, n1, n2, n3⟩, h2, ⟨adK, adV, h3, h4⟩, h5, h6⟩ := h
  have ha : u.vm.Alike U.vm := by rw [hv]; exact Vm.Alike.refl _
  exact ⟨⟨va_Nw.same rfl hv n0, va_Nw.same rfl hv n1, va_Nw.same rfl hv n2, va_Nw.same rfl hv n3⟩, h2.moved ha, ⟨adK, adV, h3.moved ha, vk_R.same hv.symm h4⟩, h5.moved ha, h6.moved ha⟩
theorem Ext.warm {A : Nat → Prop} {u U : State} {H : Heap} (hv : u.WarmedH U.vm) (h : Ext A u H) : Ext A U H := by
  obtain ⟨⟨n0, n1, n2, n3⟩, h2, ⟨adK, adV, h3, h4⟩, h5, h6⟩ := h
  have ha : u.vm.Alike U.vm := hv.alike
  exact ⟨⟨va_Nw.warmM hv n0, va_Nw.warmM hv n1, va_Nw.warmM hv n2, va_Nw.warmM hv n3⟩, h2.moved ha, ⟨adK, adV, h3.moved ha, vk_R.warm hv h4⟩, h5.moved ha, h6.moved ha⟩
theorem Ext.kept {A : Nat → Prop} {U : State} {H H1 : Heap} (h : Ext A U H) (hq : ∀ a : Nat, a < H.size → ¬ A a → H1[a]? = H[a]?) : Ext A U H1 := by
  obtain ⟨h1, h2, ⟨adK, adV, h3, h4⟩, h5, h6⟩ := h
  exact ⟨h1, h2, ⟨adK, adV, h3.kept hq, h4⟩, h5.kept hq, h6.kept hq⟩
theorem Ext.narrow {A B : Nat → Prop} {U : State} {H : Heap} (h : Ext A U H) (hAB : ∀ q, B q → A q) : Ext B U H := by
  obtain ⟨h1, h2, ⟨adK, adV, h3, h4⟩, h5, h6⟩ := h
  exact ⟨h1, h2, ⟨adK, adV, h3.narrow hAB, h4⟩, h5.narrow hAB, h6.narrow hAB⟩
end
section
def tblG : List Cond := lw_tbl.filter goodWord
theorem tblG_good {w : Cond} (h : w ∈ tblG) : (w.onTables && w.keeps) = true ∨ ∃ ty, w = .arrayClass ty := good_of_word (List.mem_filter.mp h).2
theorem tblG_in {w : Cond} (h : w ∈ tblG) : w ∈ lw_tbl := (List.mem_filter.mp h).1
/-- a method: its name, its bytes, its locals, what it answers; its level (room), the cells and slots that it may make -/
abbrev MD : Type := MethodName × ByteArray × Nat × Option FieldType × Nat × Nat × Nat
abbrev mY (D : MD) : MethodName := D.1
abbrev mB (D : MD) : ByteArray := D.2.1
abbrev mN (D : MD) : Nat := D.2.2.1
abbrev mT (D : MD) : Option FieldType := D.2.2.2.1
abbrev mV (D : MD) : Nat := D.2.2.2.2.1
abbrev mC (D : MD) : Nat := D.2.2.2.2.2.1
abbrev mS (D : MD) : Nat := D.2.2.2.2.2.2
def rmD (D : MD) : Room := { frames := mV D + 1, cells := mC D, slots := mS D, locals := 64 * mV D + 64 }
def wsD (D : MD) : List Cond := .code (mY D) (mB D) (mN D) (mT D) :: tblG
/-- what stays fixed while a method is walked -/
def Cx (D : MD) (p : Program) (s : State) (m : MethodId) (args : Array Value) (meth : Method) (c : Code) (dC : Nat → ClassId) (dI : Nat → Nat → Nat) (dA : Nat → ClassId) (A : Nat → Prop) : Prop :=
  p.tables.exec = Jvm.exec ∧ c.code = mB D ∧ meth.sig.returnType = mT D ∧ meth.locks = false ∧ c.maxLocals = mN D ∧ s.vm.findClass (mY D).cls = some m.cls ∧ (∀ w ∈ tblG, w.before args s = true) ∧ va_K (dC, dI) vwCl (tysA dA) s ∧ meth.name = (mY D).name ∧ Ext A s s.heap
/-- a memory stands in a heap -/
def Wd (dC : Nat → ClassId) (dI : Nat → Nat → Nat) (dA : Nat → ClassId) (ad : Nat → Nat) (A : Nat → Prop) (M : Mem) (H : Heap) : Prop :=
  okM M ∧ va_P (dC, dI) vwCl (wld dA ad M) H ∧ va_D A (wld dA ad M)
def okO (S : List Sh) : Option AV → Prop
  | none => True
  | some v => okV S v
def QcA (dC : Nat → ClassId) (dI : Nat → Nat → Nat) (dA : Nat → ClassId) (ad0 : Nat → Nat) (n0 : Nat) (A : Nat → Prop) (Q : Option AV → Mem → Prop) : Array Value → State → Outcome → State → Prop := fun _ st o t =>
  ∃ (r : Option AV) (M : Mem) (ad : Nat → Nat), o = .returned (r.map (aV ad)) ∧ Q r M ∧ okO M.1 r ∧ (∀ k, k < n0 → ad k = ad0 k) ∧ n0 ≤ M.1.length ∧ Wd dC dI dA ad A M t.heap ∧ va_K (dC, dI) vwCl (tysA dA) t ∧ va_F A st t
def VC (l : Launch) (D : MD) (pc : Nat) (L : List (Option AV)) (st : List AV) (M : Mem) (kc ks : Nat) (Q : Option AV → Mem → Prop) : Prop :=
  ∀ (p : Program) (e : Env) (s : State) (m : MethodId) (args : Array Value) (below : List Frame) (meth : Method) (c : Code) (dC : Nat → ClassId) (dI : Nat → Nat → Nat) (dA : Nat → ClassId) (ad0 : Nat → Nat) (n0 : Nat) (A : Nat → Prop) (ad : Nat → Nat) (H : Heap) (locs : List Loc) (ls : Array Slot),
    Cx D p s m args meth c dC dI dA A → (∀ q, s.heap.size ≤ q → A q) → (∀ k, k < n0 → ad k = ad0 k) → n0 ≤ M.1.length → okS M.1 st → okL M.1 L → Wd dC dI dA ad A M H → va_S A s.heap H locs → lv_has ls (mN D) (lvL ad L) →
    W p l e (rmD D) s m args below meth c H locs kc ks (MQ below (QcA dC dI dA ad0 n0 A Q) args s (mC D) (mS D) A) (F0 m pc ls (st.map (aV ad)))
def PcA (dC : Nat → ClassId) (dI : Nat → Nat → Nat) (dA : Nat → ClassId) (ad : Nat → Nat) (sz : Nat) (as : List AV) (M : Mem) : Array Value → State → Prop :=
  va_Pc (as.map (aV ad)) (fun U => U.heap.size = sz ∧ Wd dC dI dA ad (fun _ => True) M U.heap ∧ va_K (dC, dI) vwCl (tysA dA) U ∧ Ext (va_A (wld dA ad M) sz) U U.heap)
/-- a call of D with these answers and this memory behind it -/
def Call (l : Launch) (D : MD) (as : List AV) (M : Mem) (Q : Option AV → Mem → Prop) : Prop :=
  ∀ (dC : Nat → ClassId) (dI : Nat → Nat → Nat) (dA : Nat → ClassId) (ad : Nat → Nat) (sz : Nat), okS M.1 as →
    Met l (mY D) (wsD D) (rmD D) (PcA dC dI dA ad sz as M) (QcA dC dI dA ad M.1.length (va_A (wld dA ad M) sz) Q) (mC D) (mS D) (va_A (wld dA ad M) sz)
def slA : List AV → List (Option AV)
  | [] => []
  | v :: vs => (if catA v = 2 then [some v, none] else [some v]) ++ slA vs
def entA (as : List AV) (n : Nat) : List (Option AV) := slA as ++ List.replicate (n - (slA as).length) none
theorem slA_len (ad : Nat → Nat) (as : List AV) : (lg_sl (as.map (aV ad))).length = (slA as).length := by
  induction as with
  | nil => rfl
  | cons v vs ih =>
    simp only [lg_sl, List.map_cons, List.flatMap_cons, List.length_append, slA] at ih ⊢
    rw [ih, aV_cat]
    by_cases h : catA v = 2 <;> simp [h]
theorem slA_at (ad : Nat → Nat) : ∀ (as : List AV) (b i : Nat) (v : AV), (slA as)[i]? = some (some v) → (b + i, aV ad v) ∈ lv_args b (as.map (aV ad))
  | [], b, i, v, h => by simp [slA] at h
  | w :: vs, b, i, v, h => by
    simp only [slA] at h
    simp only [List.map_cons, lv_args, aV_cat]
    by_cases hc : catA w = 2
    · rw [if_pos hc] at h ⊢
      match i, h with
      | 0, h => cases h; exact List.mem_cons_self
      | 1, h => cases h
      | i + 2, h =>
        have := slA_at ad vs (b + 2) i v (by simpa using h)
        rw [show b + (i + 2) = b + 2 + i by omega]
        exact List.mem_cons_of_mem _ this
    · rw [if_neg hc] at h ⊢
      match i, h with
      | 0, h => cases h; exact List.mem_cons_self
      | i + 1, h =>
        have := slA_at ad vs (b + 1) i v (by simpa using h)
        rw [show b + (i + 1) = b + 1 + i by omega]
        exact List.mem_cons_of_mem _ this
theorem entA_at {as : List AV} {n i : Nat} {v : AV} (h : (entA as n)[i]? = some (some v)) : (slA as)[i]? = some (some v) := by
  unfold entA at h
  by_cases hl : i < (slA as).length
  · rwa [List.getElem?_append_left hl] at h
  · rw [List.getElem?_append_right (by omega), List.getElem?_replicate] at h
    split at h <;> cases h
theorem slA_mem : ∀ (as : List AV) (i : Nat) (v : AV), (slA as)[i]? = some (some v) → v ∈ as
  | [], i, v, h => by simp [slA] at h
  | w :: vs, i, v, h => by
    simp only [slA] at h
    by_cases hc : catA w = 2
    · rw [if_pos hc] at h
      match i, h with
      | 0, h => cases h; exact List.mem_cons_self
      | 1, h => cases h
      | i + 2, h => exact List.mem_cons_of_mem _ (slA_mem vs i v (by simpa using h))
    · rw [if_neg hc] at h
      match i, h with
      | 0, h => cases h; exact List.mem_cons_self
      | i + 1, h => exact List.mem_cons_of_mem _ (slA_mem vs i v (by simpa using h))
theorem Call.of {l : Launch} {D : MD} {as : List AV} {M : Mem} {Q : Option AV → Mem → Prop} (L : List (Option AV)) (hy : plainName (mY D).cls = true) (hn : (slA as).length ≤ mN D) (hL : entA as (mN D) = L) (h : VC l D 0 L [] M 0 0 Q) : Call l D as M Q := by
  intro dC dI dA ad sz hok
  refine Met.ofW (cc := mB D) (maxL := mN D) (ret := mT D) hy rfl ?_
  intro p e s m args below meth c s₁ B hml hv
  obtain ⟨rfl, hsz, ⟨hM, hP, hD⟩, hK, hE⟩ := hv
  have hts : ∀ w ∈ wsD D, w.before _ s = true := atoms_spec (ws := wsD D) B.pre
  subst hsz
  have hcx : Cx D p s m (as.map (aV ad)).toArray meth c dC dI dA (va_A (wld dA ad M) s.heap.size) := ⟨B.exec, B.bytes, B.returns, B.notSynchronized, hml, findClass_of_methodNamed B.named, fun w hw => hts w (List.mem_cons_of_mem _ hw), hK, (name_of_methodNamed B.named B.method).1, hE⟩
  have hlv : lv_has ((lg_sl (as.map (aV ad)) ++ List.replicate (mN D - (lg_sl (as.map (aV ad))).length) Slot.unset).toArray) (mN D) (lvL ad L) := by
    have h1 := lv_entry (as.map (aV ad)) (n := mN D) (by rw [slA_len]; exact hn)
    refine ⟨h1.1, h1.2.1, fun q hq => ?_⟩
    obtain ⟨v, h2, h3⟩ := lvL_mem.mp hq
    rw [← hL] at h2
    have h4 := slA_at ad as 0 q.1 v (entA_at h2)
    rw [h3]
    have h5 := h1.2.2 _ h4
    simpa using h5
  rw [lg_entry_eq]
  exact h p e s m _ below meth c dC dI dA ad M.1.length (va_A (wld dA ad M) s.heap.size) ad s.heap [] _ hcx (fun q hq => Or.inr hq) (fun _ _ => rfl) (Nat.le_refl _) (fun v hv => by cases hv) (fun i v hv => by rw [← hL] at hv; exact hok v (slA_mem as i v (entA_at hv))) ⟨hM, hP, hD.self⟩ va_S.rf hlv
end
section
/-! VC ROWS of instructions that touch no heap (written by wip/whole/gen_rows.py) -/
def At (cc : ByteArray) (pc : Nat) (i : Instr) (len pc' : Nat) : Prop := decode cc pc = .ok (i, len) ∧ pc + len = pc'
def AtB (cc : ByteArray) (pc : Nat) (i : Instr) (off : Int) (pc' tgt : Nat) : Prop := decode cc pc = .ok (i, 3) ∧ pc + 3 = pc' ∧ (pc : Int) + off = (tgt : Int)
def inB (n : Int) : Bool := decide (-2147483648 ≤ n) && decide (n < 2147483648)
theorem inB_ok {n : Int} (h : inB n = true) : inI n := by
  unfold inB at h
  simp only [Bool.and_eq_true, decide_eq_true_eq] at h
  exact h
theorem i8_ok {n : Int} (h : (decide (-128 ≤ n) && decide (n < 128)) = true) : (Int8.ofInt n).toInt32 = Int32.ofInt n := by
  simp only [Bool.and_eq_true, decide_eq_true_eq] at h
  apply Int32.toInt_inj.mp
  rw [Int8.toInt_toInt32, Int8.toInt_ofInt, oI_id ⟨by omega, by omega⟩]
  have e : ((Int8.size : Nat) : Int) = 256 := rfl
  exact Int.bmod_eq_of_le_mul_two (by omega) (by omega)
theorem i16_ok {n : Int} (h : (decide (-32768 ≤ n) && decide (n < 32768)) = true) : (Int16.ofInt n).toInt32 = Int32.ofInt n := by
  simp only [Bool.and_eq_true, decide_eq_true_eq] at h
  apply Int32.toInt_inj.mp
  rw [Int16.toInt_toInt32, Int16.toInt_ofInt, oI_id ⟨by omega, by omega⟩]
  have e : ((Int16.size : Nat) : Int) = 65536 := rfl
  exact Int.bmod_eq_of_le_mul_two (by omega) (by omega)
section VCR
variable {l : Launch} {D : MD} {pc pc' tgt : Nat} {L L' : List (Option AV)} {st : List AV} {M : Mem} {kc ks : Nat} {Q : Option AV → Mem → Prop}
theorem VC.mono {Q' : Option AV → Mem → Prop} (h : VC l D pc L st M kc ks Q) (hq : ∀ r M', Q r M' → Q' r M') : VC l D pc L st M kc ks Q' := by
  intro p e s m args below meth c dC dI dA ad0 n0 A ad H locs ls C hA h0 hn hst hL hW hS hl T hT X
  obtain ⟨t, h1, o, h2, h3, ⟨r, M', ad', q1, q2, q3⟩, h5⟩ := h p e s m args below meth c dC dI dA ad0 n0 A ad H locs ls C hA h0 hn hst hL hW hS hl T hT X
  exact ⟨t, h1, o, h2, h3, ⟨r, M', ad', q1, hq r M' q2, q3⟩, h5⟩
/-- what is known of the values may be used -/
theorem vc_ok (k : okM M → okS M.1 st → okL M.1 L → VC l D pc L st M kc ks Q) : VC l D pc L st M kc ks Q := by
  intro p e s m args below meth c dC dI dA ad0 n0 A ad H locs ls C hA h0 hn hst hL hW hS hl
  exact k hW.1 hst hL p e s m args below meth c dC dI dA ad0 n0 A ad H locs ls C hA h0 hn hst hL hW hS hl
/-- fewer locals known -/
theorem vc_less (L' : List (Option AV)) (h : lessL L' L) (k : VC l D pc L' st M kc ks Q) : VC l D pc L st M kc ks Q := by
  intro p e s m args below meth c dC dI dA ad0 n0 A ad H locs ls C hA h0 hn hst hL hW hS hl
  exact k p e s m args below meth c dC dI dA ad0 n0 A ad H locs ls C hA h0 hn hst (fun i v hv => hL i v (h i v hv)) hW hS (lvL_less hl h)
theorem vc_wide (kc' ks' : Nat) (h1 : kc ≤ kc') (h2 : ks ≤ ks') (k : VC l D pc L st M kc' ks' Q) : VC l D pc L st M kc ks Q := by
  intro p e s m args below meth c dC dI dA ad0 n0 A ad H locs ls C hA h0 hn hst hL hW hS hl
  exact W.widen h1 h2 (k p e s m args below meth c dC dI dA ad0 n0 A ad H locs ls C hA h0 hn hst hL hW hS hl)
/-- a value gets a name -/
theorem vc_nameI {x : Int} (k : ∀ y : Int, y = x → VC l D pc L (aI y :: st) M kc ks Q) : VC l D pc L (aI x :: st) M kc ks Q := k x rfl
theorem vc_nameL {x : Int} (k : ∀ y : Int, y = x → VC l D pc L (aL y :: st) M kc ks Q) : VC l D pc L (aL x :: st) M kc ks Q := k x rfl
theorem vc_eq {pc2 : Nat} {L2 : List (Option AV)} {st2 : List AV} {M2 : Mem} (e1 : pc = pc2) (e2 : L = L2) (e3 : st = st2) (e4 : M = M2) (k : VC l D pc2 L2 st2 M2 kc ks Q) : VC l D pc L st M kc ks Q := by
  subst e1; subst e2; subst e3; subst e4; exact k

theorem vc_iconst {n : Int} (h : inB n = true) (hd : At (mB D) pc (.iconst n) 1 pc') (k : VC l D pc' L (aI n :: st) M kc ks Q) : VC l D pc L st M kc ks Q := by
  intro p e s m args below meth c dC dI dA ad0 n0 A ad H locs ls C hA h0 hn hst hL hW hS hl
  obtain ⟨hd, rfl⟩ := hd
  refine lv_iconst C.1 C.2.1 hd rfl ?_
  exact k p e s m args below meth c dC dI dA ad0 n0 A ad H locs ls C hA h0 hn (okS_cons.mpr ⟨inB_ok h, hst⟩) hL hW hS hl

theorem vc_bipush {n : Int} (h : (decide (-128 ≤ n) && decide (n < 128)) = true) (hd : At (mB D) pc (.bipush n) 2 pc') (k : VC l D pc' L (aI n :: st) M kc ks Q) : VC l D pc L st M kc ks Q := by
  intro p e s m args below meth c dC dI dA ad0 n0 A ad H locs ls C hA h0 hn hst hL hW hS hl
  obtain ⟨hd, rfl⟩ := hd
  refine lv_bipush C.1 C.2.1 hd (i8_ok h) ?_
  exact k p e s m args below meth c dC dI dA ad0 n0 A ad H locs ls C hA h0 hn (okS_cons.mpr ⟨by simp only [Bool.and_eq_true, decide_eq_true_eq] at h; exact ⟨by omega, by omega⟩, hst⟩) hL hW hS hl

theorem vc_sipush {n : Int} (h : (decide (-32768 ≤ n) && decide (n < 32768)) = true) (hd : At (mB D) pc (.sipush n) 3 pc') (k : VC l D pc' L (aI n :: st) M kc ks Q) : VC l D pc L st M kc ks Q := by
  intro p e s m args below meth c dC dI dA ad0 n0 A ad H locs ls C hA h0 hn hst hL hW hS hl
  obtain ⟨hd, rfl⟩ := hd
  refine lv_sipush C.1 C.2.1 hd (i16_ok h) ?_
  exact k p e s m args below meth c dC dI dA ad0 n0 A ad H locs ls C hA h0 hn (okS_cons.mpr ⟨by simp only [Bool.and_eq_true, decide_eq_true_eq] at h; exact ⟨by omega, by omega⟩, hst⟩) hL hW hS hl

theorem vc_lconst {n : Fin 2} (hd : At (mB D) pc (.lconst n) 1 pc') (k : VC l D pc' L (aL (n : Nat) :: st) M kc ks Q) : VC l D pc L st M kc ks Q := by
  intro p e s m args below meth c dC dI dA ad0 n0 A ad H locs ls C hA h0 hn hst hL hW hS hl
  obtain ⟨hd, rfl⟩ := hd
  refine lv_lconst (v := Int64.ofInt ((n : Nat) : Int)) C.1 C.2.1 hd (by match n with | 0 => rfl | 1 => rfl) ?_
  exact k p e s m args below meth c dC dI dA ad0 n0 A ad H locs ls C hA h0 hn (okS_cons.mpr ⟨(by match n with | 0 => exact ⟨by decide, by decide⟩ | 1 => exact ⟨by decide, by decide⟩ : inL ((n : Nat) : Int)), hst⟩) hL hW hS hl

theorem vc_ldc {idx : Nat} {n : Int} (h : inB n = true) (hc : Cond.constant (mY D).cls idx (Int32.ofInt n) ∈ tblG) (hd : At (mB D) pc (.ldc idx) 2 pc') (k : VC l D pc' L (aI n :: st) M kc ks Q) : VC l D pc L st M kc ks Q := by
  intro p e s m args below meth c dC dI dA ad0 n0 A ad H locs ls C hA h0 hn hst hL hW hS hl
  obtain ⟨hd, rfl⟩ := hd
  refine lv_ldc C.1 C.2.1 C.2.2.2.2.2.1 (C.2.2.2.2.2.2.1 _ hc) hd ?_
  exact k p e s m args below meth c dC dI dA ad0 n0 A ad H locs ls C hA h0 hn (okS_cons.mpr ⟨inB_ok h, hst⟩) hL hW hS hl

theorem vc_ldc2 {idx : Nat} {n : Int} (h : (decide (-9223372036854775808 ≤ n) && decide (n < 9223372036854775808)) = true) (hc : Cond.constantLong (mY D).cls idx (Int64.ofInt n) ∈ tblG) (hd : At (mB D) pc (.ldc2_w idx) 3 pc') (k : VC l D pc' L (aL n :: st) M kc ks Q) : VC l D pc L st M kc ks Q := by
  intro p e s m args below meth c dC dI dA ad0 n0 A ad H locs ls C hA h0 hn hst hL hW hS hl
  obtain ⟨hd, rfl⟩ := hd
  refine lv_ldc2 C.1 C.2.1 C.2.2.2.2.2.1 (C.2.2.2.2.2.2.1 _ hc) hd ?_
  exact k p e s m args below meth c dC dI dA ad0 n0 A ad H locs ls C hA h0 hn (okS_cons.mpr ⟨by simp only [Bool.and_eq_true, decide_eq_true_eq] at h; exact h, hst⟩) hL hW hS hl

theorem vc_null  (hd : At (mB D) pc .aconst_null 1 pc') (k : VC l D pc' L (aN :: st) M kc ks Q) : VC l D pc L st M kc ks Q := by
  intro p e s m args below meth c dC dI dA ad0 n0 A ad H locs ls C hA h0 hn hst hL hW hS hl
  obtain ⟨hd, rfl⟩ := hd
  refine lv_null C.1 C.2.1 hd ?_
  exact k p e s m args below meth c dC dI dA ad0 n0 A ad H locs ls C hA h0 hn (okS_cons.mpr ⟨trivial, hst⟩) hL hW hS hl

theorem vc_iload_n {i : Fin 4} {x : Int} (hi : L[(i : Nat)]? = some (some (aI x))) (hd : At (mB D) pc (.iload_n i) 1 pc') (k : VC l D pc' L (aI x :: st) M kc ks Q) : VC l D pc L st M kc ks Q := by
  intro p e s m args below meth c dC dI dA ad0 n0 A ad H locs ls C hA h0 hn hst hL hW hS hl
  obtain ⟨hd, rfl⟩ := hd
  refine lv_iload_n C.1 C.2.1 hd rfl (lvL_at hl hi) ?_
  exact k p e s m args below meth c dC dI dA ad0 n0 A ad H locs ls C hA h0 hn (okS_cons.mpr ⟨hL _ _ hi, hst⟩) hL hW hS hl

theorem vc_iload {i : Nat} {x : Int} (hi : L[i]? = some (some (aI x))) (hd : At (mB D) pc (.iload i) 2 pc') (k : VC l D pc' L (aI x :: st) M kc ks Q) : VC l D pc L st M kc ks Q := by
  intro p e s m args below meth c dC dI dA ad0 n0 A ad H locs ls C hA h0 hn hst hL hW hS hl
  obtain ⟨hd, rfl⟩ := hd
  refine lv_iload C.1 C.2.1 hd (lvL_at hl hi) ?_
  exact k p e s m args below meth c dC dI dA ad0 n0 A ad H locs ls C hA h0 hn (okS_cons.mpr ⟨hL _ _ hi, hst⟩) hL hW hS hl

theorem vc_lload_n {i : Fin 4} {x : Int} (hi : L[(i : Nat)]? = some (some (aL x))) (hd : At (mB D) pc (.lload_n i) 1 pc') (k : VC l D pc' L (aL x :: st) M kc ks Q) : VC l D pc L st M kc ks Q := by
  intro p e s m args below meth c dC dI dA ad0 n0 A ad H locs ls C hA h0 hn hst hL hW hS hl
  obtain ⟨hd, rfl⟩ := hd
  refine lv_lload_n C.1 C.2.1 hd rfl (lvL_at hl hi) ?_
  exact k p e s m args below meth c dC dI dA ad0 n0 A ad H locs ls C hA h0 hn (okS_cons.mpr ⟨hL _ _ hi, hst⟩) hL hW hS hl

theorem vc_lload {i : Nat} {x : Int} (hi : L[i]? = some (some (aL x))) (hd : At (mB D) pc (.lload i) 2 pc') (k : VC l D pc' L (aL x :: st) M kc ks Q) : VC l D pc L st M kc ks Q := by
  intro p e s m args below meth c dC dI dA ad0 n0 A ad H locs ls C hA h0 hn hst hL hW hS hl
  obtain ⟨hd, rfl⟩ := hd
  refine lv_lload C.1 C.2.1 hd (lvL_at hl hi) ?_
  exact k p e s m args below meth c dC dI dA ad0 n0 A ad H locs ls C hA h0 hn (okS_cons.mpr ⟨hL _ _ hi, hst⟩) hL hW hS hl

theorem vc_aload_n {i : Fin 4} {r : Option Nat} (hi : L[(i : Nat)]? = some (some (.inr (.inr r)))) (hd : At (mB D) pc (.aload_n i) 1 pc') (k : VC l D pc' L (.inr (.inr r) :: st) M kc ks Q) : VC l D pc L st M kc ks Q := by
  intro p e s m args below meth c dC dI dA ad0 n0 A ad H locs ls C hA h0 hn hst hL hW hS hl
  obtain ⟨hd, rfl⟩ := hd
  have hl2 := lvL_at hl hi
  have k2 := k p e s m args below meth c dC dI dA ad0 n0 A ad H locs ls C hA h0 hn (okS_cons.mpr ⟨hL _ _ hi, hst⟩) hL hW hS hl
  cases r with
  | none => exact lv_aload_nN C.1 C.2.1 hd rfl hl2 k2
  | some x => exact lv_aload_n C.1 C.2.1 hd rfl hl2 k2
--  exact k p e s m args below meth c dC dI dA ad0 n0 A ad H locs ls C hA h0 hn (okS_cons.mpr ⟨hL _ _ hi, hst⟩) hL hW hS hl

theorem vc_aload {i : Nat} {r : Option Nat} (hi : L[i]? = some (some (.inr (.inr r)))) (hd : At (mB D) pc (.aload i) 2 pc') (k : VC l D pc' L (.inr (.inr r) :: st) M kc ks Q) : VC l D pc L st M kc ks Q := by
  intro p e s m args below meth c dC dI dA ad0 n0 A ad H locs ls C hA h0 hn hst hL hW hS hl
  obtain ⟨hd, rfl⟩ := hd
  have hl2 := lvL_at hl hi
  have k2 := k p e s m args below meth c dC dI dA ad0 n0 A ad H locs ls C hA h0 hn (okS_cons.mpr ⟨hL _ _ hi, hst⟩) hL hW hS hl
  cases r with
  | none => exact lv_aloadN C.1 C.2.1 hd hl2 k2
  | some x => exact lv_aload C.1 C.2.1 hd hl2 k2
--  exact k p e s m args below meth c dC dI dA ad0 n0 A ad H locs ls C hA h0 hn (okS_cons.mpr ⟨hL _ _ hi, hst⟩) hL hW hS hl

theorem vc_iadd {x y : Int}  (hd : At (mB D) pc .iadd 1 pc') (k : VC l D pc' L (aI (wI (x + y)) :: st) M kc ks Q) : VC l D pc L (aI y :: aI x :: st) M kc ks Q := by
  intro p e s m args below meth c dC dI dA ad0 n0 A ad H locs ls C hA h0 hn hst hL hW hS hl
  obtain ⟨hd, rfl⟩ := hd
  obtain ⟨hy, hst⟩ := okS_cons.mp hst
  obtain ⟨hx, hst⟩ := okS_cons.mp hst
  have k2 := k p e s m args below meth c dC dI dA ad0 n0 A ad H locs ls C hA h0 hn (okS_cons.mpr ⟨inI_wI _, hst⟩) hL hW hS hl
  refine lv_iadd C.1 C.2.1 hd ?_
  rw [oI_add]
  exact k2

theorem vc_isub {x y : Int}  (hd : At (mB D) pc .isub 1 pc') (k : VC l D pc' L (aI (wI (x - y)) :: st) M kc ks Q) : VC l D pc L (aI y :: aI x :: st) M kc ks Q := by
  intro p e s m args below meth c dC dI dA ad0 n0 A ad H locs ls C hA h0 hn hst hL hW hS hl
  obtain ⟨hd, rfl⟩ := hd
  obtain ⟨hy, hst⟩ := okS_cons.mp hst
  obtain ⟨hx, hst⟩ := okS_cons.mp hst
  have k2 := k p e s m args below meth c dC dI dA ad0 n0 A ad H locs ls C hA h0 hn (okS_cons.mpr ⟨inI_wI _, hst⟩) hL hW hS hl
  refine lv_isub C.1 C.2.1 hd ?_
  rw [oI_sub]
  exact k2

theorem vc_imul {x y : Int}  (hd : At (mB D) pc .imul 1 pc') (k : VC l D pc' L (aI (wI (x * y)) :: st) M kc ks Q) : VC l D pc L (aI y :: aI x :: st) M kc ks Q := by
  intro p e s m args below meth c dC dI dA ad0 n0 A ad H locs ls C hA h0 hn hst hL hW hS hl
  obtain ⟨hd, rfl⟩ := hd
  obtain ⟨hy, hst⟩ := okS_cons.mp hst
  obtain ⟨hx, hst⟩ := okS_cons.mp hst
  have k2 := k p e s m args below meth c dC dI dA ad0 n0 A ad H locs ls C hA h0 hn (okS_cons.mpr ⟨inI_wI _, hst⟩) hL hW hS hl
  refine lv_imul C.1 C.2.1 hd ?_
  rw [oI_mul]
  exact k2

theorem vc_ladd {x y : Int}  (hd : At (mB D) pc .ladd 1 pc') (k : VC l D pc' L (aL (wL (x + y)) :: st) M kc ks Q) : VC l D pc L (aL y :: aL x :: st) M kc ks Q := by
  intro p e s m args below meth c dC dI dA ad0 n0 A ad H locs ls C hA h0 hn hst hL hW hS hl
  obtain ⟨hd, rfl⟩ := hd
  obtain ⟨hy, hst⟩ := okS_cons.mp hst
  obtain ⟨hx, hst⟩ := okS_cons.mp hst
  have k2 := k p e s m args below meth c dC dI dA ad0 n0 A ad H locs ls C hA h0 hn (okS_cons.mpr ⟨inL_wL _, hst⟩) hL hW hS hl
  refine lv_ladd C.1 C.2.1 hd ?_
  rw [oL_add]
  exact k2

theorem vc_lsub {x y : Int}  (hd : At (mB D) pc .lsub 1 pc') (k : VC l D pc' L (aL (wL (x - y)) :: st) M kc ks Q) : VC l D pc L (aL y :: aL x :: st) M kc ks Q := by
  intro p e s m args below meth c dC dI dA ad0 n0 A ad H locs ls C hA h0 hn hst hL hW hS hl
  obtain ⟨hd, rfl⟩ := hd
  obtain ⟨hy, hst⟩ := okS_cons.mp hst
  obtain ⟨hx, hst⟩ := okS_cons.mp hst
  have k2 := k p e s m args below meth c dC dI dA ad0 n0 A ad H locs ls C hA h0 hn (okS_cons.mpr ⟨inL_wL _, hst⟩) hL hW hS hl
  refine lv_lsub C.1 C.2.1 hd ?_
  rw [oL_sub]
  exact k2

theorem vc_lmul {x y : Int}  (hd : At (mB D) pc .lmul 1 pc') (k : VC l D pc' L (aL (wL (x * y)) :: st) M kc ks Q) : VC l D pc L (aL y :: aL x :: st) M kc ks Q := by
  intro p e s m args below meth c dC dI dA ad0 n0 A ad H locs ls C hA h0 hn hst hL hW hS hl
  obtain ⟨hd, rfl⟩ := hd
  obtain ⟨hy, hst⟩ := okS_cons.mp hst
  obtain ⟨hx, hst⟩ := okS_cons.mp hst
  have k2 := k p e s m args below meth c dC dI dA ad0 n0 A ad H locs ls C hA h0 hn (okS_cons.mpr ⟨inL_wL _, hst⟩) hL hW hS hl
  refine lv_lmul C.1 C.2.1 hd ?_
  rw [oL_mul]
  exact k2

theorem vc_idiv {x y : Int} (hne : ¬ y = 0) (hd : At (mB D) pc .idiv 1 pc') (k : VC l D pc' L (aI (dvI x y) :: st) M kc ks Q) : VC l D pc L (aI y :: aI x :: st) M kc ks Q := by
  intro p e s m args below meth c dC dI dA ad0 n0 A ad H locs ls C hA h0 hn hst hL hW hS hl
  obtain ⟨hd, rfl⟩ := hd
  obtain ⟨hy, hst⟩ := okS_cons.mp hst
  obtain ⟨hx, hst⟩ := okS_cons.mp hst
  have k2 := k p e s m args below meth c dC dI dA ad0 n0 A ad H locs ls C hA h0 hn (okS_cons.mpr ⟨inI_wI _, hst⟩) hL hW hS hl
  refine lv_idiv C.1 C.2.1 hd (fun h => hne ((oI_eq hy inI_0).mp h)) ?_
  rw [oI_div hx hy]
  exact k2

theorem vc_irem {x y : Int} (hne : ¬ y = 0) (hd : At (mB D) pc .irem 1 pc') (k : VC l D pc' L (aI (rmI x y) :: st) M kc ks Q) : VC l D pc L (aI y :: aI x :: st) M kc ks Q := by
  intro p e s m args below meth c dC dI dA ad0 n0 A ad H locs ls C hA h0 hn hst hL hW hS hl
  obtain ⟨hd, rfl⟩ := hd
  obtain ⟨hy, hst⟩ := okS_cons.mp hst
  obtain ⟨hx, hst⟩ := okS_cons.mp hst
  have k2 := k p e s m args below meth c dC dI dA ad0 n0 A ad H locs ls C hA h0 hn (okS_cons.mpr ⟨inI_rm hx hne, hst⟩) hL hW hS hl
  refine lv_irem C.1 C.2.1 hd (fun h => hne ((oI_eq hy inI_0).mp h)) ?_
  rw [oI_rem hx hy]
  exact k2

theorem vc_ldiv {x y : Int} (hne : ¬ y = 0) (hd : At (mB D) pc .ldiv 1 pc') (k : VC l D pc' L (aL (dvL x y) :: st) M kc ks Q) : VC l D pc L (aL y :: aL x :: st) M kc ks Q := by
  intro p e s m args below meth c dC dI dA ad0 n0 A ad H locs ls C hA h0 hn hst hL hW hS hl
  obtain ⟨hd, rfl⟩ := hd
  obtain ⟨hy, hst⟩ := okS_cons.mp hst
  obtain ⟨hx, hst⟩ := okS_cons.mp hst
  have k2 := k p e s m args below meth c dC dI dA ad0 n0 A ad H locs ls C hA h0 hn (okS_cons.mpr ⟨inL_wL _, hst⟩) hL hW hS hl
  refine lv_ldiv C.1 C.2.1 hd (fun h => hne ((oL_eq hy ⟨by decide, by decide⟩).mp h)) ?_
  rw [oL_div hx hy]
  exact k2

theorem vc_lrem {x y : Int} (hne : ¬ y = 0) (hd : At (mB D) pc .lrem 1 pc') (k : VC l D pc' L (aL (rmL x y) :: st) M kc ks Q) : VC l D pc L (aL y :: aL x :: st) M kc ks Q := by
  intro p e s m args below meth c dC dI dA ad0 n0 A ad H locs ls C hA h0 hn hst hL hW hS hl
  obtain ⟨hd, rfl⟩ := hd
  obtain ⟨hy, hst⟩ := okS_cons.mp hst
  obtain ⟨hx, hst⟩ := okS_cons.mp hst
  have k2 := k p e s m args below meth c dC dI dA ad0 n0 A ad H locs ls C hA h0 hn (okS_cons.mpr ⟨inL_rm hx hne, hst⟩) hL hW hS hl
  refine lv_lrem C.1 C.2.1 hd (fun h => hne ((oL_eq hy ⟨by decide, by decide⟩).mp h)) ?_
  rw [oL_rem hx hy]
  exact k2

theorem vc_iand {x y : Int}  (hd : At (mB D) pc .iand 1 pc') (k : VC l D pc' L (aI (andI x y) :: st) M kc ks Q) : VC l D pc L (aI y :: aI x :: st) M kc ks Q := by
  intro p e s m args below meth c dC dI dA ad0 n0 A ad H locs ls C hA h0 hn hst hL hW hS hl
  obtain ⟨hd, rfl⟩ := hd
  obtain ⟨hy, hst⟩ := okS_cons.mp hst
  obtain ⟨hx, hst⟩ := okS_cons.mp hst
  have k2 := k p e s m args below meth c dC dI dA ad0 n0 A ad H locs ls C hA h0 hn (okS_cons.mpr ⟨inI_to _, hst⟩) hL hW hS hl
  refine lv_iand C.1 C.2.1 hd ?_
  simp only [List.map_cons, aV, andI, oI_to] at k2
  exact k2

theorem vc_ior {x y : Int}  (hd : At (mB D) pc .ior 1 pc') (k : VC l D pc' L (aI (orI x y) :: st) M kc ks Q) : VC l D pc L (aI y :: aI x :: st) M kc ks Q := by
  intro p e s m args below meth c dC dI dA ad0 n0 A ad H locs ls C hA h0 hn hst hL hW hS hl
  obtain ⟨hd, rfl⟩ := hd
  obtain ⟨hy, hst⟩ := okS_cons.mp hst
  obtain ⟨hx, hst⟩ := okS_cons.mp hst
  have k2 := k p e s m args below meth c dC dI dA ad0 n0 A ad H locs ls C hA h0 hn (okS_cons.mpr ⟨inI_to _, hst⟩) hL hW hS hl
  refine lv_ior C.1 C.2.1 hd ?_
  simp only [List.map_cons, aV, orI, oI_to] at k2
  exact k2

theorem vc_ixor {x y : Int}  (hd : At (mB D) pc .ixor 1 pc') (k : VC l D pc' L (aI (xorI x y) :: st) M kc ks Q) : VC l D pc L (aI y :: aI x :: st) M kc ks Q := by
  intro p e s m args below meth c dC dI dA ad0 n0 A ad H locs ls C hA h0 hn hst hL hW hS hl
  obtain ⟨hd, rfl⟩ := hd
  obtain ⟨hy, hst⟩ := okS_cons.mp hst
  obtain ⟨hx, hst⟩ := okS_cons.mp hst
  have k2 := k p e s m args below meth c dC dI dA ad0 n0 A ad H locs ls C hA h0 hn (okS_cons.mpr ⟨inI_to _, hst⟩) hL hW hS hl
  refine lv_ixor C.1 C.2.1 hd ?_
  simp only [List.map_cons, aV, xorI, oI_to] at k2
  exact k2

theorem vc_ishl {x y : Int}  (hd : At (mB D) pc .ishl 1 pc') (k : VC l D pc' L (aI (shlI x y) :: st) M kc ks Q) : VC l D pc L (aI y :: aI x :: st) M kc ks Q := by
  intro p e s m args below meth c dC dI dA ad0 n0 A ad H locs ls C hA h0 hn hst hL hW hS hl
  obtain ⟨hd, rfl⟩ := hd
  obtain ⟨hy, hst⟩ := okS_cons.mp hst
  obtain ⟨hx, hst⟩ := okS_cons.mp hst
  have k2 := k p e s m args below meth c dC dI dA ad0 n0 A ad H locs ls C hA h0 hn (okS_cons.mpr ⟨inI_to _, hst⟩) hL hW hS hl
  refine lv_ishl C.1 C.2.1 hd ?_
  simp only [List.map_cons, aV, shlI, oI_to] at k2
  exact k2

theorem vc_ishr {x y : Int}  (hd : At (mB D) pc .ishr 1 pc') (k : VC l D pc' L (aI (shrI x y) :: st) M kc ks Q) : VC l D pc L (aI y :: aI x :: st) M kc ks Q := by
  intro p e s m args below meth c dC dI dA ad0 n0 A ad H locs ls C hA h0 hn hst hL hW hS hl
  obtain ⟨hd, rfl⟩ := hd
  obtain ⟨hy, hst⟩ := okS_cons.mp hst
  obtain ⟨hx, hst⟩ := okS_cons.mp hst
  have k2 := k p e s m args below meth c dC dI dA ad0 n0 A ad H locs ls C hA h0 hn (okS_cons.mpr ⟨inI_to _, hst⟩) hL hW hS hl
  refine lv_ishr C.1 C.2.1 hd ?_
  simp only [List.map_cons, aV, shrI, oI_to] at k2
  exact k2

theorem vc_land {x y : Int}  (hd : At (mB D) pc .land 1 pc') (k : VC l D pc' L (aL (andL x y) :: st) M kc ks Q) : VC l D pc L (aL y :: aL x :: st) M kc ks Q := by
  intro p e s m args below meth c dC dI dA ad0 n0 A ad H locs ls C hA h0 hn hst hL hW hS hl
  obtain ⟨hd, rfl⟩ := hd
  obtain ⟨hy, hst⟩ := okS_cons.mp hst
  obtain ⟨hx, hst⟩ := okS_cons.mp hst
  have k2 := k p e s m args below meth c dC dI dA ad0 n0 A ad H locs ls C hA h0 hn (okS_cons.mpr ⟨inL_to _, hst⟩) hL hW hS hl
  refine lv_land C.1 C.2.1 hd ?_
  simp only [List.map_cons, aV, andL, oL_to] at k2
  exact k2

theorem vc_lor {x y : Int}  (hd : At (mB D) pc .lor 1 pc') (k : VC l D pc' L (aL (orL x y) :: st) M kc ks Q) : VC l D pc L (aL y :: aL x :: st) M kc ks Q := by
  intro p e s m args below meth c dC dI dA ad0 n0 A ad H locs ls C hA h0 hn hst hL hW hS hl
  obtain ⟨hd, rfl⟩ := hd
  obtain ⟨hy, hst⟩ := okS_cons.mp hst
  obtain ⟨hx, hst⟩ := okS_cons.mp hst
  have k2 := k p e s m args below meth c dC dI dA ad0 n0 A ad H locs ls C hA h0 hn (okS_cons.mpr ⟨inL_to _, hst⟩) hL hW hS hl
  refine lv_lor C.1 C.2.1 hd ?_
  simp only [List.map_cons, aV, orL, oL_to] at k2
  exact k2

theorem vc_iushr {x y : Int} (hd : At (mB D) pc .iushr 1 pc') (k : VC l D pc' L (aI (ushrI x y) :: st) M kc ks Q) : VC l D pc L (aI y :: aI x :: st) M kc ks Q := by
  intro p e s m args below meth c dC dI dA ad0 n0 A ad H locs ls C hA h0 hn hst hL hW hS hl
  obtain ⟨hd, rfl⟩ := hd
  obtain ⟨hy, hst⟩ := okS_cons.mp hst
  obtain ⟨hx, hst⟩ := okS_cons.mp hst
  have k2 := k p e s m args below meth c dC dI dA ad0 n0 A ad H locs ls C hA h0 hn (okS_cons.mpr ⟨inI_to _, hst⟩) hL hW hS hl
  simp only [List.map_cons, aV, ushrI, oI_to] at k2
  exact lv_iushr C.1 C.2.1 hd rfl k2

theorem vc_lshl {x y : Int} (hd : At (mB D) pc .lshl 1 pc') (k : VC l D pc' L (aL (shlL x y) :: st) M kc ks Q) : VC l D pc L (aI y :: aL x :: st) M kc ks Q := by
  intro p e s m args below meth c dC dI dA ad0 n0 A ad H locs ls C hA h0 hn hst hL hW hS hl
  obtain ⟨hd, rfl⟩ := hd
  obtain ⟨hy, hst⟩ := okS_cons.mp hst
  obtain ⟨hx, hst⟩ := okS_cons.mp hst
  have k2 := k p e s m args below meth c dC dI dA ad0 n0 A ad H locs ls C hA h0 hn (okS_cons.mpr ⟨inL_to _, hst⟩) hL hW hS hl
  simp only [List.map_cons, aV, shlL, oL_to] at k2
  exact lv_lshl C.1 C.2.1 hd rfl k2

theorem vc_lshr {x y : Int} (hd : At (mB D) pc .lshr 1 pc') (k : VC l D pc' L (aL (shrL x y) :: st) M kc ks Q) : VC l D pc L (aI y :: aL x :: st) M kc ks Q := by
  intro p e s m args below meth c dC dI dA ad0 n0 A ad H locs ls C hA h0 hn hst hL hW hS hl
  obtain ⟨hd, rfl⟩ := hd
  obtain ⟨hy, hst⟩ := okS_cons.mp hst
  obtain ⟨hx, hst⟩ := okS_cons.mp hst
  have k2 := k p e s m args below meth c dC dI dA ad0 n0 A ad H locs ls C hA h0 hn (okS_cons.mpr ⟨inL_to _, hst⟩) hL hW hS hl
  simp only [List.map_cons, aV, shrL, oL_to] at k2
  exact lv_lshr C.1 C.2.1 hd rfl k2

theorem vc_ineg {x : Int} (hd : At (mB D) pc .ineg 1 pc') (k : VC l D pc' L (aI (wI (-x)) :: st) M kc ks Q) : VC l D pc L (aI x :: st) M kc ks Q := by
  intro p e s m args below meth c dC dI dA ad0 n0 A ad H locs ls C hA h0 hn hst hL hW hS hl
  obtain ⟨hd, rfl⟩ := hd
  obtain ⟨hx, hst⟩ := okS_cons.mp hst
  have k2 := k p e s m args below meth c dC dI dA ad0 n0 A ad H locs ls C hA h0 hn (okS_cons.mpr ⟨inI_wI _, hst⟩) hL hW hS hl
  refine lv_ineg C.1 C.2.1 hd ?_
  rw [oI_neg]
  exact k2

theorem vc_lneg {x : Int} (hd : At (mB D) pc .lneg 1 pc') (k : VC l D pc' L (aL (wL (-x)) :: st) M kc ks Q) : VC l D pc L (aL x :: st) M kc ks Q := by
  intro p e s m args below meth c dC dI dA ad0 n0 A ad H locs ls C hA h0 hn hst hL hW hS hl
  obtain ⟨hd, rfl⟩ := hd
  obtain ⟨hx, hst⟩ := okS_cons.mp hst
  have k2 := k p e s m args below meth c dC dI dA ad0 n0 A ad H locs ls C hA h0 hn (okS_cons.mpr ⟨inL_wL _, hst⟩) hL hW hS hl
  refine lv_lneg C.1 C.2.1 hd ?_
  rw [oL_neg]
  exact k2

theorem vc_i2l {x : Int} (hd : At (mB D) pc .i2l 1 pc') (k : VC l D pc' L (aL x :: st) M kc ks Q) : VC l D pc L (aI x :: st) M kc ks Q := by
  intro p e s m args below meth c dC dI dA ad0 n0 A ad H locs ls C hA h0 hn hst hL hW hS hl
  obtain ⟨hd, rfl⟩ := hd
  obtain ⟨hx, hst⟩ := okS_cons.mp hst
  have k2 := k p e s m args below meth c dC dI dA ad0 n0 A ad H locs ls C hA h0 hn (okS_cons.mpr ⟨(show inL x from ⟨by have := hx.1; omega, by have := hx.2; omega⟩), hst⟩) hL hW hS hl
  exact lv_i2l C.1 C.2.1 hd (Int64.toInt_inj.mp (by rw [Int32.toInt_toInt64, oI_id hx, oL_id ⟨by have := hx.1; omega, by have := hx.2; omega⟩])) k2

theorem vc_l2i {x : Int} (hd : At (mB D) pc .l2i 1 pc') (k : VC l D pc' L (aI (wI x) :: st) M kc ks Q) : VC l D pc L (aL x :: st) M kc ks Q := by
  intro p e s m args below meth c dC dI dA ad0 n0 A ad H locs ls C hA h0 hn hst hL hW hS hl
  obtain ⟨hd, rfl⟩ := hd
  obtain ⟨hx, hst⟩ := okS_cons.mp hst
  have k2 := k p e s m args below meth c dC dI dA ad0 n0 A ad H locs ls C hA h0 hn (okS_cons.mpr ⟨inI_wI _, hst⟩) hL hW hS hl
  exact lv_l2i C.1 C.2.1 hd (Int32.toInt_inj.mp (by rw [Int64.toInt_toInt32, oL_id hx, oI_id (inI_wI x)]; rfl)) k2

theorem vc_lcmp {x y : Int} (hd : At (mB D) pc .lcmp 1 pc') (k : VC l D pc' L (aI (cmpL x y) :: st) M kc ks Q) : VC l D pc L (aL y :: aL x :: st) M kc ks Q := by
  intro p e s m args below meth c dC dI dA ad0 n0 A ad H locs ls C hA h0 hn hst hL hW hS hl
  obtain ⟨hd, rfl⟩ := hd
  obtain ⟨hy, hst⟩ := okS_cons.mp hst
  obtain ⟨hx, hst⟩ := okS_cons.mp hst
  have hr : inI (cmpL x y) := by unfold cmpL; split; exact ⟨by decide, by decide⟩; split <;> exact ⟨by decide, by decide⟩
  have k2 := k p e s m args below meth c dC dI dA ad0 n0 A ad H locs ls C hA h0 hn (okS_cons.mpr ⟨hr, hst⟩) hL hW hS hl
  have e : lg_cmp (Int64.ofInt x) (Int64.ofInt y) = Int32.ofInt (cmpL x y) := by
    unfold lg_cmp cmpL
    simp only [GT.gt, oL_lt hy hx, oL_eq hx hy]
    split
    · rfl
    · split <;> rfl
  refine W.lcmp C.1 C.2.1 hd ?_
  rw [e]
  exact k2

theorem vc_dup {v : AV} (hv : catA v = 1) (hd : At (mB D) pc .dup 1 pc') (k : VC l D pc' L (v :: v :: st) M kc ks Q) : VC l D pc L (v :: st) M kc ks Q := by
  intro p e s m args below meth c dC dI dA ad0 n0 A ad H locs ls C hA h0 hn hst hL hW hS hl
  obtain ⟨hd, rfl⟩ := hd
  obtain ⟨hv2, hst⟩ := okS_cons.mp hst
  exact lv_dup C.1 C.2.1 hd (by rw [aV_cat]; exact hv) (k p e s m args below meth c dC dI dA ad0 n0 A ad H locs ls C hA h0 hn (okS_cons.mpr ⟨hv2, okS_cons.mpr ⟨hv2, hst⟩⟩) hL hW hS hl)

theorem vc_pop {v : AV} (hv : catA v = 1) (hd : At (mB D) pc .pop 1 pc') (k : VC l D pc' L (st) M kc ks Q) : VC l D pc L (v :: st) M kc ks Q := by
  intro p e s m args below meth c dC dI dA ad0 n0 A ad H locs ls C hA h0 hn hst hL hW hS hl
  obtain ⟨hd, rfl⟩ := hd
  obtain ⟨hv2, hst⟩ := okS_cons.mp hst
  exact lv_pop C.1 C.2.1 hd (by rw [aV_cat]; exact hv) (k p e s m args below meth c dC dI dA ad0 n0 A ad H locs ls C hA h0 hn hst hL hW hS hl)

theorem vc_dup2 {v w : AV} (hv : catA v = 1) (hw : catA w = 1) (hd : At (mB D) pc .dup2 1 pc') (k : VC l D pc' L (v :: w :: v :: w :: st) M kc ks Q) : VC l D pc L (v :: w :: st) M kc ks Q := by
  intro p e s m args below meth c dC dI dA ad0 n0 A ad H locs ls C hA h0 hn hst hL hW hS hl
  obtain ⟨hd, rfl⟩ := hd
  obtain ⟨hv2, hst⟩ := okS_cons.mp hst
  obtain ⟨hw2, hst⟩ := okS_cons.mp hst
  exact lv_dup2_11 C.1 C.2.1 hd (by rw [aV_cat]; exact hv) (by rw [aV_cat]; exact hw) (k p e s m args below meth c dC dI dA ad0 n0 A ad H locs ls C hA h0 hn (okS_cons.mpr ⟨hv2, okS_cons.mpr ⟨hw2, okS_cons.mpr ⟨hv2, okS_cons.mpr ⟨hw2, hst⟩⟩⟩⟩) hL hW hS hl)

theorem vc_istore_n {i : Fin 4} {x : Int} (hn2 : (i : Nat) < mN D) (hf : freeB L (i : Nat) = true) (hL2 : L.set (i : Nat) (some (aI x)) = L') (hd : At (mB D) pc (.istore_n i) 1 pc') (k : VC l D pc' L' st M kc ks Q) : VC l D pc L (aI x :: st) M kc ks Q := by
  intro p e s m args below meth c dC dI dA ad0 n0 A ad H locs ls C hA h0 hn hst hL hW hS hl
  obtain ⟨hd, rfl⟩ := hd
  obtain ⟨hx, hst⟩ := okS_cons.mp hst
  subst hL2
  exact lv_istore_n C.1 C.2.1 hd rfl hl hn2 rfl (fun ls2 hl2 => k p e s m args below meth c dC dI dA ad0 n0 A ad H locs ls2 C hA h0 hn hst (okL_set hL hx) hW hS (lvL_set1 hf hl2))

theorem vc_istore {i : Nat} {x : Int} (hn2 : i < mN D) (hf : freeB L i = true) (hL2 : L.set i (some (aI x)) = L') (hd : At (mB D) pc (.istore i) 2 pc') (k : VC l D pc' L' st M kc ks Q) : VC l D pc L (aI x :: st) M kc ks Q := by
  intro p e s m args below meth c dC dI dA ad0 n0 A ad H locs ls C hA h0 hn hst hL hW hS hl
  obtain ⟨hd, rfl⟩ := hd
  obtain ⟨hx, hst⟩ := okS_cons.mp hst
  subst hL2
  exact lv_istore C.1 C.2.1 hd hl hn2 rfl (fun ls2 hl2 => k p e s m args below meth c dC dI dA ad0 n0 A ad H locs ls2 C hA h0 hn hst (okL_set hL hx) hW hS (lvL_set1 hf hl2))

theorem vc_lstore_n {i : Fin 4} {x : Int} (hn2 : (i : Nat) + 1 < mN D) (hf : freeB L (i : Nat) = true) (hn3 : (L.set ((i : Nat) + 1) none)[(i : Nat) + 1]? = some none) (hL2 : (L.set ((i : Nat) + 1) none).set (i : Nat) (some (aL x)) = L') (hd : At (mB D) pc (.lstore_n i) 1 pc') (k : VC l D pc' L' st M kc ks Q) : VC l D pc L (aL x :: st) M kc ks Q := by
  intro p e s m args below meth c dC dI dA ad0 n0 A ad H locs ls C hA h0 hn hst hL hW hS hl
  obtain ⟨hd, rfl⟩ := hd
  obtain ⟨hx, hst⟩ := okS_cons.mp hst
  subst hL2
  exact lv_lstore_n C.1 C.2.1 hd rfl hl hn2 rfl (fun ls2 hl2 => k p e s m args below meth c dC dI dA ad0 n0 A ad H locs ls2 C hA h0 hn hst (okL_set (okL_clr hL) hx) hW hS (lvL_set2 hf hn3 hl2))

theorem vc_lstore {i : Nat} {x : Int} (hn2 : i + 1 < mN D) (hf : freeB L i = true) (hn3 : (L.set (i + 1) none)[i + 1]? = some none) (hL2 : (L.set (i + 1) none).set i (some (aL x)) = L') (hd : At (mB D) pc (.lstore i) 2 pc') (k : VC l D pc' L' st M kc ks Q) : VC l D pc L (aL x :: st) M kc ks Q := by
  intro p e s m args below meth c dC dI dA ad0 n0 A ad H locs ls C hA h0 hn hst hL hW hS hl
  obtain ⟨hd, rfl⟩ := hd
  obtain ⟨hx, hst⟩ := okS_cons.mp hst
  subst hL2
  exact lv_lstore C.1 C.2.1 hd hl hn2 rfl (fun ls2 hl2 => k p e s m args below meth c dC dI dA ad0 n0 A ad H locs ls2 C hA h0 hn hst (okL_set (okL_clr hL) hx) hW hS (lvL_set2 hf hn3 hl2))

theorem vc_astore_n {i : Fin 4} {r : Option Nat} (hn2 : (i : Nat) < mN D) (hf : freeB L (i : Nat) = true) (hL2 : L.set (i : Nat) (some (.inr (.inr r))) = L') (hd : At (mB D) pc (.astore_n i) 1 pc') (k : VC l D pc' L' st M kc ks Q) : VC l D pc L (.inr (.inr r) :: st) M kc ks Q := by
  intro p e s m args below meth c dC dI dA ad0 n0 A ad H locs ls C hA h0 hn hst hL hW hS hl
  obtain ⟨hd, rfl⟩ := hd
  obtain ⟨hx, hst⟩ := okS_cons.mp hst
  subst hL2
  have k2 := fun ls2 hl2 => k p e s m args below meth c dC dI dA ad0 n0 A ad H locs ls2 C hA h0 hn hst (okL_set hL hx) hW hS (lvL_set1 hf hl2)
  cases r with
  | none => exact lv_astore_nN C.1 C.2.1 hd rfl hl hn2 rfl k2
  | some x => exact lv_astore_n C.1 C.2.1 hd rfl hl hn2 rfl k2

theorem vc_astore {i : Nat} {r : Option Nat} (hn2 : i < mN D) (hf : freeB L i = true) (hL2 : L.set i (some (.inr (.inr r))) = L') (hd : At (mB D) pc (.astore i) 2 pc') (k : VC l D pc' L' st M kc ks Q) : VC l D pc L (.inr (.inr r) :: st) M kc ks Q := by
  intro p e s m args below meth c dC dI dA ad0 n0 A ad H locs ls C hA h0 hn hst hL hW hS hl
  obtain ⟨hd, rfl⟩ := hd
  obtain ⟨hx, hst⟩ := okS_cons.mp hst
  subst hL2
  have k2 := fun ls2 hl2 => k p e s m args below meth c dC dI dA ad0 n0 A ad H locs ls2 C hA h0 hn hst (okL_set hL hx) hW hS (lvL_set1 hf hl2)
  cases r with
  | none => exact lv_astoreN C.1 C.2.1 hd hl hn2 rfl k2
  | some x => exact lv_astore C.1 C.2.1 hd hl hn2 rfl k2

theorem vc_iinc {i : Nat} {n x : Int} (hi : L[i]? = some (some (aI x))) (hn2 : i < mN D) (hf : freeB L i = true) (hL2 : L.set i (some (aI (wI (x + n)))) = L') (hd : At (mB D) pc (.iinc i n) 3 pc') (k : VC l D pc' L' st M kc ks Q) : VC l D pc L st M kc ks Q := by
  intro p e s m args below meth c dC dI dA ad0 n0 A ad H locs ls C hA h0 hn hst hL hW hS hl
  obtain ⟨hd, rfl⟩ := hd
  subst hL2
  have hm : (i, Value.int (Int32.ofInt x)) ∈ lvL ad L := lvL_mem.mpr ⟨aI x, hi, rfl⟩
  obtain ⟨j, hj⟩ := List.getElem?_of_mem hm
  refine lv_iinc (v := Int32.ofInt (wI (x + n))) C.1 C.2.1 hd hl hj (by rw [oI_add]) hn2 rfl (fun ls2 hl2 => ?_)
  exact k p e s m args below meth c dC dI dA ad0 n0 A ad H locs ls2 C hA h0 hn hst (okL_set hL (inI_wI _ : okV M.1 (aI (wI (x + n))))) hW hS (lvL_set1 (v := aI (wI (x + n))) hf hl2)

theorem vc_icmp_eq {x y off : Int} (hd : AtB (mB D) pc (.if_icmp .eq off) off pc' tgt) (kt : x = y → VC l D tgt L st M kc ks Q) (kf : ¬ (x = y) → VC l D pc' L st M kc ks Q) : VC l D pc L (aI y :: aI x :: st) M kc ks Q := by
  intro p e s m args below meth c dC dI dA ad0 n0 A ad H locs ls C hA h0 hn hst hL hW hS hl
  obtain ⟨hd, rfl, ht⟩ := hd
  obtain ⟨hy, hst⟩ := okS_cons.mp hst
  obtain ⟨hx, hst⟩ := okS_cons.mp hst
  have hh := oI_eq hx hy
  exact lv_icmp_eq C.1 C.2.1 hd ht (fun h => kt (hh.mp h) p e s m args below meth c dC dI dA ad0 n0 A ad H locs ls C hA h0 hn hst hL hW hS hl) (fun h => kf (fun h2 => h (hh.mpr h2)) p e s m args below meth c dC dI dA ad0 n0 A ad H locs ls C hA h0 hn hst hL hW hS hl)

theorem vc_if_eq {x off : Int} (hd : AtB (mB D) pc (.ifCond .eq off) off pc' tgt) (kt : x = 0 → VC l D tgt L st M kc ks Q) (kf : ¬ (x = 0) → VC l D pc' L st M kc ks Q) : VC l D pc L (aI x :: st) M kc ks Q := by
  intro p e s m args below meth c dC dI dA ad0 n0 A ad H locs ls C hA h0 hn hst hL hW hS hl
  obtain ⟨hd, rfl, ht⟩ := hd
  obtain ⟨hx, hst⟩ := okS_cons.mp hst
  have hh := oI_eq hx inI_0
  exact lv_if_eq C.1 C.2.1 hd ht (fun h => kt (hh.mp h) p e s m args below meth c dC dI dA ad0 n0 A ad H locs ls C hA h0 hn hst hL hW hS hl) (fun h => kf (fun h2 => h (hh.mpr h2)) p e s m args below meth c dC dI dA ad0 n0 A ad H locs ls C hA h0 hn hst hL hW hS hl)

theorem vc_icmp_ne {x y off : Int} (hd : AtB (mB D) pc (.if_icmp .ne off) off pc' tgt) (kt : ¬ x = y → VC l D tgt L st M kc ks Q) (kf : x = y → VC l D pc' L st M kc ks Q) : VC l D pc L (aI y :: aI x :: st) M kc ks Q := by
  intro p e s m args below meth c dC dI dA ad0 n0 A ad H locs ls C hA h0 hn hst hL hW hS hl
  obtain ⟨hd, rfl, ht⟩ := hd
  obtain ⟨hy, hst⟩ := okS_cons.mp hst
  obtain ⟨hx, hst⟩ := okS_cons.mp hst
  have hh := not_congr (oI_eq hx hy)
  exact lv_icmp_ne C.1 C.2.1 hd ht (fun h => kt (hh.mp h) p e s m args below meth c dC dI dA ad0 n0 A ad H locs ls C hA h0 hn hst hL hW hS hl) (fun h => kf ((oI_eq hx hy).mp h) p e s m args below meth c dC dI dA ad0 n0 A ad H locs ls C hA h0 hn hst hL hW hS hl)

theorem vc_if_ne {x off : Int} (hd : AtB (mB D) pc (.ifCond .ne off) off pc' tgt) (kt : ¬ x = 0 → VC l D tgt L st M kc ks Q) (kf : x = 0 → VC l D pc' L st M kc ks Q) : VC l D pc L (aI x :: st) M kc ks Q := by
  intro p e s m args below meth c dC dI dA ad0 n0 A ad H locs ls C hA h0 hn hst hL hW hS hl
  obtain ⟨hd, rfl, ht⟩ := hd
  obtain ⟨hx, hst⟩ := okS_cons.mp hst
  have hh := not_congr (oI_eq hx inI_0)
  exact lv_if_ne C.1 C.2.1 hd ht (fun h => kt (hh.mp h) p e s m args below meth c dC dI dA ad0 n0 A ad H locs ls C hA h0 hn hst hL hW hS hl) (fun h => kf ((oI_eq hx inI_0).mp h) p e s m args below meth c dC dI dA ad0 n0 A ad H locs ls C hA h0 hn hst hL hW hS hl)

theorem vc_icmp_lt {x y off : Int} (hd : AtB (mB D) pc (.if_icmp .lt off) off pc' tgt) (kt : x < y → VC l D tgt L st M kc ks Q) (kf : ¬ (x < y) → VC l D pc' L st M kc ks Q) : VC l D pc L (aI y :: aI x :: st) M kc ks Q := by
  intro p e s m args below meth c dC dI dA ad0 n0 A ad H locs ls C hA h0 hn hst hL hW hS hl
  obtain ⟨hd, rfl, ht⟩ := hd
  obtain ⟨hy, hst⟩ := okS_cons.mp hst
  obtain ⟨hx, hst⟩ := okS_cons.mp hst
  have hh := oI_lt hx hy
  exact lv_icmp_lt C.1 C.2.1 hd ht (fun h => kt (hh.mp h) p e s m args below meth c dC dI dA ad0 n0 A ad H locs ls C hA h0 hn hst hL hW hS hl) (fun h => kf (fun h2 => h (hh.mpr h2)) p e s m args below meth c dC dI dA ad0 n0 A ad H locs ls C hA h0 hn hst hL hW hS hl)

theorem vc_if_lt {x off : Int} (hd : AtB (mB D) pc (.ifCond .lt off) off pc' tgt) (kt : x < 0 → VC l D tgt L st M kc ks Q) (kf : ¬ (x < 0) → VC l D pc' L st M kc ks Q) : VC l D pc L (aI x :: st) M kc ks Q := by
  intro p e s m args below meth c dC dI dA ad0 n0 A ad H locs ls C hA h0 hn hst hL hW hS hl
  obtain ⟨hd, rfl, ht⟩ := hd
  obtain ⟨hx, hst⟩ := okS_cons.mp hst
  have hh := oI_lt hx inI_0
  exact lv_if_lt C.1 C.2.1 hd ht (fun h => kt (hh.mp h) p e s m args below meth c dC dI dA ad0 n0 A ad H locs ls C hA h0 hn hst hL hW hS hl) (fun h => kf (fun h2 => h (hh.mpr h2)) p e s m args below meth c dC dI dA ad0 n0 A ad H locs ls C hA h0 hn hst hL hW hS hl)

theorem vc_icmp_ge {x y off : Int} (hd : AtB (mB D) pc (.if_icmp .ge off) off pc' tgt) (kt : y ≤ x → VC l D tgt L st M kc ks Q) (kf : ¬ (y ≤ x) → VC l D pc' L st M kc ks Q) : VC l D pc L (aI y :: aI x :: st) M kc ks Q := by
  intro p e s m args below meth c dC dI dA ad0 n0 A ad H locs ls C hA h0 hn hst hL hW hS hl
  obtain ⟨hd, rfl, ht⟩ := hd
  obtain ⟨hy, hst⟩ := okS_cons.mp hst
  obtain ⟨hx, hst⟩ := okS_cons.mp hst
  have hh := oI_le hy hx
  exact lv_icmp_ge C.1 C.2.1 hd ht (fun h => kt (hh.mp h) p e s m args below meth c dC dI dA ad0 n0 A ad H locs ls C hA h0 hn hst hL hW hS hl) (fun h => kf (fun h2 => h (hh.mpr h2)) p e s m args below meth c dC dI dA ad0 n0 A ad H locs ls C hA h0 hn hst hL hW hS hl)

theorem vc_if_ge {x off : Int} (hd : AtB (mB D) pc (.ifCond .ge off) off pc' tgt) (kt : 0 ≤ x → VC l D tgt L st M kc ks Q) (kf : ¬ (0 ≤ x) → VC l D pc' L st M kc ks Q) : VC l D pc L (aI x :: st) M kc ks Q := by
  intro p e s m args below meth c dC dI dA ad0 n0 A ad H locs ls C hA h0 hn hst hL hW hS hl
  obtain ⟨hd, rfl, ht⟩ := hd
  obtain ⟨hx, hst⟩ := okS_cons.mp hst
  have hh := oI_le inI_0 hx
  exact lv_if_ge C.1 C.2.1 hd ht (fun h => kt (hh.mp h) p e s m args below meth c dC dI dA ad0 n0 A ad H locs ls C hA h0 hn hst hL hW hS hl) (fun h => kf (fun h2 => h (hh.mpr h2)) p e s m args below meth c dC dI dA ad0 n0 A ad H locs ls C hA h0 hn hst hL hW hS hl)

theorem vc_icmp_gt {x y off : Int} (hd : AtB (mB D) pc (.if_icmp .gt off) off pc' tgt) (kt : y < x → VC l D tgt L st M kc ks Q) (kf : ¬ (y < x) → VC l D pc' L st M kc ks Q) : VC l D pc L (aI y :: aI x :: st) M kc ks Q := by
  intro p e s m args below meth c dC dI dA ad0 n0 A ad H locs ls C hA h0 hn hst hL hW hS hl
  obtain ⟨hd, rfl, ht⟩ := hd
  obtain ⟨hy, hst⟩ := okS_cons.mp hst
  obtain ⟨hx, hst⟩ := okS_cons.mp hst
  have hh := oI_lt hy hx
  exact lv_icmp_gt C.1 C.2.1 hd ht (fun h => kt (hh.mp h) p e s m args below meth c dC dI dA ad0 n0 A ad H locs ls C hA h0 hn hst hL hW hS hl) (fun h => kf (fun h2 => h (hh.mpr h2)) p e s m args below meth c dC dI dA ad0 n0 A ad H locs ls C hA h0 hn hst hL hW hS hl)

theorem vc_if_gt {x off : Int} (hd : AtB (mB D) pc (.ifCond .gt off) off pc' tgt) (kt : 0 < x → VC l D tgt L st M kc ks Q) (kf : ¬ (0 < x) → VC l D pc' L st M kc ks Q) : VC l D pc L (aI x :: st) M kc ks Q := by
  intro p e s m args below meth c dC dI dA ad0 n0 A ad H locs ls C hA h0 hn hst hL hW hS hl
  obtain ⟨hd, rfl, ht⟩ := hd
  obtain ⟨hx, hst⟩ := okS_cons.mp hst
  have hh := oI_lt inI_0 hx
  exact lv_if_gt C.1 C.2.1 hd ht (fun h => kt (hh.mp h) p e s m args below meth c dC dI dA ad0 n0 A ad H locs ls C hA h0 hn hst hL hW hS hl) (fun h => kf (fun h2 => h (hh.mpr h2)) p e s m args below meth c dC dI dA ad0 n0 A ad H locs ls C hA h0 hn hst hL hW hS hl)

theorem vc_icmp_le {x y off : Int} (hd : AtB (mB D) pc (.if_icmp .le off) off pc' tgt) (kt : x ≤ y → VC l D tgt L st M kc ks Q) (kf : ¬ (x ≤ y) → VC l D pc' L st M kc ks Q) : VC l D pc L (aI y :: aI x :: st) M kc ks Q := by
  intro p e s m args below meth c dC dI dA ad0 n0 A ad H locs ls C hA h0 hn hst hL hW hS hl
  obtain ⟨hd, rfl, ht⟩ := hd
  obtain ⟨hy, hst⟩ := okS_cons.mp hst
  obtain ⟨hx, hst⟩ := okS_cons.mp hst
  have hh := oI_le hx hy
  exact lv_icmp_le C.1 C.2.1 hd ht (fun h => kt (hh.mp h) p e s m args below meth c dC dI dA ad0 n0 A ad H locs ls C hA h0 hn hst hL hW hS hl) (fun h => kf (fun h2 => h (hh.mpr h2)) p e s m args below meth c dC dI dA ad0 n0 A ad H locs ls C hA h0 hn hst hL hW hS hl)

theorem vc_if_le {x off : Int} (hd : AtB (mB D) pc (.ifCond .le off) off pc' tgt) (kt : x ≤ 0 → VC l D tgt L st M kc ks Q) (kf : ¬ (x ≤ 0) → VC l D pc' L st M kc ks Q) : VC l D pc L (aI x :: st) M kc ks Q := by
  intro p e s m args below meth c dC dI dA ad0 n0 A ad H locs ls C hA h0 hn hst hL hW hS hl
  obtain ⟨hd, rfl, ht⟩ := hd
  obtain ⟨hx, hst⟩ := okS_cons.mp hst
  have hh := oI_le hx inI_0
  exact lv_if_le C.1 C.2.1 hd ht (fun h => kt (hh.mp h) p e s m args below meth c dC dI dA ad0 n0 A ad H locs ls C hA h0 hn hst hL hW hS hl) (fun h => kf (fun h2 => h (hh.mpr h2)) p e s m args below meth c dC dI dA ad0 n0 A ad H locs ls C hA h0 hn hst hL hW hS hl)

theorem vc_goto {off : Int} (hd : AtB (mB D) pc (.goto off) off pc' tgt) (k : VC l D tgt L st M kc ks Q) : VC l D pc L st M kc ks Q := by
  intro p e s m args below meth c dC dI dA ad0 n0 A ad H locs ls C hA h0 hn hst hL hW hS hl
  obtain ⟨hd, rfl, ht⟩ := hd
  exact lv_goto C.1 C.2.1 hd ht (k p e s m args below meth c dC dI dA ad0 n0 A ad H locs ls C hA h0 hn hst hL hW hS hl)

theorem vc_ifnull {r : Option Nat} {off : Int} (hd : AtB (mB D) pc (.ifnull off) off pc' tgt) (kt : r = none → VC l D tgt L st M kc ks Q) (kf : ¬ (r = none) → VC l D pc' L st M kc ks Q) : VC l D pc L (.inr (.inr r) :: st) M kc ks Q := by
  intro p e s m args below meth c dC dI dA ad0 n0 A ad H locs ls C hA h0 hn hst hL hW hS hl
  obtain ⟨hd, rfl, ht⟩ := hd
  have hst2 := (okS_cons.mp hst).2
  cases r with
  | none => exact lv_ifnullN C.1 C.2.1 hd ht (kt rfl p e s m args below meth c dC dI dA ad0 n0 A ad H locs ls C hA h0 hn hst2 hL hW hS hl)
  | some x => exact lv_ifnull C.1 C.2.1 hd (kf (fun h => by cases h) p e s m args below meth c dC dI dA ad0 n0 A ad H locs ls C hA h0 hn hst2 hL hW hS hl)

theorem vc_ifnonnull {r : Option Nat} {off : Int} (hd : AtB (mB D) pc (.ifnonnull off) off pc' tgt) (kt : ¬ r = none → VC l D tgt L st M kc ks Q) (kf : ¬ (¬ r = none) → VC l D pc' L st M kc ks Q) : VC l D pc L (.inr (.inr r) :: st) M kc ks Q := by
  intro p e s m args below meth c dC dI dA ad0 n0 A ad H locs ls C hA h0 hn hst hL hW hS hl
  obtain ⟨hd, rfl, ht⟩ := hd
  have hst2 := (okS_cons.mp hst).2
  cases r with
  | none => exact lv_ifnonnullN C.1 C.2.1 hd (kf (fun h => h rfl) p e s m args below meth c dC dI dA ad0 n0 A ad H locs ls C hA h0 hn hst2 hL hW hS hl)
  | some x => exact lv_ifnonnull C.1 C.2.1 hd ht (kt (fun h => by cases h) p e s m args below meth c dC dI dA ad0 n0 A ad H locs ls C hA h0 hn hst2 hL hW hS hl)

theorem vc_iret {x : Int} (hr : mT D = some .int) (h1 : kc ≤ mC D) (h2 : ks ≤ mS D) (hd : At (mB D) pc .ireturn 1 pc') (hq : Q (some (aI x)) M) : VC l D pc L [aI x] M kc ks Q := by
  intro p e s m args below meth c dC dI dA ad0 n0 A ad H locs ls C hA h0 hn hst hL hW hS hl
  obtain ⟨hd, rfl⟩ := hd
  obtain ⟨hx, hst⟩ := okS_cons.mp hst
  refine W.widen h1 h2 ?_
  exact W.iret C.1 C.2.1 (C.2.2.1.trans hr) (fun t ht hw => ⟨some (aI x), M, ad, rfl, hq, hx, h0, hn, by rw [ht]; exact hW, va_K.moved hw.alike C.2.2.2.2.2.2.2.1, hS.F ht⟩) hS.2.2 hd C.2.2.2.1

theorem vc_zret {x : Int} (hr : mT D = some .boolean) (hb : x = 0 ∨ x = 1) (h1 : kc ≤ mC D) (h2 : ks ≤ mS D) (hd : At (mB D) pc .ireturn 1 pc') (hq : Q (some (aI x)) M) : VC l D pc L [aI x] M kc ks Q := by
  intro p e s m args below meth c dC dI dA ad0 n0 A ad H locs ls C hA h0 hn hst hL hW hS hl
  obtain ⟨hd, rfl⟩ := hd
  obtain ⟨hx, hst⟩ := okS_cons.mp hst
  refine W.widen h1 h2 ?_
  exact W.zret C.1 C.2.1 (C.2.2.1.trans hr) (by rcases hb with rfl | rfl <;> rfl) (fun t ht hw => ⟨some (aI x), M, ad, rfl, hq, hx, h0, hn, by rw [ht]; exact hW, va_K.moved hw.alike C.2.2.2.2.2.2.2.1, hS.F ht⟩) hS.2.2 hd C.2.2.2.1

theorem vc_lret {x : Int} (hr : mT D = some .long) (h1 : kc ≤ mC D) (h2 : ks ≤ mS D) (hd : At (mB D) pc .lreturn 1 pc') (hq : Q (some (aL x)) M) : VC l D pc L [aL x] M kc ks Q := by
  intro p e s m args below meth c dC dI dA ad0 n0 A ad H locs ls C hA h0 hn hst hL hW hS hl
  obtain ⟨hd, rfl⟩ := hd
  obtain ⟨hx, hst⟩ := okS_cons.mp hst
  refine W.widen h1 h2 ?_
  exact W.lret C.1 C.2.1 (C.2.2.1.trans hr) (fun t ht hw => ⟨some (aL x), M, ad, rfl, hq, hx, h0, hn, by rw [ht]; exact hW, va_K.moved hw.alike C.2.2.2.2.2.2.2.1, hS.F ht⟩) hS.2.2 hd C.2.2.2.1

theorem vc_vret (hr : mT D = none) (h1 : kc ≤ mC D) (h2 : ks ≤ mS D) (hd : At (mB D) pc .return_ 1 pc') (hq : Q none M) : VC l D pc L [] M kc ks Q := by
  intro p e s m args below meth c dC dI dA ad0 n0 A ad H locs ls C hA h0 hn hst hL hW hS hl
  obtain ⟨hd, rfl⟩ := hd
  refine W.widen h1 h2 ?_
  exact W.vret C.1 C.2.1 (C.2.2.1.trans hr) (fun t ht hw => ⟨none, M, ad, rfl, hq, trivial, h0, hn, by rw [ht]; exact hW, va_K.moved hw.alike C.2.2.2.2.2.2.2.1, hS.F ht⟩) hS.2.2 hd C.2.2.2.1

theorem vc_aret {r : Option Nat} {C2 : String} (hr : mT D = some (.object C2)) (h1 : kc ≤ mC D) (h2 : ks ≤ mS D) (hd : At (mB D) pc .areturn 1 pc') (hq : Q (some (.inr (.inr r))) M) : VC l D pc L [.inr (.inr r)] M kc ks Q := by
  intro p e s m args below meth c dC dI dA ad0 n0 A ad H locs ls C hA h0 hn hst hL hW hS hl
  obtain ⟨hd, rfl⟩ := hd
  obtain ⟨hx, hst⟩ := okS_cons.mp hst
  refine W.widen h1 h2 ?_
  exact W.aret (v := va_rf (r.map ad)) C.1 C.2.1 (C.2.2.1.trans hr) (Or.inl ⟨_, rfl⟩) (by cases r with | none => exact Or.inl rfl | some x => exact Or.inr ⟨_, rfl⟩) (fun t ht hw => ⟨some (.inr (.inr r)), M, ad, rfl, hq, hx, h0, hn, by rw [ht]; exact hW, va_K.moved hw.alike C.2.2.2.2.2.2.2.1, hS.F ht⟩) hS.2.2 hd C.2.2.2.1

end VCR
end
section
/-! The classes: their words are among tblG. -/
theorem inG0 : ∀ w ∈ u_ws RX0 TX0 5, w ∈ tblG := by decide +kernel
theorem inG1 : ∀ w ∈ u_ws RX1 TX1 5, w ∈ tblG := by decide +kernel
theorem inG2 : ∀ w ∈ u_ws RX2 TX2 4, w ∈ tblG := by decide +kernel
theorem inG3 : ∀ w ∈ u_ws RX3 TX3 6, w ∈ tblG := by decide +kernel
theorem inG4 : ∀ w ∈ u_ws RX4 TX4 15, w ∈ tblG := by decide +kernel
theorem inG5 : ∀ w ∈ u_ws RX5 TX5 4, w ∈ tblG := by decide +kernel
theorem inG6 : ∀ w ∈ u_ws RX6 TX6 12, w ∈ tblG := by decide +kernel
theorem inG7 : ∀ w ∈ u_ws RX7 TX7 11, w ∈ tblG := by decide +kernel
theorem inG8 : ∀ w ∈ u_ws RX8 TX8 4, w ∈ tblG := by decide +kernel
theorem inG9 : ∀ w ∈ u_ws RX9 TX9 4, w ∈ tblG := by decide +kernel
theorem inG10 : ∀ w ∈ u_ws RX10 TX10 8, w ∈ tblG := by decide +kernel
theorem inG11 : ∀ w ∈ u_ws RX11 TX11 16, w ∈ tblG := by decide +kernel
theorem inG12 : ∀ w ∈ u_ws RX12 TX12 47, w ∈ tblG := by decide +kernel
def clsP (ci : Nat) (q : vw_C) : Prop := (∀ w ∈ u_ws q.1 q.2.1 q.2.2, w ∈ tblG) ∧ (∀ k, k < q.2.2 → parseFieldDescriptor (q.2.1 k).2.2.1 = some (tyC ci k)) ∧ nFC ci = q.2.2 ∧ (∀ a, a < q.2.2 → ∀ b, b < q.2.2 → a ≠ b → (q.2.1 a).2.1 ≠ (q.2.1 b).2.1)
theorem clsOk (ci : Nat) (q : vw_C) (h : vwCl[ci]? = some q) : clsP ci q := by
  match ci, h with
  | 0, h => cases h; exact ⟨inG0, tyX0_ok, rfl, nmX0⟩
  | 1, h => cases h; exact ⟨inG1, tyX1_ok, rfl, nmX1⟩
  | 2, h => cases h; exact ⟨inG2, tyX2_ok, rfl, nmX2⟩
  | 3, h => cases h; exact ⟨inG3, tyX3_ok, rfl, nmX3⟩
  | 4, h => cases h; exact ⟨inG4, tyX4_ok, rfl, nmX4⟩
  | 5, h => cases h; exact ⟨inG5, tyX5_ok, rfl, nmX5⟩
  | 6, h => cases h; exact ⟨inG6, tyX6_ok, rfl, nmX6⟩
  | 7, h => cases h; exact ⟨inG7, tyX7_ok, rfl, nmX7⟩
  | 8, h => cases h; exact ⟨inG8, tyX8_ok, rfl, nmX8⟩
  | 9, h => cases h; exact ⟨inG9, tyX9_ok, rfl, nmX9⟩
  | 10, h => cases h; exact ⟨inG10, tyX10_ok, rfl, nmX10⟩
  | 11, h => cases h; exact ⟨inG11, tyX11_ok, rfl, nmX11⟩
  | 12, h => cases h; exact ⟨inG12, tyX12_ok, rfl, nmX12⟩
  | n + 13, h => simp at h
end
section
/-! VC ROWS that touch the heap. -/
theorem mI_sI (M : Mem) (k j : Nat) (v : Int) (a b : Nat) : mI (sI M k j v) a b = if a = k ∧ b = j then v else mI M a b := rfl
theorem mJ_sI (M : Mem) (k j : Nat) (v : Int) (a b : Nat) : mJ (sI M k j v) a b = mJ M a b := rfl
theorem mR_sI (M : Mem) (k j : Nat) (v : Int) (a b : Nat) : mR (sI M k j v) a b = mR M a b := rfl
theorem mI_sJ (M : Mem) (k j : Nat) (v : Int) (a b : Nat) : mI (sJ M k j v) a b = mI M a b := rfl
theorem mJ_sJ (M : Mem) (k j : Nat) (v : Int) (a b : Nat) : mJ (sJ M k j v) a b = if a = k ∧ b = j then v else mJ M a b := rfl
theorem mR_sJ (M : Mem) (k j : Nat) (v : Int) (a b : Nat) : mR (sJ M k j v) a b = mR M a b := rfl
theorem mI_sR (M : Mem) (k j : Nat) (v : Option Nat) (a b : Nat) : mI (sR M k j v) a b = mI M a b := rfl
theorem mJ_sR (M : Mem) (k j : Nat) (v : Option Nat) (a b : Nat) : mJ (sR M k j v) a b = mJ M a b := rfl
theorem mR_sR (M : Mem) (k j : Nat) (v : Option Nat) (a b : Nat) : mR (sR M k j v) a b = if a = k ∧ b = j then v else mR M a b := rfl
theorem okM_sI {M : Mem} {k j : Nat} {v : Int} (h : okM M) (hv : inI v) : okM (sI M k j v) := by
  intro a b
  refine ⟨?_, (h a b).2.1, (h a b).2.2⟩
  rw [mI_sI]
  split
  · exact hv
  · exact (h a b).1
theorem okM_sJ {M : Mem} {k j : Nat} {v : Int} (h : okM M) (hv : inL v) : okM (sJ M k j v) := by
  intro a b
  refine ⟨(h a b).1, ?_, (h a b).2.2⟩
  rw [mJ_sJ]
  split
  · exact hv
  · exact (h a b).2.1
theorem okM_sR {M : Mem} {k j : Nat} {v : Option Nat} (h : okM M) (hv : ∀ r, v = some r → r < M.1.length) : okM (sR M k j v) := by
  intro a b
  refine ⟨(h a b).1, (h a b).2.1, fun r hr => ?_⟩
  rw [mR_sR] at hr
  split at hr
  · exact hv r hr
  · exact (h a b).2.2 r hr
theorem fV_cong {ad : Nat → Nat} {M M' : Mem} {k j : Nat} (h1 : mI M' k j = mI M k j) (h2 : mJ M' k j = mJ M k j) (h3 : mR M' k j = mR M k j) (ty : FieldType) : fV ad M' k j ty = fV ad M k j ty := by
  unfold fV
  rw [h1, h2, h3]
theorem cellW_cong {dA : Nat → ClassId} {ad : Nat → Nat} {M M' : Mem} {k : Nat} (h1 : ∀ j, mI M' k j = mI M k j) (h2 : ∀ j, mJ M' k j = mJ M k j) (h3 : ∀ j, mR M' k j = mR M k j) (sh : Sh) : cellW dA ad M' k sh = cellW dA ad M k sh := by
  rcases sh with ci | ⟨t, n⟩
  · show Sum.inr (ci, flC ad M' k ci) = Sum.inr (ci, flC ad M k ci)
    unfold flC
    rw [List.map_congr_left (fun j _ => fV_cong (h1 j) (h2 j) (h3 j) (tyC ci j))]
  · show Sum.inl (dA t, n, arA ad M' k t) = Sum.inl (dA t, n, arA ad M k t)
    unfold arA
    simp only [h1, h2, h3]
theorem wld_upd {dA : Nat → ClassId} {ad : Nat → Nat} {M M' : Mem} {k : Nat} {sh : Sh} {e : va_E} (hS : M'.1 = M.1) (hs : M.1[k]? = some sh) (h1 : ∀ i j, i ≠ k → mI M' i j = mI M i j) (h2 : ∀ i j, i ≠ k → mJ M' i j = mJ M i j) (h3 : ∀ i j, i ≠ k → mR M' i j = mR M i j) (he : cellW dA ad M' k sh = e) : wld dA ad M' = (wld dA ad M).set k (ad k, e) := by
  apply List.ext_getElem?
  intro i
  have hlt : k < (wld dA ad M).length := by rw [wld_len]; exact (List.getElem?_eq_some_iff.mp hs).1
  by_cases hi : i = k
  · subst hi
    rw [List.getElem?_set_self hlt, wld_at (by rw [hS]; exact hs), he]
  · rw [List.getElem?_set_ne (Ne.symm hi)]
    unfold wld
    rw [List.getElem?_mapIdx, List.getElem?_mapIdx, hS]
    cases M.1[i]? with
    | none => rfl
    | some sh2 =>
      show some (ad i, cellW dA ad M' i sh2) = some (ad i, cellW dA ad M i sh2)
      rw [cellW_cong (fun j => h1 i j hi) (fun j => h2 i j hi) (fun j => h3 i j hi)]
theorem flC_at {ad : Nat → Nat} {M : Mem} {k ci j : Nat} (hj : j < nFC ci) : (flC ad M k ci)[j]? = some (fV ad M k j (tyC ci j)) := by
  unfold flC
  rw [List.getElem?_map, List.getElem?_range hj]
  rfl
theorem flC_len {ad : Nat → Nat} {M : Mem} {k ci : Nat} : (flC ad M k ci).length = nFC ci := by unfold flC; simp
theorem flC_set {ad : Nat → Nat} {M M' : Mem} {k ci j : Nat} {v : Value} (hj : j < nFC ci) (h1 : fV ad M' k j (tyC ci j) = v) (h2 : ∀ i, i ≠ j → mI M' k i = mI M k i ∧ mJ M' k i = mJ M k i ∧ mR M' k i = mR M k i) : flC ad M' k ci = (flC ad M k ci).set j v := by
  apply List.ext_getElem?
  intro i
  by_cases hi : i = j
  · subst hi
    rw [List.getElem?_set_self (by rw [flC_len]; exact hj), flC_at hj, h1]
  · rw [List.getElem?_set_ne (Ne.symm hi)]
    unfold flC
    rw [List.getElem?_map, List.getElem?_map]
    by_cases hl : i < nFC ci
    · rw [List.getElem?_range hl]
      show some (fV ad M' k i (tyC ci i)) = some (fV ad M k i (tyC ci i))
      rw [fV_cong (h2 i hi).1 (h2 i hi).2.1 (h2 i hi).2.2]
    · rw [List.getElem?_eq_none (by simpa using hl)]
      rfl
theorem ne_and {a k b j : Nat} (h : a ≠ k) : ¬ (a = k ∧ b = j) := fun q => h q.1
theorem ne_and2 {a k b j : Nat} (h : b ≠ j) : ¬ (a = k ∧ b = j) := fun q => h q.2
def kindT : FieldType → Nat
  | .long => 1
  | .object _ => 2
  | .array _ => 2
  | .int => 0
  | .boolean => 3
  | _ => 4
theorem fV_I {ad : Nat → Nat} {M : Mem} {k j : Nat} {ty : FieldType} (h : kindT ty = 0 ∨ kindT ty = 3) : fV ad M k j ty = .int (Int32.ofInt (mI M k j)) := by cases ty <;> first | rfl | (simp [kindT] at h)
theorem fV_J {ad : Nat → Nat} {M : Mem} {k j : Nat} {ty : FieldType} (h : kindT ty = 1) : fV ad M k j ty = .long (Int64.ofInt (mJ M k j)) := by cases ty <;> first | rfl | (simp [kindT] at h)
theorem fV_R {ad : Nat → Nat} {M : Mem} {k j : Nat} {ty : FieldType} (h : kindT ty = 2) : fV ad M k j ty = va_rf ((mR M k j).map ad) := by cases ty <;> first | rfl | (simp [kindT] at h)
/-- the pool's entry idx of the class own is the j-th field of the class ci -/
def FLk (own : String) (idx ci j : Nat) : Prop := ∃ (C : String) (T : u_T) (N : Nat), vwCl[ci]? = some (C, T, N) ∧ j < N ∧ (T j).1 = C ∧ Cond.fieldLink own idx C (T j).2.1 (T j).2.2.1 ∈ tblG
section VCH
variable {l : Launch} {D : MD} {pc pc' tgt : Nat} {L L' : List (Option AV)} {st : List AV} {M : Mem} {kc ks : Nat} {Q : Option AV → Mem → Prop}
theorem vc_getV {idx ci j k : Nat} {v : AV} (fl : FLk (mY D).cls idx ci j) (hs : M.1[k]? = some (.inl ci)) (hv : ∀ ad, fV ad M k j (tyC ci j) = aV ad v) (hok : okM M → okV M.1 v) (hd : At (mB D) pc (.getfield idx) 3 pc') (kk : VC l D pc' L (v :: st) M kc ks Q) : VC l D pc L (aR k :: st) M kc ks Q := by
  intro p e s m args below meth c dC dI dA ad0 n0 A ad H locs ls C hA h0 hn hst hL hW hS hl
  obtain ⟨hd, rfl⟩ := hd
  obtain ⟨hx, hst⟩ := okS_cons.mp hst
  obtain ⟨CC, T, N, q1, q2, q3, q4⟩ := fl
  obtain ⟨c1, c2, c3, c4⟩ := clsOk ci _ q1
  have hts := C.2.2.2.2.2.2.1
  refine va_get C.1 C.2.1 hts c1 C.2.2.2.2.2.1 C.2.2.2.2.2.2.2.1 hW.2.1 k (wld_at hs) q1 j q2 (hts _ q4) (fun x hx => by rw [q3] at hx; exact hx) (v := aV ad v) ?_ hd ?_
  · rw [flC_at (by rw [c3]; exact q2), hv ad]
  · exact kk p e s m args below meth c dC dI dA ad0 n0 A ad H locs ls C hA h0 hn (okS_cons.mpr ⟨hok hW.1, hst⟩) hL hW hS hl
theorem vc_getI {idx ci j k : Nat} (fl : FLk (mY D).cls idx ci j) (hs : M.1[k]? = some (.inl ci)) (ht : kindT (tyC ci j) = 0) (hd : At (mB D) pc (.getfield idx) 3 pc') (kk : VC l D pc' L (aI (mI M k j) :: st) M kc ks Q) : VC l D pc L (aR k :: st) M kc ks Q :=
  vc_getV (v := aI (mI M k j)) fl hs (fun _ => fV_I (Or.inl ht)) (fun h => (h k j).1) hd kk
theorem vc_getZ {idx ci j k : Nat} (fl : FLk (mY D).cls idx ci j) (hs : M.1[k]? = some (.inl ci)) (ht : kindT (tyC ci j) = 3) (hd : At (mB D) pc (.getfield idx) 3 pc') (kk : VC l D pc' L (aI (mI M k j) :: st) M kc ks Q) : VC l D pc L (aR k :: st) M kc ks Q :=
  vc_getV (v := aI (mI M k j)) fl hs (fun _ => fV_I (Or.inr ht)) (fun h => (h k j).1) hd kk
theorem vc_getJ {idx ci j k : Nat} (fl : FLk (mY D).cls idx ci j) (hs : M.1[k]? = some (.inl ci)) (ht : kindT (tyC ci j) = 1) (hd : At (mB D) pc (.getfield idx) 3 pc') (kk : VC l D pc' L (aL (mJ M k j) :: st) M kc ks Q) : VC l D pc L (aR k :: st) M kc ks Q :=
  vc_getV (v := aL (mJ M k j)) fl hs (fun _ => fV_J ht) (fun h => (h k j).2.1) hd kk
theorem vc_getRo {idx ci j k : Nat} (fl : FLk (mY D).cls idx ci j) (hs : M.1[k]? = some (.inl ci)) (ht : kindT (tyC ci j) = 2) (hd : At (mB D) pc (.getfield idx) 3 pc') (kk : VC l D pc' L (.inr (.inr (mR M k j)) :: st) M kc ks Q) : VC l D pc L (aR k :: st) M kc ks Q :=
  vc_getV (v := .inr (.inr (mR M k j))) fl hs (fun _ => fV_R ht) (fun h => by have h3 := (h k j).2.2; cases hr : mR M k j with | none => trivial | some r => exact h3 r hr) hd kk
theorem vc_getR {idx ci j k r : Nat} (fl : FLk (mY D).cls idx ci j) (hs : M.1[k]? = some (.inl ci)) (ht : kindT (tyC ci j) = 2) (hr : mR M k j = some r) (hd : At (mB D) pc (.getfield idx) 3 pc') (kk : VC l D pc' L (aR r :: st) M kc ks Q) : VC l D pc L (aR k :: st) M kc ks Q :=
  vc_getRo fl hs ht hd (by rw [hr]; exact kk)
/-- a write of a field, in any memory M' that differs there alone -/
theorem vc_putV {idx ci j k : Nat} {v : AV} {M' : Mem} {T : u_T} {N : Nat} {CC : String} (q1 : vwCl[ci]? = some (CC, T, N)) (q2 : j < N) (q3 : (T j).1 = CC) (q4 : Cond.fieldLink (mY D).cls idx CC (T j).2.1 (T j).2.2.1 ∈ tblG) (hfin : (T j).2.2.2 = false ∨ ((T j).2.2.2 = true ∧ (mY D).name = "<init>" ∧ CC = (mY D).cls)) (hs : M.1[k]? = some (.inl ci)) (hS1 : M'.1 = M.1)
    (hn2 : ∀ ad, narrow (tyC ci j) (aV ad v) = aV ad v) (hfit : ∀ ad, fits (tyC ci j) (aV ad v) = true) (h1 : ∀ a b, a ≠ k ∨ b ≠ j → mI M' a b = mI M a b ∧ mJ M' a b = mJ M a b ∧ mR M' a b = mR M a b) (hv : ∀ ad, fV ad M' k j (tyC ci j) = aV ad v) (hok : okM M → okV M.1 v → okM M') (hd : At (mB D) pc (.putfield idx) 3 pc') (kk : VC l D pc' L st M' kc ks Q) : VC l D pc L (v :: aR k :: st) M kc ks Q := by
  intro p e s m args below meth c dC dI dA ad0 n0 A ad H locs ls C hA h0 hn hst hL hW hS hl
  obtain ⟨hd, rfl⟩ := hd
  obtain ⟨hv2, hst⟩ := okS_cons.mp hst
  obtain ⟨hx, hst⟩ := okS_cons.mp hst
  obtain ⟨c1, c2, c3, c4⟩ := clsOk ci _ q1
  have hts := C.2.2.2.2.2.2.1
  have ew : wld dA ad M' = (wld dA ad M).set k (ad k, .inr (ci, (flC ad M k ci).set j (aV ad v))) := by
    refine wld_upd hS1 hs (fun i b h => (h1 i b (Or.inl h)).1) (fun i b h => (h1 i b (Or.inl h)).2.1) (fun i b h => (h1 i b (Or.inl h)).2.2) ?_
    show Sum.inr (ci, flC ad M' k ci) = _
    rw [flC_set (M := M) (by rw [c3]; exact q2) (hv ad) (fun i h => h1 k i (Or.inr h))]
  have k2 : ∀ (H1 : Heap) (locs1 : List Loc), va_P (dC, dI) vwCl ((wld dA ad M).set k (ad k, .inr (ci, (flC ad M k ci).set j (aV ad v)))) H1 → va_D A ((wld dA ad M).set k (ad k, .inr (ci, (flC ad M k ci).set j (aV ad v)))) → va_S A s.heap H1 locs1 → W p l e (rmD D) s m args below meth c H1 locs1 kc ks (MQ below (QcA dC dI dA ad0 n0 A Q) args s (mC D) (mS D) A) (F0 m (pc + 3) ls (st.map (aV ad))) := by
    intro H1 locs1 hP1 hD1 hS2
    rw [← ew] at hP1 hD1
    exact kk p e s m args below meth c dC dI dA ad0 n0 A ad H1 locs1 ls C hA h0 (by rw [hS1]; exact hn) (by rw [hS1]; exact hst) (by rw [hS1]; exact hL) ⟨hok hW.1 hv2, hP1, hD1⟩ hS2 hl
  rcases hfin with hf | ⟨hf, hi, ho⟩
  · exact va_put C.1 C.2.1 hts c1 (tyC ci) c2 c4 C.2.2.2.2.2.1 C.2.2.2.2.2.2.2.1 hW.2.1 hW.2.2 hS k (wld_at hs) q1 j q2 (hts _ q4) (fun x hx => by rw [q3] at hx; exact hx) hf (c2 j q2) (hn2 ad) (hfit ad) (by rw [flC_len, c3]; exact q2) hd k2
  · exact va_putF C.1 C.2.1 hts c1 (tyC ci) c2 c4 C.2.2.2.2.2.1 C.2.2.2.2.2.2.2.1 hW.2.1 hW.2.2 hS k (wld_at hs) q1 j q2 (hts _ q4) (fun x hx => by rw [q3] at hx; exact hx) hf (C.2.2.2.2.2.2.2.2.1.trans hi) (q3.trans ho) (c2 j q2) (hn2 ad) (hfit ad) (by rw [flC_len, c3]; exact q2) hd k2
/-- as FLk, for writes: not final, or written by the class's own constructor -/
def PLk (D : MD) (idx ci j : Nat) : Prop := ∃ (C : String) (T : u_T) (N : Nat), vwCl[ci]? = some (C, T, N) ∧ j < N ∧ (T j).1 = C ∧ Cond.fieldLink (mY D).cls idx C (T j).2.1 (T j).2.2.1 ∈ tblG ∧ ((T j).2.2.2 = false ∨ ((T j).2.2.2 = true ∧ (mY D).name = "<init>" ∧ C = (mY D).cls))
theorem ty0 {t : FieldType} (h : kindT t = 0) : t = .int := by cases t <;> first | rfl | (simp [kindT] at h)
theorem ty1 {t : FieldType} (h : kindT t = 1) : t = .long := by cases t <;> first | rfl | (simp [kindT] at h)
theorem ty3 {t : FieldType} (h : kindT t = 3) : t = .boolean := by cases t <;> first | rfl | (simp [kindT] at h)
theorem vc_putI {idx ci j k : Nat} {x : Int} (fl : PLk D idx ci j) (hs : M.1[k]? = some (.inl ci)) (ht : kindT (tyC ci j) = 0) (hd : At (mB D) pc (.putfield idx) 3 pc') (kk : VC l D pc' L st (sI M k j x) kc ks Q) : VC l D pc L (aI x :: aR k :: st) M kc ks Q := by
  obtain ⟨C, T, N, q1, q2, q3, q4, q5⟩ := fl
  refine vc_putV (M' := (sI M k j x)) q1 q2 q3 q4 q5 hs rfl (fun ad => by rw [ty0 ht]; rfl) (fun ad => by rw [ty0 ht]; rfl) (fun a b h => ⟨?_, rfl, rfl⟩) (fun ad => ?_) (fun h1 h2 => okM_sI h1 h2) hd kk
  · rw [mI_sI, if_neg]
    rcases h with h | h
    · exact ne_and h
    · exact ne_and2 h
  · rw [fV_I (Or.inl ht), mI_sI, if_pos ⟨rfl, rfl⟩]; rfl
theorem vc_putZ {idx ci j k : Nat} {x : Int} (fl : PLk D idx ci j) (hs : M.1[k]? = some (.inl ci)) (ht : kindT (tyC ci j) = 3) (hb : x = 0 ∨ x = 1) (hd : At (mB D) pc (.putfield idx) 3 pc') (kk : VC l D pc' L st (sI M k j x) kc ks Q) : VC l D pc L (aI x :: aR k :: st) M kc ks Q := by
  obtain ⟨C, T, N, q1, q2, q3, q4, q5⟩ := fl
  refine vc_putV (M' := (sI M k j x)) q1 q2 q3 q4 q5 hs rfl (fun ad => by rw [ty3 ht]; rcases hb with rfl | rfl <;> rfl) (fun ad => by rw [ty3 ht]; rcases hb with rfl | rfl <;> rfl) (fun a b h => ⟨?_, rfl, rfl⟩) (fun ad => ?_) (fun h1 h2 => okM_sI h1 h2) hd kk
  · rw [mI_sI, if_neg]
    rcases h with h | h
    · exact ne_and h
    · exact ne_and2 h
  · rw [fV_I (Or.inr ht), mI_sI, if_pos ⟨rfl, rfl⟩]; rfl
theorem vc_putJ {idx ci j k : Nat} {x : Int} (fl : PLk D idx ci j) (hs : M.1[k]? = some (.inl ci)) (ht : kindT (tyC ci j) = 1) (hd : At (mB D) pc (.putfield idx) 3 pc') (kk : VC l D pc' L st (sJ M k j x) kc ks Q) : VC l D pc L (aL x :: aR k :: st) M kc ks Q := by
  obtain ⟨C, T, N, q1, q2, q3, q4, q5⟩ := fl
  refine vc_putV (M' := (sJ M k j x)) q1 q2 q3 q4 q5 hs rfl (fun ad => by rw [ty1 ht]; rfl) (fun ad => by rw [ty1 ht]; rfl) (fun a b h => ⟨rfl, ?_, rfl⟩) (fun ad => ?_) (fun h1 h2 => okM_sJ h1 h2) hd kk
  · rw [mJ_sJ, if_neg]
    rcases h with h | h
    · exact ne_and h
    · exact ne_and2 h
  · rw [fV_J ht, mJ_sJ, if_pos ⟨rfl, rfl⟩]; rfl
theorem vc_putR {idx ci j k r : Nat} (fl : PLk D idx ci j) (hs : M.1[k]? = some (.inl ci)) (ht : kindT (tyC ci j) = 2) (hd : At (mB D) pc (.putfield idx) 3 pc') (kk : VC l D pc' L st (sR M k j (some r)) kc ks Q) : VC l D pc L (aR r :: aR k :: st) M kc ks Q := by
  obtain ⟨C, T, N, q1, q2, q3, q4, q5⟩ := fl
  refine vc_putV (M' := (sR M k j (some r))) q1 q2 q3 q4 q5 hs rfl (fun ad => ?_) (fun ad => ?_) (fun a b h => ⟨rfl, rfl, ?_⟩) (fun ad => ?_) (fun h1 h2 => okM_sR h1 (fun r2 e => by cases e; exact h2)) hd kk
  · cases hh : tyC ci j <;> first | rfl | (rw [hh] at ht; simp [kindT] at ht)
  · cases hh : tyC ci j <;> first | rfl | (rw [hh] at ht; simp [kindT] at ht)
  · rw [mR_sR, if_neg]
    rcases h with h | h
    · exact ne_and h
    · exact ne_and2 h
  · rw [fV_R ht, mR_sR, if_pos ⟨rfl, rfl⟩]; rfl
theorem oI_nat {x : Int} (h : inI x) (h0 : 0 ≤ x) : (Int32.ofInt x).toNatClampNeg = x.toNat := by
  show (Int32.ofInt x).toInt.toNat = x.toNat
  rw [oI_id h]
theorem oI_in {x : Int} {n : Nat} (h : inI x) (h0 : 0 ≤ x) (h1 : x < n) : vp_in (Int32.ofInt x) n := by
  rw [vp_in_iff, oI_id h]
  exact ⟨h0, h1⟩
theorem vc_iaload {k n : Nat} {i : Int} (hs : M.1[k]? = some (.inr (0, n))) (h0 : 0 ≤ i) (h1 : i < n) (hd : At (mB D) pc .iaload 1 pc') (kk : VC l D pc' L (aI (mI M k i.toNat) :: st) M kc ks Q) : VC l D pc L (aI i :: aR k :: st) M kc ks Q := by
  intro p e s m args below meth c dC dI dA ad0 n0 A ad H locs ls C hA h0' hn hst hL hW hS hl
  obtain ⟨hd, rfl⟩ := hd
  obtain ⟨hi, hst⟩ := okS_cons.mp hst
  obtain ⟨hx, hst⟩ := okS_cons.mp hst
  refine va_iald C.1 C.2.1 C.2.2.2.2.2.2.2.1 hW.2.1 k 0 (wld_at hs) rfl (oI_in hi h0 h1) hd ?_
  rw [oI_nat hi h0]
  exact kk p e s m args below meth c dC dI dA ad0 n0 A ad H locs ls C hA h0' hn (okS_cons.mpr ⟨(hW.1 k i.toNat).1, hst⟩) hL hW hS hl
theorem vc_laload {k n : Nat} {i : Int} (hs : M.1[k]? = some (.inr (1, n))) (h0 : 0 ≤ i) (h1 : i < n) (hd : At (mB D) pc .laload 1 pc') (kk : VC l D pc' L (aL (mJ M k i.toNat) :: st) M kc ks Q) : VC l D pc L (aI i :: aR k :: st) M kc ks Q := by
  intro p e s m args below meth c dC dI dA ad0 n0 A ad H locs ls C hA h0' hn hst hL hW hS hl
  obtain ⟨hd, rfl⟩ := hd
  obtain ⟨hi, hst⟩ := okS_cons.mp hst
  obtain ⟨hx, hst⟩ := okS_cons.mp hst
  refine va_lald C.1 C.2.1 C.2.2.2.2.2.2.2.1 hW.2.1 k 1 (wld_at hs) rfl (oI_in hi h0 h1) hd ?_
  rw [oI_nat hi h0]
  exact kk p e s m args below meth c dC dI dA ad0 n0 A ad H locs ls C hA h0' hn (okS_cons.mpr ⟨(hW.1 k i.toNat).2.1, hst⟩) hL hW hS hl
theorem vc_baload {k n : Nat} {i : Int} (hs : M.1[k]? = some (.inr (2, n))) (h0 : 0 ≤ i) (h1 : i < n) (hd : At (mB D) pc .baload 1 pc') (kk : VC l D pc' L (aI (mI M k i.toNat) :: st) M kc ks Q) : VC l D pc L (aI i :: aR k :: st) M kc ks Q := by
  intro p e s m args below meth c dC dI dA ad0 n0 A ad H locs ls C hA h0' hn hst hL hW hS hl
  obtain ⟨hd, rfl⟩ := hd
  obtain ⟨hi, hst⟩ := okS_cons.mp hst
  obtain ⟨hx, hst⟩ := okS_cons.mp hst
  refine va_zald C.1 C.2.1 C.2.2.2.2.2.2.2.1 hW.2.1 k 2 (wld_at hs) rfl (oI_in hi h0 h1) hd ?_
  rw [oI_nat hi h0]
  exact kk p e s m args below meth c dC dI dA ad0 n0 A ad H locs ls C hA h0' hn (okS_cons.mpr ⟨(hW.1 k i.toNat).1, hst⟩) hL hW hS hl
theorem vc_aaload {k n : Nat} {i : Int} (hs : M.1[k]? = some (.inr (3, n))) (h0 : 0 ≤ i) (h1 : i < n) (hd : At (mB D) pc .aaload 1 pc') (kk : VC l D pc' L (.inr (.inr (mR M k i.toNat)) :: st) M kc ks Q) : VC l D pc L (aI i :: aR k :: st) M kc ks Q := by
  intro p e s m args below meth c dC dI dA ad0 n0 A ad H locs ls C hA h0' hn hst hL hW hS hl
  obtain ⟨hd, rfl⟩ := hd
  obtain ⟨hi, hst⟩ := okS_cons.mp hst
  obtain ⟨hx, hst⟩ := okS_cons.mp hst
  refine va_aldq C.1 C.2.1 C.2.2.2.2.2.2.2.1 hW.2.1 k 3 (wld_at hs) rfl (oI_in hi h0 h1) hd ?_
  rw [oI_nat hi h0]
  refine kk p e s m args below meth c dC dI dA ad0 n0 A ad H locs ls C hA h0' hn (okS_cons.mpr ⟨?_, hst⟩) hL hW hS hl
  have h3 := (hW.1 k i.toNat).2.2
  cases hr : mR M k i.toNat with
  | none => trivial
  | some r => exact h3 r hr
theorem upd_oI (M : Mem) (k : Nat) (i : Nat) (x : Int) : (fun j => Int32.ofInt (mI (sI M k i x) k j)) = upd (fun j => Int32.ofInt (mI M k j)) i (Int32.ofInt x) := by
  funext j
  unfold upd
  rw [mI_sI]
  by_cases h : j = i
  · rw [if_pos ⟨rfl, h⟩, if_pos h]
  · rw [if_neg (ne_and2 h), if_neg h]
theorem upd_oJ (M : Mem) (k : Nat) (i : Nat) (x : Int) : (fun j => Int64.ofInt (mJ (sJ M k i x) k j)) = vp_updL (fun j => Int64.ofInt (mJ M k j)) i (Int64.ofInt x) := by
  funext j
  unfold vp_updL
  rw [mJ_sJ]
  by_cases h : j = i
  · rw [if_pos ⟨rfl, h⟩, if_pos h]
  · rw [if_neg (ne_and2 h), if_neg h]
theorem upd_oR (ad : Nat → Nat) (M : Mem) (k : Nat) (i : Nat) (x : Option Nat) : (fun j => (mR (sR M k i x) k j).map ad) = va_up (fun j => (mR M k j).map ad) i (x.map ad) := by
  funext j
  unfold va_up
  rw [mR_sR]
  by_cases h : j = i
  · rw [if_pos ⟨rfl, h⟩, if_pos h]
  · rw [if_neg (ne_and2 h), if_neg h]
theorem vc_iastore {k n : Nat} {i x : Int} (hs : M.1[k]? = some (.inr (0, n))) (h0 : 0 ≤ i) (h1 : i < n) (hd : At (mB D) pc .iastore 1 pc') (kk : VC l D pc' L st (sI M k i.toNat x) kc ks Q) : VC l D pc L (aI x :: aI i :: aR k :: st) M kc ks Q := by
  intro p e s m args below meth c dC dI dA ad0 n0 A ad H locs ls C hA h0' hn hst hL hW hS hl
  obtain ⟨hd, rfl⟩ := hd
  obtain ⟨hx, hst⟩ := okS_cons.mp hst
  obtain ⟨hi, hst⟩ := okS_cons.mp hst
  obtain ⟨_, hst⟩ := okS_cons.mp hst
  refine va_iast C.1 C.2.1 C.2.2.2.2.2.2.2.1 hW.2.1 hW.2.2 hS k 0 (wld_at hs) rfl (oI_in hi h0 h1) hd ?_
  rw [oI_nat hi h0, ← upd_oI]
  intro H1 locs1 hP1 hD1 hS1
  have ew : wld dA ad (sI M k i.toNat x) = (wld dA ad M).set k (ad k, .inl (dA 0, n, .inl (fun j => Int32.ofInt (mI (sI M k i.toNat x) k j)))) := wld_upd rfl hs (fun a b h => by rw [mI_sI, if_neg (ne_and h)]) (fun _ _ _ => rfl) (fun _ _ _ => rfl) rfl
  rw [← ew] at hP1 hD1
  exact kk p e s m args below meth c dC dI dA ad0 n0 A ad H1 locs1 ls C hA h0' hn hst hL ⟨okM_sI hW.1 hx, hP1, hD1⟩ hS1 hl
theorem vc_bastore {k n : Nat} {i x : Int} (hs : M.1[k]? = some (.inr (2, n))) (h0 : 0 ≤ i) (h1 : i < n) (hb : x = 0 ∨ x = 1) (hd : At (mB D) pc .bastore 1 pc') (kk : VC l D pc' L st (sI M k i.toNat x) kc ks Q) : VC l D pc L (aI x :: aI i :: aR k :: st) M kc ks Q := by
  intro p e s m args below meth c dC dI dA ad0 n0 A ad H locs ls C hA h0' hn hst hL hW hS hl
  obtain ⟨hd, rfl⟩ := hd
  obtain ⟨hx, hst⟩ := okS_cons.mp hst
  obtain ⟨hi, hst⟩ := okS_cons.mp hst
  obtain ⟨_, hst⟩ := okS_cons.mp hst
  refine va_zast C.1 C.2.1 C.2.2.2.2.2.2.2.1 hW.2.1 hW.2.2 hS k 2 (wld_at hs) rfl (oI_in hi h0 h1) hd ?_
  have en : vp_nar .boolean (Int32.ofInt x) = Int32.ofInt x := by rcases hb with rfl | rfl <;> rfl
  rw [en, oI_nat hi h0, ← upd_oI]
  intro H1 locs1 hP1 hD1 hS1
  have ew : wld dA ad (sI M k i.toNat x) = (wld dA ad M).set k (ad k, .inl (dA 2, n, .inl (fun j => Int32.ofInt (mI (sI M k i.toNat x) k j)))) := wld_upd rfl hs (fun a b h => by rw [mI_sI, if_neg (ne_and h)]) (fun _ _ _ => rfl) (fun _ _ _ => rfl) rfl
  rw [← ew] at hP1 hD1
  exact kk p e s m args below meth c dC dI dA ad0 n0 A ad H1 locs1 ls C hA h0' hn hst hL ⟨okM_sI hW.1 hx, hP1, hD1⟩ hS1 hl
theorem vc_lastore {k n : Nat} {i x : Int} (hs : M.1[k]? = some (.inr (1, n))) (h0 : 0 ≤ i) (h1 : i < n) (hd : At (mB D) pc .lastore 1 pc') (kk : VC l D pc' L st (sJ M k i.toNat x) kc ks Q) : VC l D pc L (aL x :: aI i :: aR k :: st) M kc ks Q := by
  intro p e s m args below meth c dC dI dA ad0 n0 A ad H locs ls C hA h0' hn hst hL hW hS hl
  obtain ⟨hd, rfl⟩ := hd
  obtain ⟨hx, hst⟩ := okS_cons.mp hst
  obtain ⟨hi, hst⟩ := okS_cons.mp hst
  obtain ⟨_, hst⟩ := okS_cons.mp hst
  refine va_last C.1 C.2.1 C.2.2.2.2.2.2.2.1 hW.2.1 hW.2.2 hS k 1 (wld_at hs) rfl (oI_in hi h0 h1) hd ?_
  rw [oI_nat hi h0, ← upd_oJ]
  intro H1 locs1 hP1 hD1 hS1
  have ew : wld dA ad (sJ M k i.toNat x) = (wld dA ad M).set k (ad k, .inl (dA 1, n, .inr (.inl (fun j => Int64.ofInt (mJ (sJ M k i.toNat x) k j))))) := wld_upd rfl hs (fun _ _ _ => rfl) (fun a b h => by rw [mJ_sJ, if_neg (ne_and h)]) (fun _ _ _ => rfl) rfl
  rw [← ew] at hP1 hD1
  exact kk p e s m args below meth c dC dI dA ad0 n0 A ad H1 locs1 ls C hA h0' hn hst hL ⟨okM_sJ hW.1 hx, hP1, hD1⟩ hS1 hl
theorem vc_alen {k t n : Nat} (hs : M.1[k]? = some (.inr (t, n))) (ht : (decide (t < 4) && decide (n < 2147483648)) = true) (hd : At (mB D) pc .arraylength 1 pc') (kk : VC l D pc' L (aI (n : Int) :: st) M kc ks Q) : VC l D pc L (aR k :: st) M kc ks Q := by
  intro p e s m args below meth c dC dI dA ad0 n0 A ad H locs ls C hA h0' hn hst hL hW hS hl
  obtain ⟨hd, rfl⟩ := hd
  obtain ⟨_, hst⟩ := okS_cons.mp hst
  simp only [Bool.and_eq_true, decide_eq_true_eq] at ht
  refine va_alen C.1 C.2.1 C.2.2.2.2.2.2.2.1 hW.2.1 k t (wld_at hs) (ty := tyA t) ?_ rfl hd ?_
  · match t, ht.1 with
    | 0, _ => rfl
    | 1, _ => rfl
    | 2, _ => rfl
    | 3, _ => rfl
    | t + 4, h => exact absurd h (by omega)
  · exact kk p e s m args below meth c dC dI dA ad0 n0 A ad H locs ls C hA h0' hn (okS_cons.mpr ⟨(⟨by omega, by omega⟩ : inI (n : Int)), hst⟩) hL hW hS hl
end VCH
end
section
/-! CALLS: by the callee's Call. -/
/-- what every call of D needs of the tables -/
def MOk (D : MD) (n : Nat) : Prop := Cond.code (mY D) (mB D) (mN D) (mT D) ∈ tblG ∧ Cond.initialized (mY D).cls ∈ tblG ∧ ((mY D).cls ≠ "java/lang/invoke/MethodHandle" ∧ (mY D).cls ≠ "java/lang/invoke/VarHandle" ∧ (parseMethodDescriptor (mY D).desc).map (fun d => d.parameters.length) = some n) ∧ mN D ≤ 45
def MVi (D : MD) : Prop := Cond.instanceMethod (mY D) ∈ tblG ∧ Cond.selects (mY D).cls (mY D) (mY D) ∈ tblG
def MSt (D : MD) : Prop := Cond.static (mY D) ∈ tblG
def LkM (own : String) (idx : Nat) (D : MD) : Prop := Cond.methodLink own idx (mY D) ∈ tblG
theorem wsD_good {D : MD} {n : Nat} (h : MOk D n) : GoodIn tblG (wsD D) := by
  intro w hw
  rcases List.mem_cons.mp hw with rfl | hw
  · exact ⟨h.1, tblG_good h.1⟩
  · exact ⟨hw, tblG_good hw⟩
theorem PcA_blind {dC : Nat → ClassId} {dI : Nat → Nat → Nat} {dA : Nat → ClassId} {ad : Nat → Nat} {sz : Nat} {as : List AV} {M : Mem} : FrameBlind (PcA dC dI dA ad sz as M) := by
  intro a U g mk q
  obtain ⟨q0, q1, q2, qK, qE⟩ := q
  exact ⟨q0, q1, q2, va_K.moved (u := U) (U := U.calling g mk a) (Vm.Alike.refl U.vm) qK, Ext.same (u := U) (U := U.calling g mk a) rfl qE⟩
theorem rmD_room {D D' : MD} (h : mV D' < mV D) (h2 : mN D' ≤ 45) : (rmD D').frames + 1 ≤ (rmD D).frames ∧ 8 + (mN D' + 11) + (rmD D').locals ≤ (rmD D).locals := by
  unfold rmD
  constructor
  · show mV D' + 1 + 1 ≤ mV D + 1
    omega
  · show 8 + (mN D' + 11) + (64 * mV D' + 64) ≤ 64 * mV D + 64
    omega
section VCC
variable {l : Launch} {D : MD} {pc pc' tgt : Nat} {L L' : List (Option AV)} {st : List AV} {M : Mem} {kc ks : Nat} {Q : Option AV → Mem → Prop}
variable {D' : MD} {as : List AV} {Q' : Option AV → Mem → Prop}
theorem vc_after {st0 : List Value} {arr : Array Value} {p : Program} {e : Env} {s : State} {m : MethodId} {args : Array Value} {below : List Frame} {meth : Method} {c : Code} {dC : Nat → ClassId} {dI : Nat → Nat → Nat} {dA : Nat → ClassId} {ad0 : Nat → Nat} {n0 : Nat} {A : Nat → Prop} {ad : Nat → Nat} {H : Heap} {locs : List Loc} {ls : Array Slot}
    (C : Cx D p s m args meth c dC dI dA A) (hA : ∀ q, s.heap.size ≤ q → A q) (h0 : ∀ k, k < n0 → ad k = ad0 k) (hn : n0 ≤ M.1.length) (hst : okS M.1 st) (hL : okL M.1 L) (hW : Wd dC dI dA ad A M H) (hS : va_S A s.heap H locs) (hl : lv_has ls (mN D) (lvL ad L))
    (hrun : va_Run p l e (rmD D) s m args below meth c H locs kc ks (mC D') (mS D') (F0 m pc ls st0) (st.map (aV ad)) (QcA dC dI dA ad M.1.length (va_A (wld dA ad M) H.size) Q' arr) (va_A (wld dA ad M) H.size))
    (kk : ∀ r M', Q' r M' → M.1.length ≤ M'.1.length → VC l D (pc + 3) L (r.toList ++ st) M' (kc + mC D') (ks + mS D') Q) :
    W p l e (rmD D) s m args below meth c H locs kc ks (MQ below (QcA dC dI dA ad0 n0 A Q) args s (mC D) (mS D) A) (F0 m pc ls st0) := by
  intro T hT X
  obtain ⟨v, st₀, t, T', L2, e0, X', hLf, e1, e2, ⟨r, M', ad', ho, hq, hok, had, hlen, hWd, hK, hF⟩, go⟩ := hrun T hT X
  have hA1 : ∀ q, va_A (wld dA ad M) H.size q → A q := by
    intro q hq
    rcases hq with ⟨k, e, hk⟩ | hk
    · exact hW.2.2.2 k _ hk
    · exact hA q (Nat.le_trans hS.1 hk)
  obtain ⟨hz, hkp⟩ := hF
  rw [e0] at hz hkp
  have hS' : va_S A s.heap T'.heap (locs ++ L2) := by
    refine ⟨Nat.le_trans hS.1 (by rw [e1]; exact hz), fun q a1 a2 => ?_, fun q hq2 => ?_⟩
    · rw [e1, hkp q (Nat.lt_of_lt_of_le a1 hS.1) (fun z => a2 (hA1 q z))]
      exact hS.2.1 q a1 a2
    · rcases List.mem_append.mp hq2 with h | h
      · exact hS.2.2 q h
      · exact hA1 _ (hLf q h)
  cases ho
  have k2 := kk r M' hq hlen p e s m args below meth c dC dI dA ad0 n0 A ad' T'.heap (locs ++ L2) ls C hA (fun k hk => (had k (Nat.lt_of_lt_of_le hk hn)).trans (h0 k hk)) (Nat.le_trans hn hlen) ?_ ?_ ⟨hWd.1, by rw [e1]; exact hWd.2.1, hWd.2.2.weaken (fun _ q _ h => hA1 q.1 h)⟩ hS' (lvL_ext hL had hl)
  · obtain ⟨t2, a1, b1⟩ := k2 T' rfl X'
    refine ⟨t2, go t2 ?_, b1⟩
    have es : (r.toList ++ st).map (aV ad') = (r.map (aV ad')).toList ++ st.map (aV ad) := by
      rw [List.map_append, stk_ext hst had]
      cases r <;> rfl
    rw [es] at a1
    exact a1
  · intro v hv
    rcases List.mem_append.mp hv with h | h
    · cases r with
      | none => cases h
      | some w => rcases List.mem_cons.mp h with rfl | h; exact hok; cases h
    · have := hst v h
      rcases v with x | x | q
      · exact this
      · exact this
      · cases q with
        | none => trivial
        | some k => exact Nat.lt_of_lt_of_le this hlen
  · intro i v hv
    have := hL i v hv
    rcases v with x | x | q
    · exact this
    · exact this
    · cases q with
      | none => trivial
      | some k => exact Nat.lt_of_lt_of_le this hlen
theorem ext_call {p : Program} {s : State} {m : MethodId} {args : Array Value} {meth : Method} {c : Code} {dC : Nat → ClassId} {dI : Nat → Nat → Nat} {dA : Nat → ClassId} {A : Nat → Prop} {ad : Nat → Nat} {H : Heap} {locs : List Loc} {U : State}
    (C : Cx D p s m args meth c dC dI dA A) (hA : ∀ q, s.heap.size ≤ q → A q) (hW : Wd dC dI dA ad A M H) (hS : va_S A s.heap H locs) (hU : U.heap = H) (hWm : s.WarmedH U.vm) : Ext (va_A (wld dA ad M) H.size) U U.heap := by
  have hA1 : ∀ q, va_A (wld dA ad M) H.size q → A q := by
    intro q hq
    rcases hq with ⟨k, e, hk⟩ | hk
    · exact hW.2.2.2 k _ hk
    · exact hA q (Nat.le_trans hS.1 hk)
  rw [hU]
  exact ((C.2.2.2.2.2.2.2.2.2.kept hS.2.1).narrow hA1).warm hWm
theorem cat_sum (ad : Nat → Nat) (st : List AV) : ((st.map (aV ad)).map fun v => v.category).sum = (st.map catA).sum := by
  rw [List.map_map]
  exact congrArg List.sum (List.map_congr_left fun v _ => aV_cat ad v)
theorem okS_rev {S : List Sh} {as st : List AV} (h : okS S (as.reverse ++ st)) : okS S as ∧ okS S st := ⟨fun v hv => h v (List.mem_append_left _ (List.mem_reverse.mpr hv)), fun v hv => h v (List.mem_append_right _ hv)⟩
theorem vc_callV {idx k ci n : Nat} {T : u_T} {N : Nat} (hm : MOk D' n) (hv : MVi D') (hlk : LkM (mY D).cls idx D') (hs : M.1[k]? = some (.inl ci)) (hci : vwCl[ci]? = some ((mY D').cls, T, N)) (hlen : as.length = n) (hlev : mV D' < mV D) (hc1 : kc + mC D' ≤ mC D) (hc2 : ks + mS D' ≤ mS D) (hsum : (st.map catA).sum ≤ 8) (stk : List AV) (hstk : as.reverse ++ aR k :: st = stk) (hd : At (mB D) pc (.invokevirtual idx) 3 pc') (hcall : Call l D' (aR k :: as) M Q')
    (kk : ∀ r M', Q' r M' → M.1.length ≤ M'.1.length → VC l D pc' L (r.toList ++ st) M' (kc + mC D') (ks + mS D') Q) : VC l D pc L stk M kc ks Q := by
  subst hstk
  intro p e s m args below meth c dC dI dA ad0 n0 A ad H locs ls C hA h0 hn hst hL hW hS hl
  obtain ⟨hd, rfl⟩ := hd
  obtain ⟨hst1, hst2⟩ := okS_rev hst
  obtain ⟨hr, hst⟩ := okS_cons.mp hst2
  have hts := C.2.2.2.2.2.2.1
  have hM := hcall dC dI dA ad H.size (okS_cons.mpr ⟨hr, hst1⟩)
  have hcb : CallB (rmD D) s args (mY D).cls idx (mY D') (mB D') (mN D') (mT D') (wsD D') (rmD D') (mC D') (mS D') n := callB_of n hts (wsD_good hm) rfl rfl rfl (hts _ hm.2.1) (hts _ hlk) hm.2.2.1 (rmD_room hlev hm.2.2.2)
  refine vc_after (D' := D') (st0 := (as.reverse ++ aR k :: st).map (aV ad)) (arr := ((aR k :: as).map (aV ad)).toArray) C hA h0 hn hst hL hW hS hl (va_runV (C := (mY D').cls) (b := ad k) (As := as.map (aV ad)) (rest := st.map (aV ad)) ⟨C.1, C.2.1, C.2.2.2.2.1, C.2.2.2.2.2.1, hts⟩ hM ⟨hcb, hts _ hv.1, hts _ hv.2⟩ ⟨PcA_blind, va_recv C.2.2.2.2.2.2.2.1 hW.2.1 hci (wld_at hs), fun U hU hWm => ⟨rfl, by rw [hU], ⟨hW.1, by rw [hU]; exact hW.2.1, hW.2.2.weaken (fun _ _ _ _ => trivial)⟩, va_K.moved hWm.alike C.2.2.2.2.2.2.2.1, ext_call C hA hW hS hU hWm⟩⟩ rfl (by simpa using hlen) hl.1 (by simp [aV, va_rf]) (lv_room (by rw [cat_sum]; exact hsum)) hd ⟨hc1, hc2⟩) kk
theorem vc_callS {idx n : Nat} (hm : MOk D' n) (hv : MSt D') (hlk : LkM (mY D).cls idx D') (hlen : as.length = n) (hlev : mV D' < mV D) (hc1 : kc + mC D' ≤ mC D) (hc2 : ks + mS D' ≤ mS D) (hsum : (st.map catA).sum ≤ 8) (stk : List AV) (hstk : as.reverse ++ st = stk) (hd : At (mB D) pc (.invokestatic idx) 3 pc') (hcall : Call l D' as M Q')
    (kk : ∀ r M', Q' r M' → M.1.length ≤ M'.1.length → VC l D pc' L (r.toList ++ st) M' (kc + mC D') (ks + mS D') Q) : VC l D pc L stk M kc ks Q := by
  subst hstk
  intro p e s m args below meth c dC dI dA ad0 n0 A ad H locs ls C hA h0 hn hst hL hW hS hl
  obtain ⟨hd, rfl⟩ := hd
  obtain ⟨hst1, hst⟩ := okS_rev hst
  have hts := C.2.2.2.2.2.2.1
  have hM := hcall dC dI dA ad H.size hst1
  have hcb : CallB (rmD D) s args (mY D).cls idx (mY D') (mB D') (mN D') (mT D') (wsD D') (rmD D') (mC D') (mS D') n := callB_of n hts (wsD_good hm) rfl rfl rfl (hts _ hm.2.1) (hts _ hlk) hm.2.2.1 (rmD_room hlev hm.2.2.2)
  refine vc_after (D' := D') (st0 := (as.reverse ++ st).map (aV ad)) (arr := (as.map (aV ad)).toArray) C hA h0 hn hst hL hW hS hl (va_runS (As := as.map (aV ad)) (rest := st.map (aV ad)) ⟨C.1, C.2.1, C.2.2.2.2.1, C.2.2.2.2.2.1, hts⟩ hM ⟨hcb, hts _ hv⟩ ⟨PcA_blind, fun U hU hWm => ⟨rfl, by rw [hU], ⟨hW.1, by rw [hU]; exact hW.2.1, hW.2.2.weaken (fun _ _ _ _ => trivial)⟩, va_K.moved hWm.alike C.2.2.2.2.2.2.2.1, ext_call C hA hW hS hU hWm⟩⟩ rfl (by simpa using hlen) hl.1 (by simp) (lv_room (by rw [cat_sum]; exact hsum)) hd ⟨hc1, hc2⟩) kk
/-- a private static method of a nest mate -/
theorem vc_callSN {idx n : Nat} {host : String} (hm : MOk D' n) (hv : MSt D') (hlk : ∀ (A : Nat → Prop) (U : State) (H : Heap), Ext A U H → va_Nw (.methodLinkNest (mY D).cls idx (mY D') host) U) (hlen : as.length = n) (hlev : mV D' < mV D) (hc1 : kc + mC D' ≤ mC D) (hc2 : ks + mS D' ≤ mS D) (hsum : (st.map catA).sum ≤ 8) (stk : List AV) (hstk : as.reverse ++ st = stk) (hd : At (mB D) pc (.invokestatic idx) 3 pc') (hcall : Call l D' as M Q')
    (kk : ∀ r M', Q' r M' → M.1.length ≤ M'.1.length → VC l D pc' L (r.toList ++ st) M' (kc + mC D') (ks + mS D') Q) : VC l D pc L stk M kc ks Q := by
  subst hstk
  intro p e s m args below meth c dC dI dA ad0 n0 A ad H locs ls C hA h0 hn hst hL hW hS hl
  obtain ⟨hd, rfl⟩ := hd
  obtain ⟨hst1, hst⟩ := okS_rev hst
  have hts := C.2.2.2.2.2.2.1
  have hM := hcall dC dI dA ad H.size hst1
  have hr := rmD_room hlev hm.2.2.2
  have hcn : va_CN (rmD D) s args (mY D).cls idx (mY D') host (mB D') (mN D') (mT D') (wsD D') (rmD D') (mC D') (mS D') n := by
    refine ⟨⟨rfl, rfl, hr.1, hr.2, pay_in hts (wsD_good hm), List.mem_cons_self⟩, hts _ hm.1, hts _ hm.2.1, ⟨hm.2.2.1.1, hm.2.2.1.2.1⟩, fun sig h => ?_, va_Nw.use rfl (hlk _ _ _ C.2.2.2.2.2.2.2.2.2)⟩
    have h2 := hm.2.2.1.2.2
    rw [h] at h2
    exact (Option.some.inj h2).symm
  refine vc_after (D' := D') (st0 := (as.reverse ++ st).map (aV ad)) (arr := (as.map (aV ad)).toArray) C hA h0 hn hst hL hW hS hl (va_runSN (As := as.map (aV ad)) (rest := st.map (aV ad)) ⟨C.1, C.2.1, C.2.2.2.2.1, C.2.2.2.2.2.1, hts⟩ hM ⟨hcn, hts _ hv, trivial⟩ ⟨PcA_blind, fun U hU hWm => ⟨rfl, by rw [hU], ⟨hW.1, by rw [hU]; exact hW.2.1, hW.2.2.weaken (fun _ _ _ _ => trivial)⟩, va_K.moved hWm.alike C.2.2.2.2.2.2.2.1, ext_call C hA hW hS hU hWm⟩⟩ rfl (by simpa using hlen) hl.1 (by simp) (lv_room (by rw [cat_sum]; exact hsum)) hd ⟨hc1, hc2⟩) kk
/-- a constructor -/
theorem vc_callI {idx k n : Nat} (hm : MOk D' n) (hv : Cond.instanceMethod (mY D') ∈ tblG) (hnm : (mY D').name = "<init>") (hret : mT D' = none) (hlk : LkM (mY D).cls idx D') (hlen : as.length = n) (hlev : mV D' < mV D) (hc1 : kc + mC D' ≤ mC D) (hc2 : ks + mS D' ≤ mS D) (hsum : (st.map catA).sum ≤ 8) (stk : List AV) (hstk : as.reverse ++ aR k :: st = stk) (hd : At (mB D) pc (.invokespecial idx) 3 pc') (hcall : Call l D' (aR k :: as) M Q')
    (kk : ∀ r M', Q' r M' → M.1.length ≤ M'.1.length → VC l D pc' L (r.toList ++ st) M' (kc + mC D') (ks + mS D') Q) : VC l D pc L stk M kc ks Q := by
  subst hstk
  intro p e s m args below meth c dC dI dA ad0 n0 A ad H locs ls C hA h0 hn hst hL hW hS hl
  obtain ⟨hd, rfl⟩ := hd
  obtain ⟨hst1, hst2⟩ := okS_rev hst
  obtain ⟨hr, hst⟩ := okS_cons.mp hst2
  have hts := C.2.2.2.2.2.2.1
  have hM := hcall dC dI dA ad H.size (okS_cons.mpr ⟨hr, hst1⟩)
  have hcb : CallB (rmD D) s args (mY D).cls idx (mY D') (mB D') (mN D') none (wsD D') (rmD D') (mC D') (mS D') n := callB_of n hts (wsD_good hm) (by rw [← hret]; rfl) rfl rfl (hts _ hm.2.1) (hts _ hlk) hm.2.2.1 (rmD_room hlev hm.2.2.2)
  refine vc_after (D' := D') (st0 := (as.reverse ++ aR k :: st).map (aV ad)) (arr := ((aR k :: as).map (aV ad)).toArray) C hA h0 hn hst hL hW hS hl (va_runI (b := ad k) (As := as.map (aV ad)) (rest := st.map (aV ad)) ⟨C.1, C.2.1, C.2.2.2.2.1, C.2.2.2.2.2.1, hts⟩ hM ⟨hcb, hnm, hts _ hv⟩ ⟨PcA_blind, fun U hU hWm => ⟨rfl, by rw [hU], ⟨hW.1, by rw [hU]; exact hW.2.1, hW.2.2.weaken (fun _ _ _ _ => trivial)⟩, va_K.moved hWm.alike C.2.2.2.2.2.2.2.1, ext_call C hA hW hS hU hWm⟩⟩ rfl (by simpa using hlen) hl.1 (by simp [aV, va_rf]) (lv_room (by rw [cat_sum]; exact hsum)) hd ⟨hc1, hc2⟩) kk
theorem Call.mono {Q2 : Option AV → Mem → Prop} (h : Call l D as M Q) (hq : ∀ r M', Q r M' → Q2 r M') : Call l D as M Q2 := by
  intro dC dI dA ad sz hok
  have h1 := h dC dI dA ad sz hok
  intro p e ha hc hk s m args below hf happ hP hT
  obtain ⟨k, o, a1, a2, a3, ⟨⟨r, M', ad', q1, q2, q3⟩, a5⟩⟩ := h1 p e ha hc hk s m args below hf happ hP hT
  exact ⟨k, o, a1, a2, a3, ⟨⟨r, M', ad', q1, hq r M' q2, q3⟩, a5⟩⟩
end VCC
end
