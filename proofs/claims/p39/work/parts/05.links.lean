/-! METHODS, LINKS (written by wip/whole/gen_links.py) -/
theorem t1_in {w : Cond} (h : w ∈ tables_1_1) : w ∈ tables_1 := List.mem_append_left _ h
theorem t2_in {w : Cond} (h : w ∈ tables_1_2) : w ∈ tables_1 := List.mem_append_right _ (List.mem_append_left _ h)
theorem t3_in {w : Cond} (h : w ∈ tables_1_3) : w ∈ tables_1 := List.mem_append_right _ (List.mem_append_right _ (List.mem_append_left _ h))
theorem t4_in {w : Cond} (h : w ∈ tables_1_4) : w ∈ tables_1 := List.mem_append_right _ (List.mem_append_right _ (List.mem_append_right _ (List.mem_append_left _ h)))
theorem t5_in {w : Cond} (h : w ∈ tables_1_5) : w ∈ tables_1 := List.mem_append_right _ (List.mem_append_right _ (List.mem_append_right _ (List.mem_append_right _ (List.mem_append_left _ h))))
theorem t6_in {w : Cond} (h : w ∈ tables_1_6) : w ∈ tables_1 := List.mem_append_right _ (List.mem_append_right _ (List.mem_append_right _ (List.mem_append_right _ (List.mem_append_right _ (List.mem_append_left _ h)))))
theorem t7_in {w : Cond} (h : w ∈ tables_1_7) : w ∈ tables_1 := List.mem_append_right _ (List.mem_append_right _ (List.mem_append_right _ (List.mem_append_right _ (List.mem_append_right _ (List.mem_append_right _ (List.mem_append_left _ h))))))
theorem t8_in {w : Cond} (h : w ∈ tables_1_8) : w ∈ tables_1 := List.mem_append_right _ (List.mem_append_right _ (List.mem_append_right _ (List.mem_append_right _ (List.mem_append_right _ (List.mem_append_right _ (List.mem_append_right _ (List.mem_append_left _ h)))))))
theorem t9_in {w : Cond} (h : w ∈ tables_1_9) : w ∈ tables_1 := List.mem_append_right _ (List.mem_append_right _ (List.mem_append_right _ (List.mem_append_right _ (List.mem_append_right _ (List.mem_append_right _ (List.mem_append_right _ (List.mem_append_right _ (h))))))))
theorem tb_in {w : Cond} (h : w ∈ tables_1) (hg : goodWord w = true) : w ∈ tblG := List.mem_filter.mpr ⟨List.mem_append_right _ h, hg⟩
theorem tp_in {w : Cond} (h : w ∈ k2_sels lw_privs) (hg : goodWord w = true) : w ∈ tblG := List.mem_filter.mpr ⟨List.mem_append_left _ h, hg⟩
def mdX0_init : MD := (yX0_init, cX0_init, 3, none, 0, 3, 3491)
set_option maxRecDepth 20000 in
theorem okX0_init : MOk (mdX0_init) 2 := ⟨tb_in (t2_in (List.mem_of_getElem? (i := 88) rfl)) rfl, tb_in (t1_in (List.mem_of_getElem? (i := 11) rfl)) rfl, ⟨by decide, by decide, by decide +kernel⟩, by decide⟩
set_option maxRecDepth 20000 in
theorem inX0_init : Cond.instanceMethod (mY (mdX0_init)) ∈ tblG := tb_in (t2_in (List.mem_of_getElem? (i := 87) rfl)) rfl
def mdX0_find : MD := (yX0_find, cX0_find, 5, some .int, 21, 0, 0)
set_option maxRecDepth 20000 in
theorem okX0_find : MOk (mdX0_find) 3 := ⟨tb_in (t5_in (List.mem_of_getElem? (i := 200) rfl)) rfl, tb_in (t1_in (List.mem_of_getElem? (i := 11) rfl)) rfl, ⟨by decide, by decide, by decide +kernel⟩, by decide⟩
set_option maxRecDepth 20000 in
theorem inX0_find : Cond.instanceMethod (mY (mdX0_find)) ∈ tblG := tb_in (t5_in (List.mem_of_getElem? (i := 198) rfl)) rfl
set_option maxRecDepth 20000 in
theorem viX0_find : MVi (mdX0_find) := ⟨inX0_find, tb_in (t5_in (List.mem_of_getElem? (i := 199) rfl)) rfl⟩
def mdX0_tries (v : Nat) : MD := (yX0_tries, cX0_tries, 7, some .boolean, v, 0, 0)
set_option maxRecDepth 20000 in
theorem okX0_tries (v : Nat) : MOk (mdX0_tries v) 3 := ⟨tb_in (t5_in (List.mem_of_getElem? (i := 205) rfl)) rfl, tb_in (t1_in (List.mem_of_getElem? (i := 11) rfl)) rfl, ⟨by show yX0_tries.cls ≠ "java/lang/invoke/MethodHandle"; decide, by show yX0_tries.cls ≠ "java/lang/invoke/VarHandle"; decide, by show (parseMethodDescriptor yX0_tries.desc).map (fun d => d.parameters.length) = some 3; decide +kernel⟩, by show 7 ≤ 45; decide⟩
set_option maxRecDepth 20000 in
theorem inX0_tries (v : Nat) : Cond.instanceMethod (mY (mdX0_tries v)) ∈ tblG := tb_in (t5_in (List.mem_of_getElem? (i := 204) rfl)) rfl
set_option maxRecDepth 20000 in
theorem viX0_tries (v : Nat) : MVi (mdX0_tries v) := ⟨inX0_tries v, tp_in (List.mem_of_getElem? (i := 42) rfl) rfl⟩
def mdX0_turnOfKind : MD := (yX0_turnOfKind, cX0_turnOfKind, 2, some .int, 0, 0, 0)
set_option maxRecDepth 20000 in
theorem okX0_turnOfKind : MOk (mdX0_turnOfKind) 1 := ⟨tb_in (t5_in (List.mem_of_getElem? (i := 208) rfl)) rfl, tb_in (t1_in (List.mem_of_getElem? (i := 11) rfl)) rfl, ⟨by decide, by decide, by decide +kernel⟩, by decide⟩
set_option maxRecDepth 20000 in
theorem stX0_turnOfKind : MSt (mdX0_turnOfKind) := tb_in (t5_in (List.mem_of_getElem? (i := 207) rfl)) rfl
def mdX0_kindOfTurn : MD := (yX0_kindOfTurn, cX0_kindOfTurn, 2, some .int, 0, 0, 0)
set_option maxRecDepth 20000 in
theorem okX0_kindOfTurn : MOk (mdX0_kindOfTurn) 1 := ⟨tb_in (t5_in (List.mem_of_getElem? (i := 220) rfl)) rfl, tb_in (t1_in (List.mem_of_getElem? (i := 11) rfl)) rfl, ⟨by decide, by decide, by decide +kernel⟩, by decide⟩
set_option maxRecDepth 20000 in
theorem stX0_kindOfTurn : MSt (mdX0_kindOfTurn) := tb_in (t5_in (List.mem_of_getElem? (i := 219) rfl)) rfl
def mdX0_allGo : MD := (yX0_allGo, cX0_allGo, 7, some .boolean, 4, 0, 0)
set_option maxRecDepth 20000 in
theorem okX0_allGo : MOk (mdX0_allGo) 4 := ⟨tb_in (t5_in (List.mem_of_getElem? (i := 212) rfl)) rfl, tb_in (t1_in (List.mem_of_getElem? (i := 11) rfl)) rfl, ⟨by decide, by decide, by decide +kernel⟩, by decide⟩
set_option maxRecDepth 20000 in
theorem inX0_allGo : Cond.instanceMethod (mY (mdX0_allGo)) ∈ tblG := tb_in (t5_in (List.mem_of_getElem? (i := 211) rfl)) rfl
set_option maxRecDepth 20000 in
theorem viX0_allGo : MVi (mdX0_allGo) := ⟨inX0_allGo, tp_in (List.mem_of_getElem? (i := 43) rfl) rfl⟩
def mdX0_after : MD := (yX0_after, cX0_after, 7, some .int, 3, 0, 0)
set_option maxRecDepth 20000 in
theorem okX0_after : MOk (mdX0_after) 3 := ⟨tb_in (t5_in (List.mem_of_getElem? (i := 217) rfl)) rfl, tb_in (t1_in (List.mem_of_getElem? (i := 11) rfl)) rfl, ⟨by decide, by decide, by decide +kernel⟩, by decide⟩
set_option maxRecDepth 20000 in
theorem inX0_after : Cond.instanceMethod (mY (mdX0_after)) ∈ tblG := tb_in (t5_in (List.mem_of_getElem? (i := 216) rfl)) rfl
set_option maxRecDepth 20000 in
theorem viX0_after : MVi (mdX0_after) := ⟨inX0_after, tp_in (List.mem_of_getElem? (i := 44) rfl) rfl⟩
def mdX0_endsAtGoal : MD := (yX0_endsAtGoal, cX0_endsAtGoal, 4, some .boolean, 1, 0, 0)
set_option maxRecDepth 20000 in
theorem okX0_endsAtGoal : MOk (mdX0_endsAtGoal) 2 := ⟨tb_in (t5_in (List.mem_of_getElem? (i := 226) rfl)) rfl, tb_in (t1_in (List.mem_of_getElem? (i := 11) rfl)) rfl, ⟨by decide, by decide, by decide +kernel⟩, by decide⟩
set_option maxRecDepth 20000 in
theorem inX0_endsAtGoal : Cond.instanceMethod (mY (mdX0_endsAtGoal)) ∈ tblG := tb_in (t5_in (List.mem_of_getElem? (i := 225) rfl)) rfl
set_option maxRecDepth 20000 in
theorem viX0_endsAtGoal : MVi (mdX0_endsAtGoal) := ⟨inX0_endsAtGoal, tp_in (List.mem_of_getElem? (i := 45) rfl) rfl⟩
def mdX1_init : MD := (yX1_init, cX1_init, 2, none, 0, 1, 40)
set_option maxRecDepth 20000 in
theorem okX1_init : MOk (mdX1_init) 1 := ⟨tb_in (t1_in (List.mem_of_getElem? (i := 196) rfl)) rfl, tb_in (t1_in (List.mem_of_getElem? (i := 7) rfl)) rfl, ⟨by decide, by decide, by decide +kernel⟩, by decide⟩
set_option maxRecDepth 20000 in
theorem inX1_init : Cond.instanceMethod (mY (mdX1_init)) ∈ tblG := tb_in (t1_in (List.mem_of_getElem? (i := 195) rfl)) rfl
def mdX1_setOut : MD := (yX1_setOut, cX1_setOut, 3, none, 0, 0, 0)
set_option maxRecDepth 20000 in
theorem okX1_setOut : MOk (mdX1_setOut) 2 := ⟨tb_in (t4_in (List.mem_of_getElem? (i := 145) rfl)) rfl, tb_in (t1_in (List.mem_of_getElem? (i := 7) rfl)) rfl, ⟨by decide, by decide, by decide +kernel⟩, by decide⟩
set_option maxRecDepth 20000 in
theorem inX1_setOut : Cond.instanceMethod (mY (mdX1_setOut)) ∈ tblG := tb_in (t4_in (List.mem_of_getElem? (i := 143) rfl)) rfl
set_option maxRecDepth 20000 in
theorem viX1_setOut : MVi (mdX1_setOut) := ⟨inX1_setOut, tb_in (t4_in (List.mem_of_getElem? (i := 144) rfl)) rfl⟩
def mdX1_setOutAsTold : MD := (yX1_setOutAsTold, cX1_setOutAsTold, 2, none, 1, 0, 0)
set_option maxRecDepth 20000 in
theorem okX1_setOutAsTold : MOk (mdX1_setOutAsTold) 1 := ⟨tb_in (t5_in (List.mem_of_getElem? (i := 28) rfl)) rfl, tb_in (t1_in (List.mem_of_getElem? (i := 7) rfl)) rfl, ⟨by decide, by decide, by decide +kernel⟩, by decide⟩
set_option maxRecDepth 20000 in
theorem inX1_setOutAsTold : Cond.instanceMethod (mY (mdX1_setOutAsTold)) ∈ tblG := tb_in (t5_in (List.mem_of_getElem? (i := 26) rfl)) rfl
set_option maxRecDepth 20000 in
theorem viX1_setOutAsTold : MVi (mdX1_setOutAsTold) := ⟨inX1_setOutAsTold, tb_in (t5_in (List.mem_of_getElem? (i := 27) rfl)) rfl⟩
def mdX1_comesTo : MD := (yX1_comesTo, cX1_comesTo, 4, some .int, 4, 0, 0)
set_option maxRecDepth 20000 in
theorem okX1_comesTo : MOk (mdX1_comesTo) 3 := ⟨tb_in (t5_in (List.mem_of_getElem? (i := 24) rfl)) rfl, tb_in (t1_in (List.mem_of_getElem? (i := 7) rfl)) rfl, ⟨by decide, by decide, by decide +kernel⟩, by decide⟩
set_option maxRecDepth 20000 in
theorem inX1_comesTo : Cond.instanceMethod (mY (mdX1_comesTo)) ∈ tblG := tb_in (t5_in (List.mem_of_getElem? (i := 22) rfl)) rfl
set_option maxRecDepth 20000 in
theorem viX1_comesTo : MVi (mdX1_comesTo) := ⟨inX1_comesTo, tb_in (t5_in (List.mem_of_getElem? (i := 23) rfl)) rfl⟩
def mdX1_goesAll : MD := (yX1_goesAll, cX1_goesAll, 8, some .boolean, 3, 0, 0)
set_option maxRecDepth 20000 in
theorem okX1_goesAll : MOk (mdX1_goesAll) 3 := ⟨tb_in (t4_in (List.mem_of_getElem? (i := 149) rfl)) rfl, tb_in (t1_in (List.mem_of_getElem? (i := 7) rfl)) rfl, ⟨by decide, by decide, by decide +kernel⟩, by decide⟩
set_option maxRecDepth 20000 in
theorem inX1_goesAll : Cond.instanceMethod (mY (mdX1_goesAll)) ∈ tblG := tb_in (t4_in (List.mem_of_getElem? (i := 147) rfl)) rfl
set_option maxRecDepth 20000 in
theorem viX1_goesAll : MVi (mdX1_goesAll) := ⟨inX1_goesAll, tb_in (t4_in (List.mem_of_getElem? (i := 148) rfl)) rfl⟩
def mdX1_goesFirst : MD := (yX1_goesFirst, cX1_goesFirst, 5, some .boolean, 3, 0, 0)
set_option maxRecDepth 20000 in
theorem okX1_goesFirst : MOk (mdX1_goesFirst) 3 := ⟨tb_in (t5_in (List.mem_of_getElem? (i := 172) rfl)) rfl, tb_in (t1_in (List.mem_of_getElem? (i := 7) rfl)) rfl, ⟨by decide, by decide, by decide +kernel⟩, by decide⟩
set_option maxRecDepth 20000 in
theorem inX1_goesFirst : Cond.instanceMethod (mY (mdX1_goesFirst)) ∈ tblG := tb_in (t5_in (List.mem_of_getElem? (i := 170) rfl)) rfl
set_option maxRecDepth 20000 in
theorem viX1_goesFirst : MVi (mdX1_goesFirst) := ⟨inX1_goesFirst, tb_in (t5_in (List.mem_of_getElem? (i := 171) rfl)) rfl⟩
def mdX1_meant : MD := (yX1_meant, cX1_meant, 5, some .int, 0, 0, 0)
set_option maxRecDepth 20000 in
theorem okX1_meant : MOk (mdX1_meant) 2 := ⟨tb_in (t4_in (List.mem_of_getElem? (i := 161) rfl)) rfl, tb_in (t1_in (List.mem_of_getElem? (i := 7) rfl)) rfl, ⟨by decide, by decide, by decide +kernel⟩, by decide⟩
set_option maxRecDepth 20000 in
theorem stX1_meant : MSt (mdX1_meant) := tb_in (t4_in (List.mem_of_getElem? (i := 160) rfl)) rfl
def mdX1_goesOn : MD := (yX1_goesOn, cX1_goesOn, 2, some .boolean, 1, 0, 0)
set_option maxRecDepth 20000 in
theorem okX1_goesOn : MOk (mdX1_goesOn) 0 := ⟨tb_in (t4_in (List.mem_of_getElem? (i := 170) rfl)) rfl, tb_in (t1_in (List.mem_of_getElem? (i := 7) rfl)) rfl, ⟨by decide, by decide, by decide +kernel⟩, by decide⟩
set_option maxRecDepth 20000 in
theorem inX1_goesOn : Cond.instanceMethod (mY (mdX1_goesOn)) ∈ tblG := tb_in (t4_in (List.mem_of_getElem? (i := 168) rfl)) rfl
set_option maxRecDepth 20000 in
theorem viX1_goesOn : MVi (mdX1_goesOn) := ⟨inX1_goesOn, tb_in (t4_in (List.mem_of_getElem? (i := 169) rfl)) rfl⟩
def mdX1_takes : MD := (yX1_takes, cX1_takes, 11, some .boolean, 2, 0, 0)
set_option maxRecDepth 20000 in
theorem okX1_takes : MOk (mdX1_takes) 2 := ⟨tb_in (t4_in (List.mem_of_getElem? (i := 165) rfl)) rfl, tb_in (t1_in (List.mem_of_getElem? (i := 7) rfl)) rfl, ⟨by decide, by decide, by decide +kernel⟩, by decide⟩
set_option maxRecDepth 20000 in
theorem inX1_takes : Cond.instanceMethod (mY (mdX1_takes)) ∈ tblG := tb_in (t4_in (List.mem_of_getElem? (i := 163) rfl)) rfl
set_option maxRecDepth 20000 in
theorem viX1_takes : MVi (mdX1_takes) := ⟨inX1_takes, tb_in (t4_in (List.mem_of_getElem? (i := 164) rfl)) rfl⟩
def mdX1_sideOf : MD := (yX1_sideOf, cX1_sideOf, 2, some .int, 0, 0, 0)
set_option maxRecDepth 20000 in
theorem okX1_sideOf : MOk (mdX1_sideOf) 2 := ⟨tb_in (t4_in (List.mem_of_getElem? (i := 102) rfl)) rfl, tb_in (t1_in (List.mem_of_getElem? (i := 7) rfl)) rfl, ⟨by decide, by decide, by decide +kernel⟩, by decide⟩
set_option maxRecDepth 20000 in
theorem stX1_sideOf : MSt (mdX1_sideOf) := tb_in (t4_in (List.mem_of_getElem? (i := 101) rfl)) rfl
def mdX2_init : MD := (yX2_init, cX2_init, 3, none, 0, 2, 49)
set_option maxRecDepth 20000 in
theorem okX2_init : MOk (mdX2_init) 2 := ⟨tb_in (t1_in (List.mem_of_getElem? (i := 177) rfl)) rfl, tb_in (t1_in (List.mem_of_getElem? (i := 6) rfl)) rfl, ⟨by decide, by decide, by decide +kernel⟩, by decide⟩
set_option maxRecDepth 20000 in
theorem inX2_init : Cond.instanceMethod (mY (mdX2_init)) ∈ tblG := tb_in (t1_in (List.mem_of_getElem? (i := 176) rfl)) rfl
def mdX2_slip : MD := (yX2_slip, cX2_slip, 6, some .int, 3, 0, 0)
set_option maxRecDepth 20000 in
theorem okX2_slip : MOk (mdX2_slip) 2 := ⟨tb_in (t5_in (List.mem_of_getElem? (i := 14) rfl)) rfl, tb_in (t1_in (List.mem_of_getElem? (i := 6) rfl)) rfl, ⟨by decide, by decide, by decide +kernel⟩, by decide⟩
set_option maxRecDepth 20000 in
theorem inX2_slip : Cond.instanceMethod (mY (mdX2_slip)) ∈ tblG := tb_in (t5_in (List.mem_of_getElem? (i := 12) rfl)) rfl
set_option maxRecDepth 20000 in
theorem viX2_slip : MVi (mdX2_slip) := ⟨inX2_slip, tb_in (t5_in (List.mem_of_getElem? (i := 13) rfl)) rfl⟩
def mdX2_pace : MD := (yX2_pace, cX2_pace, 4, some .int, 3, 0, 0)
set_option maxRecDepth 20000 in
theorem okX2_pace : MOk (mdX2_pace) 2 := ⟨tb_in (t4_in (List.mem_of_getElem? (i := 42) rfl)) rfl, tb_in (t1_in (List.mem_of_getElem? (i := 6) rfl)) rfl, ⟨by decide, by decide, by decide +kernel⟩, by decide⟩
set_option maxRecDepth 20000 in
theorem inX2_pace : Cond.instanceMethod (mY (mdX2_pace)) ∈ tblG := tb_in (t4_in (List.mem_of_getElem? (i := 40) rfl)) rfl
set_option maxRecDepth 20000 in
theorem viX2_pace : MVi (mdX2_pace) := ⟨inX2_pace, tb_in (t4_in (List.mem_of_getElem? (i := 41) rfl)) rfl⟩
def mdX2_asking : MD := (yX2_asking, cX2_asking, 3, some .int, 3, 0, 0)
set_option maxRecDepth 20000 in
theorem okX2_asking : MOk (mdX2_asking) 1 := ⟨tb_in (t4_in (List.mem_of_getElem? (i := 123) rfl)) rfl, tb_in (t1_in (List.mem_of_getElem? (i := 6) rfl)) rfl, ⟨by decide, by decide, by decide +kernel⟩, by decide⟩
set_option maxRecDepth 20000 in
theorem inX2_asking : Cond.instanceMethod (mY (mdX2_asking)) ∈ tblG := tb_in (t4_in (List.mem_of_getElem? (i := 121) rfl)) rfl
set_option maxRecDepth 20000 in
theorem viX2_asking : MVi (mdX2_asking) := ⟨inX2_asking, tb_in (t4_in (List.mem_of_getElem? (i := 122) rfl)) rfl⟩
def mdX2_nameTeller : MD := (yX2_nameTeller, cX2_nameTeller, 2, none, 1, 0, 0)
set_option maxRecDepth 20000 in
theorem okX2_nameTeller : MOk (mdX2_nameTeller) 1 := ⟨tb_in (t4_in (List.mem_of_getElem? (i := 127) rfl)) rfl, tb_in (t1_in (List.mem_of_getElem? (i := 6) rfl)) rfl, ⟨by decide, by decide, by decide +kernel⟩, by decide⟩
set_option maxRecDepth 20000 in
theorem inX2_nameTeller : Cond.instanceMethod (mY (mdX2_nameTeller)) ∈ tblG := tb_in (t4_in (List.mem_of_getElem? (i := 126) rfl)) rfl
set_option maxRecDepth 20000 in
theorem viX2_nameTeller : MVi (mdX2_nameTeller) := ⟨inX2_nameTeller, tp_in (List.mem_of_getElem? (i := 32) rfl) rfl⟩
def mdX3_init : MD := (yX3_init, cX3_init, 2, none, 0, 3, 96)
set_option maxRecDepth 20000 in
theorem okX3_init : MOk (mdX3_init) 1 := ⟨tb_in (t2_in (List.mem_of_getElem? (i := 111) rfl)) rfl, tb_in (t1_in (List.mem_of_getElem? (i := 12) rfl)) rfl, ⟨by decide, by decide, by decide +kernel⟩, by decide⟩
set_option maxRecDepth 20000 in
theorem inX3_init : Cond.instanceMethod (mY (mdX3_init)) ∈ tblG := tb_in (t2_in (List.mem_of_getElem? (i := 110) rfl)) rfl
def mdX3_fewest : MD := (yX3_fewest, cX3_fewest, 4, some .int, 3, 0, 0)
set_option maxRecDepth 20000 in
theorem okX3_fewest : MOk (mdX3_fewest) 0 := ⟨tb_in (t6_in (List.mem_of_getElem? (i := 8) rfl)) rfl, tb_in (t1_in (List.mem_of_getElem? (i := 12) rfl)) rfl, ⟨by decide, by decide, by decide +kernel⟩, by decide⟩
set_option maxRecDepth 20000 in
theorem inX3_fewest : Cond.instanceMethod (mY (mdX3_fewest)) ∈ tblG := tb_in (t6_in (List.mem_of_getElem? (i := 6) rfl)) rfl
set_option maxRecDepth 20000 in
theorem viX3_fewest : MVi (mdX3_fewest) := ⟨inX3_fewest, tb_in (t6_in (List.mem_of_getElem? (i := 7) rfl)) rfl⟩
def mdX3_firstThatServes : MD := (yX3_firstThatServes, cX3_firstThatServes, 5, some .int, 2, 0, 0)
set_option maxRecDepth 20000 in
theorem okX3_firstThatServes : MOk (mdX3_firstThatServes) 1 := ⟨tb_in (t6_in (List.mem_of_getElem? (i := 30) rfl)) rfl, tb_in (t1_in (List.mem_of_getElem? (i := 12) rfl)) rfl, ⟨by decide, by decide, by decide +kernel⟩, by decide⟩
set_option maxRecDepth 20000 in
theorem inX3_firstThatServes : Cond.instanceMethod (mY (mdX3_firstThatServes)) ∈ tblG := tb_in (t6_in (List.mem_of_getElem? (i := 29) rfl)) rfl
set_option maxRecDepth 20000 in
theorem viX3_firstThatServes : MVi (mdX3_firstThatServes) := ⟨inX3_firstThatServes, tp_in (List.mem_of_getElem? (i := 49) rfl) rfl⟩
def mdX3_nextOfSize : MD := (yX3_nextOfSize, cX3_nextOfSize, 4, some .int, 1, 0, 0)
set_option maxRecDepth 20000 in
theorem okX3_nextOfSize : MOk (mdX3_nextOfSize) 1 := ⟨tb_in (t6_in (List.mem_of_getElem? (i := 42) rfl)) rfl, tb_in (t1_in (List.mem_of_getElem? (i := 12) rfl)) rfl, ⟨by decide, by decide, by decide +kernel⟩, by decide⟩
set_option maxRecDepth 20000 in
theorem stX3_nextOfSize : MSt (mdX3_nextOfSize) := tb_in (t6_in (List.mem_of_getElem? (i := 41) rfl)) rfl
def mdX3_countStreets : MD := (yX3_countStreets, cX3_countStreets, 4, none, 2, 0, 0)
set_option maxRecDepth 20000 in
theorem okX3_countStreets : MOk (mdX3_countStreets) 0 := ⟨tb_in (t6_in (List.mem_of_getElem? (i := 13) rfl)) rfl, tb_in (t1_in (List.mem_of_getElem? (i := 12) rfl)) rfl, ⟨by decide, by decide, by decide +kernel⟩, by decide⟩
set_option maxRecDepth 20000 in
theorem inX3_countStreets : Cond.instanceMethod (mY (mdX3_countStreets)) ∈ tblG := tb_in (t6_in (List.mem_of_getElem? (i := 12) rfl)) rfl
set_option maxRecDepth 20000 in
theorem viX3_countStreets : MVi (mdX3_countStreets) := ⟨inX3_countStreets, tp_in (List.mem_of_getElem? (i := 46) rfl) rfl⟩
def mdX3_towards : MD := (yX3_towards, cX3_towards, 5, some .int, 1, 0, 0)
set_option maxRecDepth 20000 in
theorem okX3_towards : MOk (mdX3_towards) 2 := ⟨tb_in (t6_in (List.mem_of_getElem? (i := 18) rfl)) rfl, tb_in (t1_in (List.mem_of_getElem? (i := 12) rfl)) rfl, ⟨by decide, by decide, by decide +kernel⟩, by decide⟩
set_option maxRecDepth 20000 in
theorem inX3_towards : Cond.instanceMethod (mY (mdX3_towards)) ∈ tblG := tb_in (t6_in (List.mem_of_getElem? (i := 17) rfl)) rfl
set_option maxRecDepth 20000 in
theorem viX3_towards : MVi (mdX3_towards) := ⟨inX3_towards, tp_in (List.mem_of_getElem? (i := 47) rfl) rfl⟩
def mdX3_setOnward : MD := (yX3_setOnward, cX3_setOnward, 5, none, 1, 0, 0)
set_option maxRecDepth 20000 in
theorem okX3_setOnward : MOk (mdX3_setOnward) 0 := ⟨tb_in (t6_in (List.mem_of_getElem? (i := 23) rfl)) rfl, tb_in (t1_in (List.mem_of_getElem? (i := 12) rfl)) rfl, ⟨by decide, by decide, by decide +kernel⟩, by decide⟩
set_option maxRecDepth 20000 in
theorem inX3_setOnward : Cond.instanceMethod (mY (mdX3_setOnward)) ∈ tblG := tb_in (t6_in (List.mem_of_getElem? (i := 22) rfl)) rfl
set_option maxRecDepth 20000 in
theorem viX3_setOnward : MVi (mdX3_setOnward) := ⟨inX3_setOnward, tp_in (List.mem_of_getElem? (i := 48) rfl) rfl⟩
def mdX3_allCome : MD := (yX3_allCome, cX3_allCome, 3, some .boolean, 1, 0, 0)
set_option maxRecDepth 20000 in
theorem okX3_allCome : MOk (mdX3_allCome) 1 := ⟨tb_in (t6_in (List.mem_of_getElem? (i := 35) rfl)) rfl, tb_in (t1_in (List.mem_of_getElem? (i := 12) rfl)) rfl, ⟨by decide, by decide, by decide +kernel⟩, by decide⟩
set_option maxRecDepth 20000 in
theorem inX3_allCome : Cond.instanceMethod (mY (mdX3_allCome)) ∈ tblG := tb_in (t6_in (List.mem_of_getElem? (i := 34) rfl)) rfl
set_option maxRecDepth 20000 in
theorem viX3_allCome : MVi (mdX3_allCome) := ⟨inX3_allCome, tp_in (List.mem_of_getElem? (i := 50) rfl) rfl⟩
def mdX3_comes : MD := (yX3_comes, cX3_comes, 8, some .boolean, 0, 0, 0)
set_option maxRecDepth 20000 in
theorem okX3_comes : MOk (mdX3_comes) 2 := ⟨tb_in (t6_in (List.mem_of_getElem? (i := 39) rfl)) rfl, tb_in (t1_in (List.mem_of_getElem? (i := 12) rfl)) rfl, ⟨by decide, by decide, by decide +kernel⟩, by decide⟩
set_option maxRecDepth 20000 in
theorem inX3_comes : Cond.instanceMethod (mY (mdX3_comes)) ∈ tblG := tb_in (t6_in (List.mem_of_getElem? (i := 38) rfl)) rfl
set_option maxRecDepth 20000 in
theorem viX3_comes : MVi (mdX3_comes) := ⟨inX3_comes, tp_in (List.mem_of_getElem? (i := 51) rfl) rfl⟩
def mdX4_init : MD := (yX4_init, cX4_init, 2, none, 0, 6, 1333)
set_option maxRecDepth 20000 in
theorem okX4_init : MOk (mdX4_init) 1 := ⟨tb_in (t1_in (List.mem_of_getElem? (i := 123) rfl)) rfl, tb_in (t1_in (List.mem_of_getElem? (i := 5) rfl)) rfl, ⟨by decide, by decide, by decide +kernel⟩, by decide⟩
set_option maxRecDepth 20000 in
theorem inX4_init : Cond.instanceMethod (mY (mdX4_init)) ∈ tblG := tb_in (t1_in (List.mem_of_getElem? (i := 122) rfl)) rfl
def mdX4_reads : MD := (yX4_reads, cX4_reads, 4, some .boolean, 42, 0, 0)
set_option maxRecDepth 20000 in
theorem okX4_reads : MOk (mdX4_reads) 1 := ⟨tb_in (t3_in (List.mem_of_getElem? (i := 23) rfl)) rfl, tb_in (t1_in (List.mem_of_getElem? (i := 5) rfl)) rfl, ⟨by decide, by decide, by decide +kernel⟩, by decide⟩
set_option maxRecDepth 20000 in
theorem inX4_reads : Cond.instanceMethod (mY (mdX4_reads)) ∈ tblG := tb_in (t3_in (List.mem_of_getElem? (i := 21) rfl)) rfl
set_option maxRecDepth 20000 in
theorem viX4_reads : MVi (mdX4_reads) := ⟨inX4_reads, tb_in (t3_in (List.mem_of_getElem? (i := 22) rfl)) rfl⟩
def mdX4_asRead : MD := (yX4_asRead, cX4_asRead, 1, some (.object "SecondLeft$Text"), 2, 4, 904)
set_option maxRecDepth 20000 in
theorem okX4_asRead : MOk (mdX4_asRead) 0 := ⟨tb_in (t3_in (List.mem_of_getElem? (i := 189) rfl)) rfl, tb_in (t1_in (List.mem_of_getElem? (i := 5) rfl)) rfl, ⟨by decide, by decide, by decide +kernel⟩, by decide⟩
set_option maxRecDepth 20000 in
theorem inX4_asRead : Cond.instanceMethod (mY (mdX4_asRead)) ∈ tblG := tb_in (t3_in (List.mem_of_getElem? (i := 187) rfl)) rfl
set_option maxRecDepth 20000 in
theorem viX4_asRead : MVi (mdX4_asRead) := ⟨inX4_asRead, tb_in (t3_in (List.mem_of_getElem? (i := 188) rfl)) rfl⟩
def mdX4_part : MD := (yX4_part, cX4_part, 6, none, 7, 0, 0)
set_option maxRecDepth 20000 in
theorem okX4_part : MOk (mdX4_part) 1 := ⟨tb_in (t3_in (List.mem_of_getElem? (i := 30) rfl)) rfl, tb_in (t1_in (List.mem_of_getElem? (i := 5) rfl)) rfl, ⟨by decide, by decide, by decide +kernel⟩, by decide⟩
set_option maxRecDepth 20000 in
theorem inX4_part : Cond.instanceMethod (mY (mdX4_part)) ∈ tblG := tb_in (t3_in (List.mem_of_getElem? (i := 29) rfl)) rfl
set_option maxRecDepth 20000 in
theorem viX4_part : MVi (mdX4_part) := ⟨inX4_part, tp_in (List.mem_of_getElem? (i := 2) rfl) rfl⟩
def mdX4_endOfToken : MD := (yX4_endOfToken, cX4_endOfToken, 4, some .int, 1, 0, 0)
set_option maxRecDepth 20000 in
theorem okX4_endOfToken : MOk (mdX4_endOfToken) 2 := ⟨tb_in (t3_in (List.mem_of_getElem? (i := 34) rfl)) rfl, tb_in (t1_in (List.mem_of_getElem? (i := 5) rfl)) rfl, ⟨by decide, by decide, by decide +kernel⟩, by decide⟩
set_option maxRecDepth 20000 in
theorem inX4_endOfToken : Cond.instanceMethod (mY (mdX4_endOfToken)) ∈ tblG := tb_in (t3_in (List.mem_of_getElem? (i := 33) rfl)) rfl
set_option maxRecDepth 20000 in
theorem viX4_endOfToken : MVi (mdX4_endOfToken) := ⟨inX4_endOfToken, tp_in (List.mem_of_getElem? (i := 3) rfl) rfl⟩
def mdX4_setToken : MD := (yX4_setToken, cX4_setToken, 4, none, 6, 0, 0)
set_option maxRecDepth 20000 in
theorem okX4_setToken : MOk (mdX4_setToken) 3 := ⟨tb_in (t3_in (List.mem_of_getElem? (i := 47) rfl)) rfl, tb_in (t1_in (List.mem_of_getElem? (i := 5) rfl)) rfl, ⟨by decide, by decide, by decide +kernel⟩, by decide⟩
set_option maxRecDepth 20000 in
theorem inX4_setToken : Cond.instanceMethod (mY (mdX4_setToken)) ∈ tblG := tb_in (t3_in (List.mem_of_getElem? (i := 46) rfl)) rfl
set_option maxRecDepth 20000 in
theorem viX4_setToken : MVi (mdX4_setToken) := ⟨inX4_setToken, tp_in (List.mem_of_getElem? (i := 4) rfl) rfl⟩
def mdX4_isBlank : MD := (yX4_isBlank, cX4_isBlank, 1, some .boolean, 0, 0, 0)
set_option maxRecDepth 20000 in
theorem okX4_isBlank : MOk (mdX4_isBlank) 1 := ⟨tb_in (t3_in (List.mem_of_getElem? (i := 43) rfl)) rfl, tb_in (t1_in (List.mem_of_getElem? (i := 5) rfl)) rfl, ⟨by decide, by decide, by decide +kernel⟩, by decide⟩
set_option maxRecDepth 20000 in
theorem stX4_isBlank : MSt (mdX4_isBlank) := tb_in (t3_in (List.mem_of_getElem? (i := 42) rfl)) rfl
def mdX4_isLetter : MD := (yX4_isLetter, cX4_isLetter, 1, some .boolean, 0, 0, 0)
set_option maxRecDepth 20000 in
theorem okX4_isLetter : MOk (mdX4_isLetter) 1 := ⟨tb_in (t3_in (List.mem_of_getElem? (i := 37) rfl)) rfl, tb_in (t1_in (List.mem_of_getElem? (i := 5) rfl)) rfl, ⟨by decide, by decide, by decide +kernel⟩, by decide⟩
set_option maxRecDepth 20000 in
theorem stX4_isLetter : MSt (mdX4_isLetter) := tb_in (t3_in (List.mem_of_getElem? (i := 36) rfl)) rfl
def mdX4_isDigit : MD := (yX4_isDigit, cX4_isDigit, 1, some .boolean, 0, 0, 0)
set_option maxRecDepth 20000 in
theorem okX4_isDigit : MOk (mdX4_isDigit) 1 := ⟨tb_in (t3_in (List.mem_of_getElem? (i := 40) rfl)) rfl, tb_in (t1_in (List.mem_of_getElem? (i := 5) rfl)) rfl, ⟨by decide, by decide, by decide +kernel⟩, by decide⟩
set_option maxRecDepth 20000 in
theorem stX4_isDigit : MSt (mdX4_isDigit) := tb_in (t3_in (List.mem_of_getElem? (i := 39) rfl)) rfl
def mdX4_numberOf : MD := (yX4_numberOf, cX4_numberOf, 5, some .int, 1, 0, 0)
set_option maxRecDepth 20000 in
theorem okX4_numberOf : MOk (mdX4_numberOf) 2 := ⟨tb_in (t3_in (List.mem_of_getElem? (i := 104) rfl)) rfl, tb_in (t1_in (List.mem_of_getElem? (i := 5) rfl)) rfl, ⟨by decide, by decide, by decide +kernel⟩, by decide⟩
set_option maxRecDepth 20000 in
theorem inX4_numberOf : Cond.instanceMethod (mY (mdX4_numberOf)) ∈ tblG := tb_in (t3_in (List.mem_of_getElem? (i := 103) rfl)) rfl
set_option maxRecDepth 20000 in
theorem viX4_numberOf : MVi (mdX4_numberOf) := ⟨inX4_numberOf, tp_in (List.mem_of_getElem? (i := 6) rfl) rfl⟩
def mdX4_wordOf : MD := (yX4_wordOf, cX4_wordOf, 7, some .int, 5, 0, 0)
set_option maxRecDepth 20000 in
theorem okX4_wordOf : MOk (mdX4_wordOf) 2 := ⟨tb_in (t3_in (List.mem_of_getElem? (i := 51) rfl)) rfl, tb_in (t1_in (List.mem_of_getElem? (i := 5) rfl)) rfl, ⟨by decide, by decide, by decide +kernel⟩, by decide⟩
set_option maxRecDepth 20000 in
theorem inX4_wordOf : Cond.instanceMethod (mY (mdX4_wordOf)) ∈ tblG := tb_in (t3_in (List.mem_of_getElem? (i := 50) rfl)) rfl
set_option maxRecDepth 20000 in
theorem viX4_wordOf : MVi (mdX4_wordOf) := ⟨inX4_wordOf, tp_in (List.mem_of_getElem? (i := 5) rfl) rfl⟩
def mdX4_takeToken : MD := (yX4_takeToken, cX4_takeToken, 1, some .boolean, 0, 0, 0)
set_option maxRecDepth 20000 in
theorem okX4_takeToken : MOk (mdX4_takeToken) 0 := ⟨tb_in (t3_in (List.mem_of_getElem? (i := 109) rfl)) rfl, tb_in (t1_in (List.mem_of_getElem? (i := 5) rfl)) rfl, ⟨by decide, by decide, by decide +kernel⟩, by decide⟩
set_option maxRecDepth 20000 in
theorem inX4_takeToken : Cond.instanceMethod (mY (mdX4_takeToken)) ∈ tblG := tb_in (t3_in (List.mem_of_getElem? (i := 108) rfl)) rfl
set_option maxRecDepth 20000 in
theorem viX4_takeToken : MVi (mdX4_takeToken) := ⟨inX4_takeToken, tp_in (List.mem_of_getElem? (i := 7) rfl) rfl⟩
def mdX4_failed : MD := (yX4_failed, cX4_failed, 2, some .boolean, 0, 0, 0)
set_option maxRecDepth 20000 in
theorem okX4_failed : MOk (mdX4_failed) 1 := ⟨tb_in (t3_in (List.mem_of_getElem? (i := 117) rfl)) rfl, tb_in (t1_in (List.mem_of_getElem? (i := 5) rfl)) rfl, ⟨by decide, by decide, by decide +kernel⟩, by decide⟩
set_option maxRecDepth 20000 in
theorem inX4_failed : Cond.instanceMethod (mY (mdX4_failed)) ∈ tblG := tb_in (t3_in (List.mem_of_getElem? (i := 116) rfl)) rfl
set_option maxRecDepth 20000 in
theorem viX4_failed : MVi (mdX4_failed) := ⟨inX4_failed, tp_in (List.mem_of_getElem? (i := 9) rfl) rfl⟩
def mdX4_readClause : MD := (yX4_readClause, cX4_readClause, 3, some .boolean, 41, 0, 0)
set_option maxRecDepth 20000 in
theorem okX4_readClause : MOk (mdX4_readClause) 0 := ⟨tb_in (t3_in (List.mem_of_getElem? (i := 113) rfl)) rfl, tb_in (t1_in (List.mem_of_getElem? (i := 5) rfl)) rfl, ⟨by decide, by decide, by decide +kernel⟩, by decide⟩
set_option maxRecDepth 20000 in
theorem inX4_readClause : Cond.instanceMethod (mY (mdX4_readClause)) ∈ tblG := tb_in (t3_in (List.mem_of_getElem? (i := 112) rfl)) rfl
set_option maxRecDepth 20000 in
theorem viX4_readClause : MVi (mdX4_readClause) := ⟨inX4_readClause, tp_in (List.mem_of_getElem? (i := 8) rfl) rfl⟩
def mdX4_keep : MD := (yX4_keep, cX4_keep, 4, none, 0, 0, 0)
set_option maxRecDepth 20000 in
theorem okX4_keep : MOk (mdX4_keep) 2 := ⟨tb_in (t3_in (List.mem_of_getElem? (i := 121) rfl)) rfl, tb_in (t1_in (List.mem_of_getElem? (i := 5) rfl)) rfl, ⟨by decide, by decide, by decide +kernel⟩, by decide⟩
set_option maxRecDepth 20000 in
theorem inX4_keep : Cond.instanceMethod (mY (mdX4_keep)) ∈ tblG := tb_in (t3_in (List.mem_of_getElem? (i := 120) rfl)) rfl
set_option maxRecDepth 20000 in
theorem viX4_keep : MVi (mdX4_keep) := ⟨inX4_keep, tp_in (List.mem_of_getElem? (i := 10) rfl) rfl⟩
def mdX4_readDeed : MD := (yX4_readDeed, cX4_readDeed, 2, some .boolean, 4, 0, 0)
set_option maxRecDepth 20000 in
theorem okX4_readDeed : MOk (mdX4_readDeed) 1 := ⟨tb_in (t3_in (List.mem_of_getElem? (i := 161) rfl)) rfl, tb_in (t1_in (List.mem_of_getElem? (i := 5) rfl)) rfl, ⟨by decide, by decide, by decide +kernel⟩, by decide⟩
set_option maxRecDepth 20000 in
theorem inX4_readDeed : Cond.instanceMethod (mY (mdX4_readDeed)) ∈ tblG := tb_in (t3_in (List.mem_of_getElem? (i := 160) rfl)) rfl
set_option maxRecDepth 20000 in
theorem viX4_readDeed : MVi (mdX4_readDeed) := ⟨inX4_readDeed, tp_in (List.mem_of_getElem? (i := 20) rfl) rfl⟩
def mdX4_readNumber : MD := (yX4_readNumber, cX4_readNumber, 4, some .boolean, 1, 0, 0)
set_option maxRecDepth 20000 in
theorem okX4_readNumber : MOk (mdX4_readNumber) 3 := ⟨tb_in (t3_in (List.mem_of_getElem? (i := 165) rfl)) rfl, tb_in (t1_in (List.mem_of_getElem? (i := 5) rfl)) rfl, ⟨by decide, by decide, by decide +kernel⟩, by decide⟩
set_option maxRecDepth 20000 in
theorem inX4_readNumber : Cond.instanceMethod (mY (mdX4_readNumber)) ∈ tblG := tb_in (t3_in (List.mem_of_getElem? (i := 164) rfl)) rfl
set_option maxRecDepth 20000 in
theorem viX4_readNumber : MVi (mdX4_readNumber) := ⟨inX4_readNumber, tp_in (List.mem_of_getElem? (i := 21) rfl) rfl⟩
def mdX4_readCorner : MD := (yX4_readCorner, cX4_readCorner, 2, some .boolean, 2, 0, 0)
set_option maxRecDepth 20000 in
theorem okX4_readCorner : MOk (mdX4_readCorner) 1 := ⟨tb_in (t3_in (List.mem_of_getElem? (i := 169) rfl)) rfl, tb_in (t1_in (List.mem_of_getElem? (i := 5) rfl)) rfl, ⟨by decide, by decide, by decide +kernel⟩, by decide⟩
set_option maxRecDepth 20000 in
theorem inX4_readCorner : Cond.instanceMethod (mY (mdX4_readCorner)) ∈ tblG := tb_in (t3_in (List.mem_of_getElem? (i := 168) rfl)) rfl
set_option maxRecDepth 20000 in
theorem viX4_readCorner : MVi (mdX4_readCorner) := ⟨inX4_readCorner, tp_in (List.mem_of_getElem? (i := 22) rfl) rfl⟩
def mdX4_readFacing : MD := (yX4_readFacing, cX4_readFacing, 1, some .boolean, 2, 0, 0)
set_option maxRecDepth 20000 in
theorem okX4_readFacing : MOk (mdX4_readFacing) 0 := ⟨tb_in (t3_in (List.mem_of_getElem? (i := 173) rfl)) rfl, tb_in (t1_in (List.mem_of_getElem? (i := 5) rfl)) rfl, ⟨by decide, by decide, by decide +kernel⟩, by decide⟩
set_option maxRecDepth 20000 in
theorem inX4_readFacing : Cond.instanceMethod (mY (mdX4_readFacing)) ∈ tblG := tb_in (t3_in (List.mem_of_getElem? (i := 172) rfl)) rfl
set_option maxRecDepth 20000 in
theorem viX4_readFacing : MVi (mdX4_readFacing) := ⟨inX4_readFacing, tp_in (List.mem_of_getElem? (i := 23) rfl) rfl⟩
def mdX4_readWord : MD := (yX4_readWord, cX4_readWord, 2, some .boolean, 1, 0, 0)
set_option maxRecDepth 20000 in
theorem okX4_readWord : MOk (mdX4_readWord) 1 := ⟨tb_in (t3_in (List.mem_of_getElem? (i := 149) rfl)) rfl, tb_in (t1_in (List.mem_of_getElem? (i := 5) rfl)) rfl, ⟨by decide, by decide, by decide +kernel⟩, by decide⟩
set_option maxRecDepth 20000 in
theorem inX4_readWord : Cond.instanceMethod (mY (mdX4_readWord)) ∈ tblG := tb_in (t3_in (List.mem_of_getElem? (i := 148) rfl)) rfl
set_option maxRecDepth 20000 in
theorem viX4_readWord : MVi (mdX4_readWord) := ⟨inX4_readWord, tp_in (List.mem_of_getElem? (i := 17) rfl) rfl⟩
def mdX4_readSign : MD := (yX4_readSign, cX4_readSign, 2, some .boolean, 1, 0, 0)
set_option maxRecDepth 20000 in
theorem okX4_readSign : MOk (mdX4_readSign) 1 := ⟨tb_in (t3_in (List.mem_of_getElem? (i := 153) rfl)) rfl, tb_in (t1_in (List.mem_of_getElem? (i := 5) rfl)) rfl, ⟨by decide, by decide, by decide +kernel⟩, by decide⟩
set_option maxRecDepth 20000 in
theorem inX4_readSign : Cond.instanceMethod (mY (mdX4_readSign)) ∈ tblG := tb_in (t3_in (List.mem_of_getElem? (i := 152) rfl)) rfl
set_option maxRecDepth 20000 in
theorem viX4_readSign : MVi (mdX4_readSign) := ⟨inX4_readSign, tp_in (List.mem_of_getElem? (i := 18) rfl) rfl⟩
def mdX4_isSign : MD := (yX4_isSign, cX4_isSign, 2, some .boolean, 0, 0, 0)
set_option maxRecDepth 20000 in
theorem okX4_isSign : MOk (mdX4_isSign) 1 := ⟨tb_in (t3_in (List.mem_of_getElem? (i := 145) rfl)) rfl, tb_in (t1_in (List.mem_of_getElem? (i := 5) rfl)) rfl, ⟨by decide, by decide, by decide +kernel⟩, by decide⟩
set_option maxRecDepth 20000 in
theorem inX4_isSign : Cond.instanceMethod (mY (mdX4_isSign)) ∈ tblG := tb_in (t3_in (List.mem_of_getElem? (i := 144) rfl)) rfl
set_option maxRecDepth 20000 in
theorem viX4_isSign : MVi (mdX4_isSign) := ⟨inX4_isSign, tp_in (List.mem_of_getElem? (i := 16) rfl) rfl⟩
def mdX4_readSideTo : MD := (yX4_readSideTo, cX4_readSideTo, 2, some .boolean, 1, 0, 0)
set_option maxRecDepth 20000 in
theorem okX4_readSideTo : MOk (mdX4_readSideTo) 1 := ⟨tb_in (t3_in (List.mem_of_getElem? (i := 185) rfl)) rfl, tb_in (t1_in (List.mem_of_getElem? (i := 5) rfl)) rfl, ⟨by decide, by decide, by decide +kernel⟩, by decide⟩
set_option maxRecDepth 20000 in
theorem inX4_readSideTo : Cond.instanceMethod (mY (mdX4_readSideTo)) ∈ tblG := tb_in (t3_in (List.mem_of_getElem? (i := 184) rfl)) rfl
set_option maxRecDepth 20000 in
theorem viX4_readSideTo : MVi (mdX4_readSideTo) := ⟨inX4_readSideTo, tp_in (List.mem_of_getElem? (i := 26) rfl) rfl⟩
def mdX4_readTurns : MD := (yX4_readTurns, cX4_readTurns, 5, some .boolean, 3, 0, 0)
set_option maxRecDepth 20000 in
theorem okX4_readTurns : MOk (mdX4_readTurns) 0 := ⟨tb_in (t3_in (List.mem_of_getElem? (i := 177) rfl)) rfl, tb_in (t1_in (List.mem_of_getElem? (i := 5) rfl)) rfl, ⟨by decide, by decide, by decide +kernel⟩, by decide⟩
set_option maxRecDepth 20000 in
theorem inX4_readTurns : Cond.instanceMethod (mY (mdX4_readTurns)) ∈ tblG := tb_in (t3_in (List.mem_of_getElem? (i := 176) rfl)) rfl
set_option maxRecDepth 20000 in
theorem viX4_readTurns : MVi (mdX4_readTurns) := ⟨inX4_readTurns, tp_in (List.mem_of_getElem? (i := 24) rfl) rfl⟩
def mdX4_readTurn : MD := (yX4_readTurn, cX4_readTurn, 5, some .int, 2, 0, 0)
set_option maxRecDepth 20000 in
theorem okX4_readTurn : MOk (mdX4_readTurn) 1 := ⟨tb_in (t3_in (List.mem_of_getElem? (i := 181) rfl)) rfl, tb_in (t1_in (List.mem_of_getElem? (i := 5) rfl)) rfl, ⟨by decide, by decide, by decide +kernel⟩, by decide⟩
set_option maxRecDepth 20000 in
theorem inX4_readTurn : Cond.instanceMethod (mY (mdX4_readTurn)) ∈ tblG := tb_in (t3_in (List.mem_of_getElem? (i := 180) rfl)) rfl
set_option maxRecDepth 20000 in
theorem viX4_readTurn : MVi (mdX4_readTurn) := ⟨inX4_readTurn, tp_in (List.mem_of_getElem? (i := 25) rfl) rfl⟩
def mdX4_beginLaw : MD := (yX4_beginLaw, cX4_beginLaw, 2, some .boolean, 0, 0, 0)
set_option maxRecDepth 20000 in
theorem okX4_beginLaw : MOk (mdX4_beginLaw) 1 := ⟨tb_in (t3_in (List.mem_of_getElem? (i := 125) rfl)) rfl, tb_in (t1_in (List.mem_of_getElem? (i := 5) rfl)) rfl, ⟨by decide, by decide, by decide +kernel⟩, by decide⟩
set_option maxRecDepth 20000 in
theorem inX4_beginLaw : Cond.instanceMethod (mY (mdX4_beginLaw)) ∈ tblG := tb_in (t3_in (List.mem_of_getElem? (i := 124) rfl)) rfl
set_option maxRecDepth 20000 in
theorem viX4_beginLaw : MVi (mdX4_beginLaw) := ⟨inX4_beginLaw, tp_in (List.mem_of_getElem? (i := 11) rfl) rfl⟩
def mdX4_endLaw : MD := (yX4_endLaw, cX4_endLaw, 2, some .boolean, 0, 0, 0)
set_option maxRecDepth 20000 in
theorem okX4_endLaw : MOk (mdX4_endLaw) 1 := ⟨tb_in (t3_in (List.mem_of_getElem? (i := 157) rfl)) rfl, tb_in (t1_in (List.mem_of_getElem? (i := 5) rfl)) rfl, ⟨by decide, by decide, by decide +kernel⟩, by decide⟩
set_option maxRecDepth 20000 in
theorem inX4_endLaw : Cond.instanceMethod (mY (mdX4_endLaw)) ∈ tblG := tb_in (t3_in (List.mem_of_getElem? (i := 156) rfl)) rfl
set_option maxRecDepth 20000 in
theorem viX4_endLaw : MVi (mdX4_endLaw) := ⟨inX4_endLaw, tp_in (List.mem_of_getElem? (i := 19) rfl) rfl⟩
def mdX4_emit : MD := (yX4_emit, cX4_emit, 2, some .boolean, 0, 0, 0)
set_option maxRecDepth 20000 in
theorem okX4_emit : MOk (mdX4_emit) 1 := ⟨tb_in (t3_in (List.mem_of_getElem? (i := 141) rfl)) rfl, tb_in (t1_in (List.mem_of_getElem? (i := 5) rfl)) rfl, ⟨by decide, by decide, by decide +kernel⟩, by decide⟩
set_option maxRecDepth 20000 in
theorem inX4_emit : Cond.instanceMethod (mY (mdX4_emit)) ∈ tblG := tb_in (t3_in (List.mem_of_getElem? (i := 140) rfl)) rfl
set_option maxRecDepth 20000 in
theorem viX4_emit : MVi (mdX4_emit) := ⟨inX4_emit, tp_in (List.mem_of_getElem? (i := 15) rfl) rfl⟩
def mdX4_readSum (v : Nat) : MD := (yX4_readSum, cX4_readSum, 5, some .boolean, v, 0, 0)
set_option maxRecDepth 20000 in
theorem okX4_readSum (v : Nat) : MOk (mdX4_readSum v) 1 := ⟨tb_in (t3_in (List.mem_of_getElem? (i := 129) rfl)) rfl, tb_in (t1_in (List.mem_of_getElem? (i := 5) rfl)) rfl, ⟨by show yX4_readSum.cls ≠ "java/lang/invoke/MethodHandle"; decide, by show yX4_readSum.cls ≠ "java/lang/invoke/VarHandle"; decide, by show (parseMethodDescriptor yX4_readSum.desc).map (fun d => d.parameters.length) = some 1; decide +kernel⟩, by show 5 ≤ 45; decide⟩
set_option maxRecDepth 20000 in
theorem inX4_readSum (v : Nat) : Cond.instanceMethod (mY (mdX4_readSum v)) ∈ tblG := tb_in (t3_in (List.mem_of_getElem? (i := 128) rfl)) rfl
set_option maxRecDepth 20000 in
theorem viX4_readSum (v : Nat) : MVi (mdX4_readSum v) := ⟨inX4_readSum v, tp_in (List.mem_of_getElem? (i := 12) rfl) rfl⟩
def mdX4_readProduct (v : Nat) : MD := (yX4_readProduct, cX4_readProduct, 5, some .boolean, v, 0, 0)
set_option maxRecDepth 20000 in
theorem okX4_readProduct (v : Nat) : MOk (mdX4_readProduct v) 1 := ⟨tb_in (t3_in (List.mem_of_getElem? (i := 133) rfl)) rfl, tb_in (t1_in (List.mem_of_getElem? (i := 5) rfl)) rfl, ⟨by show yX4_readProduct.cls ≠ "java/lang/invoke/MethodHandle"; decide, by show yX4_readProduct.cls ≠ "java/lang/invoke/VarHandle"; decide, by show (parseMethodDescriptor yX4_readProduct.desc).map (fun d => d.parameters.length) = some 1; decide +kernel⟩, by show 5 ≤ 45; decide⟩
set_option maxRecDepth 20000 in
theorem inX4_readProduct (v : Nat) : Cond.instanceMethod (mY (mdX4_readProduct v)) ∈ tblG := tb_in (t3_in (List.mem_of_getElem? (i := 132) rfl)) rfl
set_option maxRecDepth 20000 in
theorem viX4_readProduct (v : Nat) : MVi (mdX4_readProduct v) := ⟨inX4_readProduct v, tp_in (List.mem_of_getElem? (i := 13) rfl) rfl⟩
def mdX4_readOne (v : Nat) : MD := (yX4_readOne, cX4_readOne, 4, some .boolean, v, 0, 0)
set_option maxRecDepth 20000 in
theorem okX4_readOne (v : Nat) : MOk (mdX4_readOne v) 1 := ⟨tb_in (t3_in (List.mem_of_getElem? (i := 137) rfl)) rfl, tb_in (t1_in (List.mem_of_getElem? (i := 5) rfl)) rfl, ⟨by show yX4_readOne.cls ≠ "java/lang/invoke/MethodHandle"; decide, by show yX4_readOne.cls ≠ "java/lang/invoke/VarHandle"; decide, by show (parseMethodDescriptor yX4_readOne.desc).map (fun d => d.parameters.length) = some 1; decide +kernel⟩, by show 4 ≤ 45; decide⟩
set_option maxRecDepth 20000 in
theorem inX4_readOne (v : Nat) : Cond.instanceMethod (mY (mdX4_readOne v)) ∈ tblG := tb_in (t3_in (List.mem_of_getElem? (i := 136) rfl)) rfl
set_option maxRecDepth 20000 in
theorem viX4_readOne (v : Nat) : MVi (mdX4_readOne v) := ⟨inX4_readOne v, tp_in (List.mem_of_getElem? (i := 14) rfl) rfl⟩
def mdX5_init : MD := (yX5_init, cX5_init, 5, none, 0, 0, 0)
set_option maxRecDepth 20000 in
theorem okX5_init : MOk (mdX5_init) 4 := ⟨tb_in (t3_in (List.mem_of_getElem? (i := 208) rfl)) rfl, tb_in (t1_in (List.mem_of_getElem? (i := 19) rfl)) rfl, ⟨by decide, by decide, by decide +kernel⟩, by decide⟩
set_option maxRecDepth 20000 in
theorem inX5_init : Cond.instanceMethod (mY (mdX5_init)) ∈ tblG := tb_in (t3_in (List.mem_of_getElem? (i := 207) rfl)) rfl
def mdX5_rules : MD := (yX5_rules, cX5_rules, 2, some .boolean, 0, 0, 0)
set_option maxRecDepth 20000 in
theorem okX5_rules : MOk (mdX5_rules) 1 := ⟨tb_in (t4_in (List.mem_of_getElem? (i := 50) rfl)) rfl, tb_in (t1_in (List.mem_of_getElem? (i := 19) rfl)) rfl, ⟨by decide, by decide, by decide +kernel⟩, by decide⟩
set_option maxRecDepth 20000 in
theorem inX5_rules : Cond.instanceMethod (mY (mdX5_rules)) ∈ tblG := tb_in (t4_in (List.mem_of_getElem? (i := 48) rfl)) rfl
set_option maxRecDepth 20000 in
theorem viX5_rules : MVi (mdX5_rules) := ⟨inX5_rules, tb_in (t4_in (List.mem_of_getElem? (i := 49) rfl)) rfl⟩
def mdX5_value : MD := (yX5_value, cX5_value, 8, some .int, 2, 0, 0)
set_option maxRecDepth 20000 in
theorem okX5_value : MOk (mdX5_value) 3 := ⟨tb_in (t4_in (List.mem_of_getElem? (i := 63) rfl)) rfl, tb_in (t1_in (List.mem_of_getElem? (i := 19) rfl)) rfl, ⟨by decide, by decide, by decide +kernel⟩, by decide⟩
set_option maxRecDepth 20000 in
theorem inX5_value : Cond.instanceMethod (mY (mdX5_value)) ∈ tblG := tb_in (t4_in (List.mem_of_getElem? (i := 61) rfl)) rfl
set_option maxRecDepth 20000 in
theorem viX5_value : MVi (mdX5_value) := ⟨inX5_value, tb_in (t4_in (List.mem_of_getElem? (i := 62) rfl)) rfl⟩
def mdX5_ofTwo : MD := (yX5_ofTwo, cX5_ofTwo, 7, some .int, 1, 0, 0)
set_option maxRecDepth 20000 in
theorem okX5_ofTwo : MOk (mdX5_ofTwo) 3 := ⟨tb_in (t4_in (List.mem_of_getElem? (i := 68) rfl)) rfl, tb_in (t1_in (List.mem_of_getElem? (i := 19) rfl)) rfl, ⟨by decide, by decide, by decide +kernel⟩, by decide⟩
set_option maxRecDepth 20000 in
theorem stX5_ofTwo : MSt (mdX5_ofTwo) := tb_in (t4_in (List.mem_of_getElem? (i := 67) rfl)) rfl
def mdX6_init : MD := (yX6_init, cX6_init, 1, none, 1, 6, 244)
set_option maxRecDepth 20000 in
theorem okX6_init : MOk (mdX6_init) 0 := ⟨tb_in (t1_in (List.mem_of_getElem? (i := 34) rfl)) rfl, tb_in (t1_in (List.mem_of_getElem? (i := 2) rfl)) rfl, ⟨by decide, by decide, by decide +kernel⟩, by decide⟩
set_option maxRecDepth 20000 in
theorem inX6_init : Cond.instanceMethod (mY (mdX6_init)) ∈ tblG := tb_in (t1_in (List.mem_of_getElem? (i := 33) rfl)) rfl
def mdX6_copyFrom : MD := (yX6_copyFrom, cX6_copyFrom, 3, none, 0, 0, 0)
set_option maxRecDepth 20000 in
theorem okX6_copyFrom : MOk (mdX6_copyFrom) 1 := ⟨tb_in (t6_in (List.mem_of_getElem? (i := 58) rfl)) rfl, tb_in (t1_in (List.mem_of_getElem? (i := 2) rfl)) rfl, ⟨by decide, by decide, by decide +kernel⟩, by decide⟩
set_option maxRecDepth 20000 in
theorem inX6_copyFrom : Cond.instanceMethod (mY (mdX6_copyFrom)) ∈ tblG := tb_in (t6_in (List.mem_of_getElem? (i := 56) rfl)) rfl
set_option maxRecDepth 20000 in
theorem viX6_copyFrom : MVi (mdX6_copyFrom) := ⟨inX6_copyFrom, tb_in (t6_in (List.mem_of_getElem? (i := 57) rfl)) rfl⟩
def mdX6_hasCorner : MD := (yX6_hasCorner, cX6_hasCorner, 2, some .boolean, 0, 0, 0)
set_option maxRecDepth 20000 in
theorem okX6_hasCorner : MOk (mdX6_hasCorner) 1 := ⟨tb_in (t2_in (List.mem_of_getElem? (i := 200) rfl)) rfl, tb_in (t1_in (List.mem_of_getElem? (i := 2) rfl)) rfl, ⟨by decide, by decide, by decide +kernel⟩, by decide⟩
set_option maxRecDepth 20000 in
theorem inX6_hasCorner : Cond.instanceMethod (mY (mdX6_hasCorner)) ∈ tblG := tb_in (t2_in (List.mem_of_getElem? (i := 198) rfl)) rfl
set_option maxRecDepth 20000 in
theorem viX6_hasCorner : MVi (mdX6_hasCorner) := ⟨inX6_hasCorner, tb_in (t2_in (List.mem_of_getElem? (i := 199) rfl)) rfl⟩
def mdX6_hasTeller : MD := (yX6_hasTeller, cX6_hasTeller, 2, some .boolean, 0, 0, 0)
set_option maxRecDepth 20000 in
theorem okX6_hasTeller : MOk (mdX6_hasTeller) 1 := ⟨tb_in (t2_in (List.mem_of_getElem? (i := 234) rfl)) rfl, tb_in (t1_in (List.mem_of_getElem? (i := 2) rfl)) rfl, ⟨by decide, by decide, by decide +kernel⟩, by decide⟩
set_option maxRecDepth 20000 in
theorem inX6_hasTeller : Cond.instanceMethod (mY (mdX6_hasTeller)) ∈ tblG := tb_in (t2_in (List.mem_of_getElem? (i := 232) rfl)) rfl
set_option maxRecDepth 20000 in
theorem viX6_hasTeller : MVi (mdX6_hasTeller) := ⟨inX6_hasTeller, tb_in (t2_in (List.mem_of_getElem? (i := 233) rfl)) rfl⟩
def mdX6_hasTelling : MD := (yX6_hasTelling, cX6_hasTelling, 2, some .boolean, 0, 0, 0)
set_option maxRecDepth 20000 in
theorem okX6_hasTelling : MOk (mdX6_hasTelling) 1 := ⟨tb_in (t4_in (List.mem_of_getElem? (i := 141) rfl)) rfl, tb_in (t1_in (List.mem_of_getElem? (i := 2) rfl)) rfl, ⟨by decide, by decide, by decide +kernel⟩, by decide⟩
set_option maxRecDepth 20000 in
theorem inX6_hasTelling : Cond.instanceMethod (mY (mdX6_hasTelling)) ∈ tblG := tb_in (t4_in (List.mem_of_getElem? (i := 139) rfl)) rfl
set_option maxRecDepth 20000 in
theorem viX6_hasTelling : MVi (mdX6_hasTelling) := ⟨inX6_hasTelling, tb_in (t4_in (List.mem_of_getElem? (i := 140) rfl)) rfl⟩
def mdX6_isSet : MD := (yX6_isSet, cX6_isSet, 3, some .boolean, 1, 0, 0)
set_option maxRecDepth 20000 in
theorem okX6_isSet : MOk (mdX6_isSet) 2 := ⟨tb_in (t5_in (List.mem_of_getElem? (i := 58) rfl)) rfl, tb_in (t1_in (List.mem_of_getElem? (i := 2) rfl)) rfl, ⟨by decide, by decide, by decide +kernel⟩, by decide⟩
set_option maxRecDepth 20000 in
theorem inX6_isSet : Cond.instanceMethod (mY (mdX6_isSet)) ∈ tblG := tb_in (t5_in (List.mem_of_getElem? (i := 56) rfl)) rfl
set_option maxRecDepth 20000 in
theorem viX6_isSet : MVi (mdX6_isSet) := ⟨inX6_isSet, tb_in (t5_in (List.mem_of_getElem? (i := 57) rfl)) rfl⟩
def mdX6_sightOf : MD := (yX6_sightOf, cX6_sightOf, 2, some .int, 0, 0, 0)
set_option maxRecDepth 20000 in
theorem okX6_sightOf : MOk (mdX6_sightOf) 1 := ⟨tb_in (t4_in (List.mem_of_getElem? (i := 59) rfl)) rfl, tb_in (t1_in (List.mem_of_getElem? (i := 2) rfl)) rfl, ⟨by decide, by decide, by decide +kernel⟩, by decide⟩
set_option maxRecDepth 20000 in
theorem inX6_sightOf : Cond.instanceMethod (mY (mdX6_sightOf)) ∈ tblG := tb_in (t4_in (List.mem_of_getElem? (i := 57) rfl)) rfl
set_option maxRecDepth 20000 in
theorem viX6_sightOf : MVi (mdX6_sightOf) := ⟨inX6_sightOf, tb_in (t4_in (List.mem_of_getElem? (i := 58) rfl)) rfl⟩
def mdX6_ahead : MD := (yX6_ahead, cX6_ahead, 3, some .int, 0, 0, 0)
set_option maxRecDepth 20000 in
theorem okX6_ahead : MOk (mdX6_ahead) 2 := ⟨tb_in (t4_in (List.mem_of_getElem? (i := 29) rfl)) rfl, tb_in (t1_in (List.mem_of_getElem? (i := 2) rfl)) rfl, ⟨by decide, by decide, by decide +kernel⟩, by decide⟩
set_option maxRecDepth 20000 in
theorem inX6_ahead : Cond.instanceMethod (mY (mdX6_ahead)) ∈ tblG := tb_in (t4_in (List.mem_of_getElem? (i := 27) rfl)) rfl
set_option maxRecDepth 20000 in
theorem viX6_ahead : MVi (mdX6_ahead) := ⟨inX6_ahead, tb_in (t4_in (List.mem_of_getElem? (i := 28) rfl)) rfl⟩
def mdX6_laneAt : MD := (yX6_laneAt, cX6_laneAt, 3, some .int, 0, 0, 0)
set_option maxRecDepth 20000 in
theorem okX6_laneAt : MOk (mdX6_laneAt) 2 := ⟨tb_in (t4_in (List.mem_of_getElem? (i := 54) rfl)) rfl, tb_in (t1_in (List.mem_of_getElem? (i := 2) rfl)) rfl, ⟨by decide, by decide, by decide +kernel⟩, by decide⟩
set_option maxRecDepth 20000 in
theorem inX6_laneAt : Cond.instanceMethod (mY (mdX6_laneAt)) ∈ tblG := tb_in (t4_in (List.mem_of_getElem? (i := 52) rfl)) rfl
set_option maxRecDepth 20000 in
theorem viX6_laneAt : MVi (mdX6_laneAt) := ⟨inX6_laneAt, tb_in (t4_in (List.mem_of_getElem? (i := 53) rfl)) rfl⟩
def mdX6_counts : MD := (yX6_counts, cX6_counts, 5, some .boolean, 0, 0, 0)
set_option maxRecDepth 20000 in
theorem okX6_counts : MOk (mdX6_counts) 3 := ⟨tb_in (t4_in (List.mem_of_getElem? (i := 176) rfl)) rfl, tb_in (t1_in (List.mem_of_getElem? (i := 2) rfl)) rfl, ⟨by decide, by decide, by decide +kernel⟩, by decide⟩
set_option maxRecDepth 20000 in
theorem inX6_counts : Cond.instanceMethod (mY (mdX6_counts)) ∈ tblG := tb_in (t4_in (List.mem_of_getElem? (i := 174) rfl)) rfl
set_option maxRecDepth 20000 in
theorem viX6_counts : MVi (mdX6_counts) := ⟨inX6_counts, tb_in (t4_in (List.mem_of_getElem? (i := 175) rfl)) rfl⟩
def mdX6_hasOther : MD := (yX6_hasOther, cX6_hasOther, 5, some .boolean, 1, 0, 0)
set_option maxRecDepth 20000 in
theorem okX6_hasOther : MOk (mdX6_hasOther) 3 := ⟨tb_in (t5_in (List.mem_of_getElem? (i := 235) rfl)) rfl, tb_in (t1_in (List.mem_of_getElem? (i := 2) rfl)) rfl, ⟨by decide, by decide, by decide +kernel⟩, by decide⟩
set_option maxRecDepth 20000 in
theorem inX6_hasOther : Cond.instanceMethod (mY (mdX6_hasOther)) ∈ tblG := tb_in (t5_in (List.mem_of_getElem? (i := 233) rfl)) rfl
set_option maxRecDepth 20000 in
theorem viX6_hasOther : MVi (mdX6_hasOther) := ⟨inX6_hasOther, tb_in (t5_in (List.mem_of_getElem? (i := 234) rfl)) rfl⟩
def mdX6_tellerCell : MD := (yX6_tellerCell, cX6_tellerCell, 3, some .int, 0, 0, 0)
set_option maxRecDepth 20000 in
theorem okX6_tellerCell : MOk (mdX6_tellerCell) 2 := ⟨tb_in (t4_in (List.mem_of_getElem? (i := 115) rfl)) rfl, tb_in (t1_in (List.mem_of_getElem? (i := 2) rfl)) rfl, ⟨by decide, by decide, by decide +kernel⟩, by decide⟩
set_option maxRecDepth 20000 in
theorem inX6_tellerCell : Cond.instanceMethod (mY (mdX6_tellerCell)) ∈ tblG := tb_in (t4_in (List.mem_of_getElem? (i := 113) rfl)) rfl
set_option maxRecDepth 20000 in
theorem viX6_tellerCell : MVi (mdX6_tellerCell) := ⟨inX6_tellerCell, tb_in (t4_in (List.mem_of_getElem? (i := 114) rfl)) rfl⟩
def mdX6_tellingCell : MD := (yX6_tellingCell, cX6_tellingCell, 3, some .int, 0, 0, 0)
set_option maxRecDepth 20000 in
theorem okX6_tellingCell : MOk (mdX6_tellingCell) 2 := ⟨tb_in (t4_in (List.mem_of_getElem? (i := 153) rfl)) rfl, tb_in (t1_in (List.mem_of_getElem? (i := 2) rfl)) rfl, ⟨by decide, by decide, by decide +kernel⟩, by decide⟩
set_option maxRecDepth 20000 in
theorem inX6_tellingCell : Cond.instanceMethod (mY (mdX6_tellingCell)) ∈ tblG := tb_in (t4_in (List.mem_of_getElem? (i := 151) rfl)) rfl
set_option maxRecDepth 20000 in
theorem viX6_tellingCell : MVi (mdX6_tellingCell) := ⟨inX6_tellingCell, tb_in (t4_in (List.mem_of_getElem? (i := 152) rfl)) rfl⟩
def mdX6_turnOf : MD := (yX6_turnOf, cX6_turnOf, 3, some .int, 1, 0, 0)
set_option maxRecDepth 20000 in
theorem okX6_turnOf : MOk (mdX6_turnOf) 2 := ⟨tb_in (t4_in (List.mem_of_getElem? (i := 157) rfl)) rfl, tb_in (t1_in (List.mem_of_getElem? (i := 2) rfl)) rfl, ⟨by decide, by decide, by decide +kernel⟩, by decide⟩
set_option maxRecDepth 20000 in
theorem inX6_turnOf : Cond.instanceMethod (mY (mdX6_turnOf)) ∈ tblG := tb_in (t4_in (List.mem_of_getElem? (i := 155) rfl)) rfl
set_option maxRecDepth 20000 in
theorem viX6_turnOf : MVi (mdX6_turnOf) := ⟨inX6_turnOf, tb_in (t4_in (List.mem_of_getElem? (i := 156) rfl)) rfl⟩
def mdX6_textOf : MD := (yX6_textOf, cX6_textOf, 2, some (.object "SecondLeft$Text"), 0, 0, 0)
set_option maxRecDepth 20000 in
theorem okX6_textOf : MOk (mdX6_textOf) 1 := ⟨tb_in (t4_in (List.mem_of_getElem? (i := 46) rfl)) rfl, tb_in (t1_in (List.mem_of_getElem? (i := 2) rfl)) rfl, ⟨by decide, by decide, by decide +kernel⟩, by decide⟩
set_option maxRecDepth 20000 in
theorem inX6_textOf : Cond.instanceMethod (mY (mdX6_textOf)) ∈ tblG := tb_in (t4_in (List.mem_of_getElem? (i := 44) rfl)) rfl
set_option maxRecDepth 20000 in
theorem viX6_textOf : MVi (mdX6_textOf) := ⟨inX6_textOf, tb_in (t4_in (List.mem_of_getElem? (i := 45) rfl)) rfl⟩
def mdX6_addCorner : MD := (yX6_addCorner, cX6_addCorner, 2, some .int, 0, 0, 0)
set_option maxRecDepth 20000 in
theorem okX6_addCorner : MOk (mdX6_addCorner) 1 := ⟨tb_in (t2_in (List.mem_of_getElem? (i := 188) rfl)) rfl, tb_in (t1_in (List.mem_of_getElem? (i := 2) rfl)) rfl, ⟨by decide, by decide, by decide +kernel⟩, by decide⟩
set_option maxRecDepth 20000 in
theorem inX6_addCorner : Cond.instanceMethod (mY (mdX6_addCorner)) ∈ tblG := tb_in (t2_in (List.mem_of_getElem? (i := 186) rfl)) rfl
set_option maxRecDepth 20000 in
theorem viX6_addCorner : MVi (mdX6_addCorner) := ⟨inX6_addCorner, tb_in (t2_in (List.mem_of_getElem? (i := 187) rfl)) rfl⟩
def mdX6_addStreet : MD := (yX6_addStreet, cX6_addStreet, 7, some .boolean, 1, 0, 0)
set_option maxRecDepth 20000 in
theorem okX6_addStreet : MOk (mdX6_addStreet) 4 := ⟨tb_in (t2_in (List.mem_of_getElem? (i := 196) rfl)) rfl, tb_in (t1_in (List.mem_of_getElem? (i := 2) rfl)) rfl, ⟨by decide, by decide, by decide +kernel⟩, by decide⟩
set_option maxRecDepth 20000 in
theorem inX6_addStreet : Cond.instanceMethod (mY (mdX6_addStreet)) ∈ tblG := tb_in (t2_in (List.mem_of_getElem? (i := 194) rfl)) rfl
set_option maxRecDepth 20000 in
theorem viX6_addStreet : MVi (mdX6_addStreet) := ⟨inX6_addStreet, tb_in (t2_in (List.mem_of_getElem? (i := 195) rfl)) rfl⟩
def mdX6_setGoal : MD := (yX6_setGoal, cX6_setGoal, 2, some .boolean, 1, 0, 0)
set_option maxRecDepth 20000 in
theorem okX6_setGoal : MOk (mdX6_setGoal) 1 := ⟨tb_in (t2_in (List.mem_of_getElem? (i := 211) rfl)) rfl, tb_in (t1_in (List.mem_of_getElem? (i := 2) rfl)) rfl, ⟨by decide, by decide, by decide +kernel⟩, by decide⟩
set_option maxRecDepth 20000 in
theorem inX6_setGoal : Cond.instanceMethod (mY (mdX6_setGoal)) ∈ tblG := tb_in (t2_in (List.mem_of_getElem? (i := 209) rfl)) rfl
set_option maxRecDepth 20000 in
theorem viX6_setGoal : MVi (mdX6_setGoal) := ⟨inX6_setGoal, tb_in (t2_in (List.mem_of_getElem? (i := 210) rfl)) rfl⟩
def mdX6_addTeller : MD := (yX6_addTeller, cX6_addTeller, 6, some .int, 1, 0, 0)
set_option maxRecDepth 20000 in
theorem okX6_addTeller : MOk (mdX6_addTeller) 4 := ⟨tb_in (t2_in (List.mem_of_getElem? (i := 219) rfl)) rfl, tb_in (t1_in (List.mem_of_getElem? (i := 2) rfl)) rfl, ⟨by decide, by decide, by decide +kernel⟩, by decide⟩
set_option maxRecDepth 20000 in
theorem inX6_addTeller : Cond.instanceMethod (mY (mdX6_addTeller)) ∈ tblG := tb_in (t2_in (List.mem_of_getElem? (i := 217) rfl)) rfl
set_option maxRecDepth 20000 in
theorem viX6_addTeller : MVi (mdX6_addTeller) := ⟨inX6_addTeller, tb_in (t2_in (List.mem_of_getElem? (i := 218) rfl)) rfl⟩
def mdX6_addTelling : MD := (yX6_addTelling, cX6_addTelling, 8, some .int, 2, 0, 0)
set_option maxRecDepth 20000 in
theorem okX6_addTelling : MOk (mdX6_addTelling) 4 := ⟨tb_in (t2_in (List.mem_of_getElem? (i := 230) rfl)) rfl, tb_in (t1_in (List.mem_of_getElem? (i := 2) rfl)) rfl, ⟨by decide, by decide, by decide +kernel⟩, by decide⟩
set_option maxRecDepth 20000 in
theorem inX6_addTelling : Cond.instanceMethod (mY (mdX6_addTelling)) ∈ tblG := tb_in (t2_in (List.mem_of_getElem? (i := 228) rfl)) rfl
set_option maxRecDepth 20000 in
theorem viX6_addTelling : MVi (mdX6_addTelling) := ⟨inX6_addTelling, tb_in (t2_in (List.mem_of_getElem? (i := 229) rfl)) rfl⟩
def mdX6_putTurns : MD := (yX6_putTurns, cX6_putTurns, 6, some .int, 1, 0, 0)
set_option maxRecDepth 20000 in
theorem okX6_putTurns : MOk (mdX6_putTurns) 2 := ⟨tb_in (t2_in (List.mem_of_getElem? (i := 238) rfl)) rfl, tb_in (t1_in (List.mem_of_getElem? (i := 2) rfl)) rfl, ⟨by decide, by decide, by decide +kernel⟩, by decide⟩
set_option maxRecDepth 20000 in
theorem inX6_putTurns : Cond.instanceMethod (mY (mdX6_putTurns)) ∈ tblG := tb_in (t2_in (List.mem_of_getElem? (i := 237) rfl)) rfl
set_option maxRecDepth 20000 in
theorem viX6_putTurns : MVi (mdX6_putTurns) := ⟨inX6_putTurns, tp_in (List.mem_of_getElem? (i := 0) rfl) rfl⟩
def mdX6_isTurn : MD := (yX6_isTurn, cX6_isTurn, 4, some .boolean, 0, 0, 0)
set_option maxRecDepth 20000 in
theorem okX6_isTurn : MOk (mdX6_isTurn) 1 := ⟨tb_in (t3_in (List.mem_of_getElem? (i := 3) rfl)) rfl, tb_in (t1_in (List.mem_of_getElem? (i := 2) rfl)) rfl, ⟨by decide, by decide, by decide +kernel⟩, by decide⟩
set_option maxRecDepth 20000 in
theorem stX6_isTurn : MSt (mdX6_isTurn) := tb_in (t3_in (List.mem_of_getElem? (i := 2) rfl)) rfl
def mdX6_addText : MD := (yX6_addText, cX6_addText, 2, some .int, 0, 0, 0)
set_option maxRecDepth 20000 in
theorem okX6_addText : MOk (mdX6_addText) 1 := ⟨tb_in (t3_in (List.mem_of_getElem? (i := 229) rfl)) rfl, tb_in (t1_in (List.mem_of_getElem? (i := 2) rfl)) rfl, ⟨by decide, by decide, by decide +kernel⟩, by decide⟩
set_option maxRecDepth 20000 in
theorem inX6_addText : Cond.instanceMethod (mY (mdX6_addText)) ∈ tblG := tb_in (t3_in (List.mem_of_getElem? (i := 227) rfl)) rfl
set_option maxRecDepth 20000 in
theorem viX6_addText : MVi (mdX6_addText) := ⟨inX6_addText, tb_in (t3_in (List.mem_of_getElem? (i := 228) rfl)) rfl⟩
def mdX7_init : MD := (yX7_init, cX7_init, 5, none, 0, 5, 335)
set_option maxRecDepth 20000 in
theorem okX7_init : MOk (mdX7_init) 4 := ⟨tb_in (t2_in (List.mem_of_getElem? (i := 45) rfl)) rfl, tb_in (t1_in (List.mem_of_getElem? (i := 10) rfl)) rfl, ⟨by decide, by decide, by decide +kernel⟩, by decide⟩
set_option maxRecDepth 20000 in
theorem inX7_init : Cond.instanceMethod (mY (mdX7_init)) ∈ tblG := tb_in (t2_in (List.mem_of_getElem? (i := 44) rfl)) rfl
def mdX7_setPaces : MD := (yX7_setPaces, cX7_setPaces, 2, none, 4, 0, 0)
set_option maxRecDepth 20000 in
theorem okX7_setPaces : MOk (mdX7_setPaces) 0 := ⟨tb_in (t5_in (List.mem_of_getElem? (i := 105) rfl)) rfl, tb_in (t1_in (List.mem_of_getElem? (i := 10) rfl)) rfl, ⟨by decide, by decide, by decide +kernel⟩, by decide⟩
set_option maxRecDepth 20000 in
theorem inX7_setPaces : Cond.instanceMethod (mY (mdX7_setPaces)) ∈ tblG := tb_in (t5_in (List.mem_of_getElem? (i := 103) rfl)) rfl
set_option maxRecDepth 20000 in
theorem viX7_setPaces : MVi (mdX7_setPaces) := ⟨inX7_setPaces, tb_in (t5_in (List.mem_of_getElem? (i := 104) rfl)) rfl⟩
def mdX7_secondsTo : MD := (yX7_secondsTo, cX7_secondsTo, 3, some .int, 1, 0, 0)
set_option maxRecDepth 20000 in
theorem okX7_secondsTo : MOk (mdX7_secondsTo) 2 := ⟨tb_in (t5_in (List.mem_of_getElem? (i := 120) rfl)) rfl, tb_in (t1_in (List.mem_of_getElem? (i := 10) rfl)) rfl, ⟨by decide, by decide, by decide +kernel⟩, by decide⟩
set_option maxRecDepth 20000 in
theorem inX7_secondsTo : Cond.instanceMethod (mY (mdX7_secondsTo)) ∈ tblG := tb_in (t5_in (List.mem_of_getElem? (i := 118) rfl)) rfl
set_option maxRecDepth 20000 in
theorem viX7_secondsTo : MVi (mdX7_secondsTo) := ⟨inX7_secondsTo, tb_in (t5_in (List.mem_of_getElem? (i := 119) rfl)) rfl⟩
def mdX7_measure : MD := (yX7_measure, cX7_measure, 5, none, 3, 0, 0)
set_option maxRecDepth 20000 in
theorem okX7_measure : MOk (mdX7_measure) 1 := ⟨tb_in (t5_in (List.mem_of_getElem? (i := 111) rfl)) rfl, tb_in (t1_in (List.mem_of_getElem? (i := 10) rfl)) rfl, ⟨by decide, by decide, by decide +kernel⟩, by decide⟩
set_option maxRecDepth 20000 in
theorem inX7_measure : Cond.instanceMethod (mY (mdX7_measure)) ∈ tblG := tb_in (t5_in (List.mem_of_getElem? (i := 109) rfl)) rfl
set_option maxRecDepth 20000 in
theorem viX7_measure : MVi (mdX7_measure) := ⟨inX7_measure, tb_in (t5_in (List.mem_of_getElem? (i := 110) rfl)) rfl⟩
def mdX7_nearest : MD := (yX7_nearest, cX7_nearest, 6, some .int, 2, 0, 0)
set_option maxRecDepth 20000 in
theorem okX7_nearest : MOk (mdX7_nearest) 2 := ⟨tb_in (t5_in (List.mem_of_getElem? (i := 116) rfl)) rfl, tb_in (t1_in (List.mem_of_getElem? (i := 10) rfl)) rfl, ⟨by decide, by decide, by decide +kernel⟩, by decide⟩
set_option maxRecDepth 20000 in
theorem inX7_nearest : Cond.instanceMethod (mY (mdX7_nearest)) ∈ tblG := tb_in (t5_in (List.mem_of_getElem? (i := 115) rfl)) rfl
set_option maxRecDepth 20000 in
theorem viX7_nearest : MVi (mdX7_nearest) := ⟨inX7_nearest, tp_in (List.mem_of_getElem? (i := 37) rfl) rfl⟩
def mdX7_lookAround : MD := (yX7_lookAround, cX7_lookAround, 7, none, 2, 0, 0)
set_option maxRecDepth 20000 in
theorem okX7_lookAround : MOk (mdX7_lookAround) 2 := ⟨tb_in (t5_in (List.mem_of_getElem? (i := 124) rfl)) rfl, tb_in (t1_in (List.mem_of_getElem? (i := 10) rfl)) rfl, ⟨by decide, by decide, by decide +kernel⟩, by decide⟩
set_option maxRecDepth 20000 in
theorem inX7_lookAround : Cond.instanceMethod (mY (mdX7_lookAround)) ∈ tblG := tb_in (t5_in (List.mem_of_getElem? (i := 123) rfl)) rfl
set_option maxRecDepth 20000 in
theorem viX7_lookAround : MVi (mdX7_lookAround) := ⟨inX7_lookAround, tp_in (List.mem_of_getElem? (i := 38) rfl) rfl⟩
def mdX7_plan : MD := (yX7_plan, cX7_plan, 4, some .boolean, 21, 0, 0)
set_option maxRecDepth 20000 in
theorem okX7_plan : MOk (mdX7_plan) 1 := ⟨tb_in (t5_in (List.mem_of_getElem? (i := 133) rfl)) rfl, tb_in (t1_in (List.mem_of_getElem? (i := 10) rfl)) rfl, ⟨by decide, by decide, by decide +kernel⟩, by decide⟩
set_option maxRecDepth 20000 in
theorem inX7_plan : Cond.instanceMethod (mY (mdX7_plan)) ∈ tblG := tb_in (t5_in (List.mem_of_getElem? (i := 131) rfl)) rfl
set_option maxRecDepth 20000 in
theorem viX7_plan : MVi (mdX7_plan) := ⟨inX7_plan, tb_in (t5_in (List.mem_of_getElem? (i := 132) rfl)) rfl⟩
def mdX7_listPlaces : MD := (yX7_listPlaces, cX7_listPlaces, 2, some .boolean, 0, 0, 0)
set_option maxRecDepth 20000 in
theorem okX7_listPlaces : MOk (mdX7_listPlaces) 0 := ⟨tb_in (t5_in (List.mem_of_getElem? (i := 138) rfl)) rfl, tb_in (t1_in (List.mem_of_getElem? (i := 10) rfl)) rfl, ⟨by decide, by decide, by decide +kernel⟩, by decide⟩
set_option maxRecDepth 20000 in
theorem inX7_listPlaces : Cond.instanceMethod (mY (mdX7_listPlaces)) ∈ tblG := tb_in (t5_in (List.mem_of_getElem? (i := 137) rfl)) rfl
set_option maxRecDepth 20000 in
theorem viX7_listPlaces : MVi (mdX7_listPlaces) := ⟨inX7_listPlaces, tp_in (List.mem_of_getElem? (i := 39) rfl) rfl⟩
def mdX7_tryOrders (v : Nat) : MD := (yX7_tryOrders, cX7_tryOrders, 12, none, v, 0, 0)
set_option maxRecDepth 20000 in
theorem okX7_tryOrders (v : Nat) : MOk (mdX7_tryOrders v) 5 := ⟨tb_in (t5_in (List.mem_of_getElem? (i := 145) rfl)) rfl, tb_in (t1_in (List.mem_of_getElem? (i := 10) rfl)) rfl, ⟨by show yX7_tryOrders.cls ≠ "java/lang/invoke/MethodHandle"; decide, by show yX7_tryOrders.cls ≠ "java/lang/invoke/VarHandle"; decide, by show (parseMethodDescriptor yX7_tryOrders.desc).map (fun d => d.parameters.length) = some 5; decide +kernel⟩, by show 12 ≤ 45; decide⟩
set_option maxRecDepth 20000 in
theorem inX7_tryOrders (v : Nat) : Cond.instanceMethod (mY (mdX7_tryOrders v)) ∈ tblG := tb_in (t5_in (List.mem_of_getElem? (i := 144) rfl)) rfl
set_option maxRecDepth 20000 in
theorem viX7_tryOrders (v : Nat) : MVi (mdX7_tryOrders v) := ⟨inX7_tryOrders v, tp_in (List.mem_of_getElem? (i := 40) rfl) rfl⟩
def mdX7_soonestTeller : MD := (yX7_soonestTeller, cX7_soonestTeller, 8, some .int, 5, 0, 0)
set_option maxRecDepth 20000 in
theorem okX7_soonestTeller : MOk (mdX7_soonestTeller) 0 := ⟨tb_in (t5_in (List.mem_of_getElem? (i := 154) rfl)) rfl, tb_in (t1_in (List.mem_of_getElem? (i := 10) rfl)) rfl, ⟨by decide, by decide, by decide +kernel⟩, by decide⟩
set_option maxRecDepth 20000 in
theorem inX7_soonestTeller : Cond.instanceMethod (mY (mdX7_soonestTeller)) ∈ tblG := tb_in (t5_in (List.mem_of_getElem? (i := 152) rfl)) rfl
set_option maxRecDepth 20000 in
theorem viX7_soonestTeller : MVi (mdX7_soonestTeller) := ⟨inX7_soonestTeller, tb_in (t5_in (List.mem_of_getElem? (i := 153) rfl)) rfl⟩
def mdX7_sumFrom : MD := (yX7_sumFrom, cX7_sumFrom, 5, some .long, 4, 0, 0)
set_option maxRecDepth 20000 in
theorem okX7_sumFrom : MOk (mdX7_sumFrom) 1 := ⟨tb_in (t5_in (List.mem_of_getElem? (i := 160) rfl)) rfl, tb_in (t1_in (List.mem_of_getElem? (i := 10) rfl)) rfl, ⟨by decide, by decide, by decide +kernel⟩, by decide⟩
set_option maxRecDepth 20000 in
theorem inX7_sumFrom : Cond.instanceMethod (mY (mdX7_sumFrom)) ∈ tblG := tb_in (t5_in (List.mem_of_getElem? (i := 159) rfl)) rfl
set_option maxRecDepth 20000 in
theorem viX7_sumFrom : MVi (mdX7_sumFrom) := ⟨inX7_sumFrom, tp_in (List.mem_of_getElem? (i := 41) rfl) rfl⟩
def mdX8_init : MD := (yX8_init, cX8_init, 1, none, 0, 2, 310)
set_option maxRecDepth 20000 in
theorem okX8_init : MOk (mdX8_init) 0 := ⟨tb_in (t1_in (List.mem_of_getElem? (i := 99) rfl)) rfl, tb_in (t1_in (List.mem_of_getElem? (i := 4) rfl)) rfl, ⟨by decide, by decide, by decide +kernel⟩, by decide⟩
set_option maxRecDepth 20000 in
theorem inX8_init : Cond.instanceMethod (mY (mdX8_init)) ∈ tblG := tb_in (t1_in (List.mem_of_getElem? (i := 98) rfl)) rfl
def mdX8_copyFrom : MD := (yX8_copyFrom, cX8_copyFrom, 2, none, 0, 0, 0)
set_option maxRecDepth 20000 in
theorem okX8_copyFrom : MOk (mdX8_copyFrom) 1 := ⟨tb_in (t6_in (List.mem_of_getElem? (i := 63) rfl)) rfl, tb_in (t1_in (List.mem_of_getElem? (i := 4) rfl)) rfl, ⟨by decide, by decide, by decide +kernel⟩, by decide⟩
set_option maxRecDepth 20000 in
theorem inX8_copyFrom : Cond.instanceMethod (mY (mdX8_copyFrom)) ∈ tblG := tb_in (t6_in (List.mem_of_getElem? (i := 61) rfl)) rfl
set_option maxRecDepth 20000 in
theorem viX8_copyFrom : MVi (mdX8_copyFrom) := ⟨inX8_copyFrom, tb_in (t6_in (List.mem_of_getElem? (i := 62) rfl)) rfl⟩
def mdX8_keepStep : MD := (yX8_keepStep, cX8_keepStep, 1, none, 1, 0, 0)
set_option maxRecDepth 20000 in
theorem okX8_keepStep : MOk (mdX8_keepStep) 0 := ⟨tb_in (t4_in (List.mem_of_getElem? (i := 11) rfl)) rfl, tb_in (t1_in (List.mem_of_getElem? (i := 4) rfl)) rfl, ⟨by decide, by decide, by decide +kernel⟩, by decide⟩
set_option maxRecDepth 20000 in
theorem inX8_keepStep : Cond.instanceMethod (mY (mdX8_keepStep)) ∈ tblG := tb_in (t4_in (List.mem_of_getElem? (i := 9) rfl)) rfl
set_option maxRecDepth 20000 in
theorem viX8_keepStep : MVi (mdX8_keepStep) := ⟨inX8_keepStep, tb_in (t4_in (List.mem_of_getElem? (i := 10) rfl)) rfl⟩
def mdX8_takeBack : MD := (yX8_takeBack, cX8_takeBack, 1, some .int, 0, 0, 0)
set_option maxRecDepth 20000 in
theorem okX8_takeBack : MOk (mdX8_takeBack) 0 := ⟨tb_in (t4_in (List.mem_of_getElem? (i := 226) rfl)) rfl, tb_in (t1_in (List.mem_of_getElem? (i := 4) rfl)) rfl, ⟨by decide, by decide, by decide +kernel⟩, by decide⟩
set_option maxRecDepth 20000 in
theorem inX8_takeBack : Cond.instanceMethod (mY (mdX8_takeBack)) ∈ tblG := tb_in (t4_in (List.mem_of_getElem? (i := 224) rfl)) rfl
set_option maxRecDepth 20000 in
theorem viX8_takeBack : MVi (mdX8_takeBack) := ⟨inX8_takeBack, tb_in (t4_in (List.mem_of_getElem? (i := 225) rfl)) rfl⟩
def mdX9_init : MD := (yX9_init, cX9_init, 5, none, 0, 0, 0)
set_option maxRecDepth 20000 in
theorem okX9_init : MOk (mdX9_init) 4 := ⟨tb_in (t1_in (List.mem_of_getElem? (i := 229) rfl)) rfl, tb_in (t1_in (List.mem_of_getElem? (i := 8) rfl)) rfl, ⟨by decide, by decide, by decide +kernel⟩, by decide⟩
set_option maxRecDepth 20000 in
theorem inX9_init : Cond.instanceMethod (mY (mdX9_init)) ∈ tblG := tb_in (t1_in (List.mem_of_getElem? (i := 228) rfl)) rfl
def mdX9_isThere : MD := (yX9_isThere, cX9_isThere, 1, some .boolean, 0, 0, 0)
set_option maxRecDepth 20000 in
theorem okX9_isThere : MOk (mdX9_isThere) 0 := ⟨tb_in (t4_in (List.mem_of_getElem? (i := 95) rfl)) rfl, tb_in (t1_in (List.mem_of_getElem? (i := 8) rfl)) rfl, ⟨by decide, by decide, by decide +kernel⟩, by decide⟩
set_option maxRecDepth 20000 in
theorem inX9_isThere : Cond.instanceMethod (mY (mdX9_isThere)) ∈ tblG := tb_in (t4_in (List.mem_of_getElem? (i := 94) rfl)) rfl
set_option maxRecDepth 20000 in
theorem viX9_isThere : MVi (mdX9_isThere) := ⟨inX9_isThere, tp_in (List.mem_of_getElem? (i := 29) rfl) rfl⟩
def mdX9_begins : MD := (yX9_begins, cX9_begins, 3, some .boolean, 2, 0, 0)
set_option maxRecDepth 20000 in
theorem okX9_begins : MOk (mdX9_begins) 2 := ⟨tb_in (t4_in (List.mem_of_getElem? (i := 5) rfl)) rfl, tb_in (t1_in (List.mem_of_getElem? (i := 8) rfl)) rfl, ⟨by decide, by decide, by decide +kernel⟩, by decide⟩
set_option maxRecDepth 20000 in
theorem inX9_begins : Cond.instanceMethod (mY (mdX9_begins)) ∈ tblG := tb_in (t4_in (List.mem_of_getElem? (i := 3) rfl)) rfl
set_option maxRecDepth 20000 in
theorem viX9_begins : MVi (mdX9_begins) := ⟨inX9_begins, tb_in (t4_in (List.mem_of_getElem? (i := 4) rfl)) rfl⟩
def mdX9_place : MD := (yX9_place, cX9_place, 4, none, 0, 0, 0)
set_option maxRecDepth 20000 in
theorem okX9_place : MOk (mdX9_place) 3 := ⟨tb_in (t4_in (List.mem_of_getElem? (i := 17) rfl)) rfl, tb_in (t1_in (List.mem_of_getElem? (i := 8) rfl)) rfl, ⟨by decide, by decide, by decide +kernel⟩, by decide⟩
set_option maxRecDepth 20000 in
theorem inX9_place : Cond.instanceMethod (mY (mdX9_place)) ∈ tblG := tb_in (t4_in (List.mem_of_getElem? (i := 16) rfl)) rfl
set_option maxRecDepth 20000 in
theorem viX9_place : MVi (mdX9_place) := ⟨inX9_place, tp_in (List.mem_of_getElem? (i := 27) rfl) rfl⟩
def mdX9_canGo : MD := (yX9_canGo, cX9_canGo, 4, some .boolean, 1, 0, 0)
set_option maxRecDepth 20000 in
theorem okX9_canGo : MOk (mdX9_canGo) 1 := ⟨tb_in (t4_in (List.mem_of_getElem? (i := 25) rfl)) rfl, tb_in (t1_in (List.mem_of_getElem? (i := 8) rfl)) rfl, ⟨by decide, by decide, by decide +kernel⟩, by decide⟩
set_option maxRecDepth 20000 in
theorem inX9_canGo : Cond.instanceMethod (mY (mdX9_canGo)) ∈ tblG := tb_in (t4_in (List.mem_of_getElem? (i := 23) rfl)) rfl
set_option maxRecDepth 20000 in
theorem viX9_canGo : MVi (mdX9_canGo) := ⟨inX9_canGo, tb_in (t4_in (List.mem_of_getElem? (i := 24) rfl)) rfl⟩
def mdX9_goes : MD := (yX9_goes, cX9_goes, 3, some .boolean, 5, 0, 0)
set_option maxRecDepth 20000 in
theorem okX9_goes : MOk (mdX9_goes) 1 := ⟨tb_in (t4_in (List.mem_of_getElem? (i := 33) rfl)) rfl, tb_in (t1_in (List.mem_of_getElem? (i := 8) rfl)) rfl, ⟨by decide, by decide, by decide +kernel⟩, by decide⟩
set_option maxRecDepth 20000 in
theorem inX9_goes : Cond.instanceMethod (mY (mdX9_goes)) ∈ tblG := tb_in (t4_in (List.mem_of_getElem? (i := 31) rfl)) rfl
set_option maxRecDepth 20000 in
theorem viX9_goes : MVi (mdX9_goes) := ⟨inX9_goes, tb_in (t4_in (List.mem_of_getElem? (i := 32) rfl)) rfl⟩
def mdX9_goAhead : MD := (yX9_goAhead, cX9_goAhead, 3, none, 4, 0, 0)
set_option maxRecDepth 20000 in
theorem okX9_goAhead : MOk (mdX9_goAhead) 0 := ⟨tb_in (t4_in (List.mem_of_getElem? (i := 38) rfl)) rfl, tb_in (t1_in (List.mem_of_getElem? (i := 8) rfl)) rfl, ⟨by decide, by decide, by decide +kernel⟩, by decide⟩
set_option maxRecDepth 20000 in
theorem inX9_goAhead : Cond.instanceMethod (mY (mdX9_goAhead)) ∈ tblG := tb_in (t4_in (List.mem_of_getElem? (i := 37) rfl)) rfl
set_option maxRecDepth 20000 in
theorem viX9_goAhead : MVi (mdX9_goAhead) := ⟨inX9_goAhead, tp_in (List.mem_of_getElem? (i := 28) rfl) rfl⟩
def mdX9_turns : MD := (yX9_turns, cX9_turns, 2, some .int, 2, 0, 0)
set_option maxRecDepth 20000 in
theorem okX9_turns : MOk (mdX9_turns) 1 := ⟨tb_in (t4_in (List.mem_of_getElem? (i := 91) rfl)) rfl, tb_in (t1_in (List.mem_of_getElem? (i := 8) rfl)) rfl, ⟨by decide, by decide, by decide +kernel⟩, by decide⟩
set_option maxRecDepth 20000 in
theorem inX9_turns : Cond.instanceMethod (mY (mdX9_turns)) ∈ tblG := tb_in (t4_in (List.mem_of_getElem? (i := 89) rfl)) rfl
set_option maxRecDepth 20000 in
theorem viX9_turns : MVi (mdX9_turns) := ⟨inX9_turns, tb_in (t4_in (List.mem_of_getElem? (i := 90) rfl)) rfl⟩
def mdX9_faceTo : MD := (yX9_faceTo, cX9_faceTo, 3, none, 1, 0, 0)
set_option maxRecDepth 20000 in
theorem okX9_faceTo : MOk (mdX9_faceTo) 1 := ⟨tb_in (t4_in (List.mem_of_getElem? (i := 99) rfl)) rfl, tb_in (t1_in (List.mem_of_getElem? (i := 8) rfl)) rfl, ⟨by decide, by decide, by decide +kernel⟩, by decide⟩
set_option maxRecDepth 20000 in
theorem inX9_faceTo : Cond.instanceMethod (mY (mdX9_faceTo)) ∈ tblG := tb_in (t4_in (List.mem_of_getElem? (i := 98) rfl)) rfl
set_option maxRecDepth 20000 in
theorem viX9_faceTo : MVi (mdX9_faceTo) := ⟨inX9_faceTo, tp_in (List.mem_of_getElem? (i := 30) rfl) rfl⟩
def mdX9_asks : MD := (yX9_asks, cX9_asks, 2, some .int, 5, 0, 0)
set_option maxRecDepth 20000 in
theorem okX9_asks : MOk (mdX9_asks) 1 := ⟨tb_in (t4_in (List.mem_of_getElem? (i := 110) rfl)) rfl, tb_in (t1_in (List.mem_of_getElem? (i := 8) rfl)) rfl, ⟨by decide, by decide, by decide +kernel⟩, by decide⟩
set_option maxRecDepth 20000 in
theorem inX9_asks : Cond.instanceMethod (mY (mdX9_asks)) ∈ tblG := tb_in (t4_in (List.mem_of_getElem? (i := 108) rfl)) rfl
set_option maxRecDepth 20000 in
theorem viX9_asks : MVi (mdX9_asks) := ⟨inX9_asks, tb_in (t4_in (List.mem_of_getElem? (i := 109) rfl)) rfl⟩
def mdX9_hear : MD := (yX9_hear, cX9_hear, 2, none, 4, 0, 0)
set_option maxRecDepth 20000 in
theorem okX9_hear : MOk (mdX9_hear) 1 := ⟨tb_in (t4_in (List.mem_of_getElem? (i := 119) rfl)) rfl, tb_in (t1_in (List.mem_of_getElem? (i := 8) rfl)) rfl, ⟨by decide, by decide, by decide +kernel⟩, by decide⟩
set_option maxRecDepth 20000 in
theorem inX9_hear : Cond.instanceMethod (mY (mdX9_hear)) ∈ tblG := tb_in (t4_in (List.mem_of_getElem? (i := 118) rfl)) rfl
set_option maxRecDepth 20000 in
theorem viX9_hear : MVi (mdX9_hear) := ⟨inX9_hear, tp_in (List.mem_of_getElem? (i := 31) rfl) rfl⟩
def mdX9_follows : MD := (yX9_follows, cX9_follows, 5, some .int, 4, 0, 0)
set_option maxRecDepth 20000 in
theorem okX9_follows : MOk (mdX9_follows) 1 := ⟨tb_in (t4_in (List.mem_of_getElem? (i := 137) rfl)) rfl, tb_in (t1_in (List.mem_of_getElem? (i := 8) rfl)) rfl, ⟨by decide, by decide, by decide +kernel⟩, by decide⟩
set_option maxRecDepth 20000 in
theorem inX9_follows : Cond.instanceMethod (mY (mdX9_follows)) ∈ tblG := tb_in (t4_in (List.mem_of_getElem? (i := 135) rfl)) rfl
set_option maxRecDepth 20000 in
theorem viX9_follows : MVi (mdX9_follows) := ⟨inX9_follows, tb_in (t4_in (List.mem_of_getElem? (i := 136) rfl)) rfl⟩
def mdX9_spendsDay : MD := (yX9_spendsDay, cX9_spendsDay, 5, some .int, 7, 0, 0)
set_option maxRecDepth 20000 in
theorem okX9_spendsDay : MOk (mdX9_spendsDay) 2 := ⟨tb_in (t4_in (List.mem_of_getElem? (i := 207) rfl)) rfl, tb_in (t1_in (List.mem_of_getElem? (i := 8) rfl)) rfl, ⟨by decide, by decide, by decide +kernel⟩, by decide⟩
set_option maxRecDepth 20000 in
theorem inX9_spendsDay : Cond.instanceMethod (mY (mdX9_spendsDay)) ∈ tblG := tb_in (t4_in (List.mem_of_getElem? (i := 205) rfl)) rfl
set_option maxRecDepth 20000 in
theorem viX9_spendsDay : MVi (mdX9_spendsDay) := ⟨inX9_spendsDay, tb_in (t4_in (List.mem_of_getElem? (i := 206) rfl)) rfl⟩
def mdX9_anew : MD := (yX9_anew, cX9_anew, 1, some .int, 0, 0, 0)
set_option maxRecDepth 20000 in
theorem okX9_anew : MOk (mdX9_anew) 1 := ⟨tb_in (t4_in (List.mem_of_getElem? (i := 210) rfl)) rfl, tb_in (t1_in (List.mem_of_getElem? (i := 8) rfl)) rfl, ⟨by decide, by decide, by decide +kernel⟩, by decide⟩
set_option maxRecDepth 20000 in
theorem stX9_anew : MSt (mdX9_anew) := tb_in (t4_in (List.mem_of_getElem? (i := 209) rfl)) rfl
def mdX9_drawn : MD := (yX9_drawn, cX9_drawn, 2, none, 6, 0, 0)
set_option maxRecDepth 20000 in
theorem okX9_drawn : MOk (mdX9_drawn) 1 := ⟨tb_in (t4_in (List.mem_of_getElem? (i := 214) rfl)) rfl, tb_in (t1_in (List.mem_of_getElem? (i := 8) rfl)) rfl, ⟨by decide, by decide, by decide +kernel⟩, by decide⟩
set_option maxRecDepth 20000 in
theorem inX9_drawn : Cond.instanceMethod (mY (mdX9_drawn)) ∈ tblG := tb_in (t4_in (List.mem_of_getElem? (i := 213) rfl)) rfl
set_option maxRecDepth 20000 in
theorem viX9_drawn : MVi (mdX9_drawn) := ⟨inX9_drawn, tp_in (List.mem_of_getElem? (i := 34) rfl) rfl⟩
def mdX9_hearLowest : MD := (yX9_hearLowest, cX9_hearLowest, 2, none, 5, 0, 0)
set_option maxRecDepth 20000 in
theorem okX9_hearLowest : MOk (mdX9_hearLowest) 0 := ⟨tb_in (t4_in (List.mem_of_getElem? (i := 218) rfl)) rfl, tb_in (t1_in (List.mem_of_getElem? (i := 8) rfl)) rfl, ⟨by decide, by decide, by decide +kernel⟩, by decide⟩
set_option maxRecDepth 20000 in
theorem inX9_hearLowest : Cond.instanceMethod (mY (mdX9_hearLowest)) ∈ tblG := tb_in (t4_in (List.mem_of_getElem? (i := 217) rfl)) rfl
set_option maxRecDepth 20000 in
theorem viX9_hearLowest : MVi (mdX9_hearLowest) := ⟨inX9_hearLowest, tp_in (List.mem_of_getElem? (i := 35) rfl) rfl⟩
def mdX9_plays : MD := (yX9_plays, cX9_plays, 3, some .int, 7, 0, 0)
set_option maxRecDepth 20000 in
theorem okX9_plays : MOk (mdX9_plays) 1 := ⟨tb_in (t4_in (List.mem_of_getElem? (i := 185) rfl)) rfl, tb_in (t1_in (List.mem_of_getElem? (i := 8) rfl)) rfl, ⟨by decide, by decide, by decide +kernel⟩, by decide⟩
set_option maxRecDepth 20000 in
theorem inX9_plays : Cond.instanceMethod (mY (mdX9_plays)) ∈ tblG := tb_in (t4_in (List.mem_of_getElem? (i := 183) rfl)) rfl
set_option maxRecDepth 20000 in
theorem viX9_plays : MVi (mdX9_plays) := ⟨inX9_plays, tb_in (t4_in (List.mem_of_getElem? (i := 184) rfl)) rfl⟩
def mdX9_does : MD := (yX9_does, cX9_does, 7, some .boolean, 6, 0, 0)
set_option maxRecDepth 20000 in
theorem okX9_does : MOk (mdX9_does) 2 := ⟨tb_in (t4_in (List.mem_of_getElem? (i := 189) rfl)) rfl, tb_in (t1_in (List.mem_of_getElem? (i := 8) rfl)) rfl, ⟨by decide, by decide, by decide +kernel⟩, by decide⟩
set_option maxRecDepth 20000 in
theorem inX9_does : Cond.instanceMethod (mY (mdX9_does)) ∈ tblG := tb_in (t4_in (List.mem_of_getElem? (i := 188) rfl)) rfl
set_option maxRecDepth 20000 in
theorem viX9_does : MVi (mdX9_does) := ⟨inX9_does, tp_in (List.mem_of_getElem? (i := 33) rfl) rfl⟩
def mdX10_init : MD := (yX10_init, cX10_init, 4, none, 0, 4, 40)
set_option maxRecDepth 20000 in
theorem okX10_init : MOk (mdX10_init) 3 := ⟨tb_in (t2_in (List.mem_of_getElem? (i := 8) rfl)) rfl, tb_in (t1_in (List.mem_of_getElem? (i := 9) rfl)) rfl, ⟨by decide, by decide, by decide +kernel⟩, by decide⟩
set_option maxRecDepth 20000 in
theorem inX10_init : Cond.instanceMethod (mY (mdX10_init)) ∈ tblG := tb_in (t2_in (List.mem_of_getElem? (i := 7) rfl)) rfl
def mdX10_setWeights : MD := (yX10_setWeights, cX10_setWeights, 6, none, 4, 0, 0)
set_option maxRecDepth 20000 in
theorem okX10_setWeights : MOk (mdX10_setWeights) 1 := ⟨tb_in (t5_in (List.mem_of_getElem? (i := 43) rfl)) rfl, tb_in (t1_in (List.mem_of_getElem? (i := 9) rfl)) rfl, ⟨by decide, by decide, by decide +kernel⟩, by decide⟩
set_option maxRecDepth 20000 in
theorem inX10_setWeights : Cond.instanceMethod (mY (mdX10_setWeights)) ∈ tblG := tb_in (t5_in (List.mem_of_getElem? (i := 42) rfl)) rfl
set_option maxRecDepth 20000 in
theorem viX10_setWeights : MVi (mdX10_setWeights) := ⟨inX10_setWeights, tp_in (List.mem_of_getElem? (i := 36) rfl) rfl⟩
def mdX10_weigh : MD := (yX10_weigh, cX10_weigh, 3, none, 5, 0, 0)
set_option maxRecDepth 20000 in
theorem okX10_weigh : MOk (mdX10_weigh) 1 := ⟨tb_in (t5_in (List.mem_of_getElem? (i := 39) rfl)) rfl, tb_in (t1_in (List.mem_of_getElem? (i := 9) rfl)) rfl, ⟨by decide, by decide, by decide +kernel⟩, by decide⟩
set_option maxRecDepth 20000 in
theorem inX10_weigh : Cond.instanceMethod (mY (mdX10_weigh)) ∈ tblG := tb_in (t5_in (List.mem_of_getElem? (i := 37) rfl)) rfl
set_option maxRecDepth 20000 in
theorem viX10_weigh : MVi (mdX10_weigh) := ⟨inX10_weigh, tb_in (t5_in (List.mem_of_getElem? (i := 38) rfl)) rfl⟩
def mdX10_weightTo : MD := (yX10_weightTo, cX10_weightTo, 5, some .int, 0, 0, 0)
set_option maxRecDepth 20000 in
theorem okX10_weightTo : MOk (mdX10_weightTo) 2 := ⟨tb_in (t5_in (List.mem_of_getElem? (i := 50) rfl)) rfl, tb_in (t1_in (List.mem_of_getElem? (i := 9) rfl)) rfl, ⟨by decide, by decide, by decide +kernel⟩, by decide⟩
set_option maxRecDepth 20000 in
theorem inX10_weightTo : Cond.instanceMethod (mY (mdX10_weightTo)) ∈ tblG := tb_in (t5_in (List.mem_of_getElem? (i := 48) rfl)) rfl
set_option maxRecDepth 20000 in
theorem viX10_weightTo : MVi (mdX10_weightTo) := ⟨inX10_weightTo, tb_in (t5_in (List.mem_of_getElem? (i := 49) rfl)) rfl⟩
def mdX10_multiply : MD := (yX10_multiply, cX10_multiply, 4, none, 6, 0, 0)
set_option maxRecDepth 20000 in
theorem okX10_multiply : MOk (mdX10_multiply) 1 := ⟨tb_in (t5_in (List.mem_of_getElem? (i := 69) rfl)) rfl, tb_in (t1_in (List.mem_of_getElem? (i := 9) rfl)) rfl, ⟨by decide, by decide, by decide +kernel⟩, by decide⟩
set_option maxRecDepth 20000 in
theorem inX10_multiply : Cond.instanceMethod (mY (mdX10_multiply)) ∈ tblG := tb_in (t5_in (List.mem_of_getElem? (i := 67) rfl)) rfl
set_option maxRecDepth 20000 in
theorem viX10_multiply : MVi (mdX10_multiply) := ⟨inX10_multiply, tb_in (t5_in (List.mem_of_getElem? (i := 68) rfl)) rfl⟩
def mdX10_listCorners : MD := (yX10_listCorners, cX10_listCorners, 3, none, 6, 0, 0)
set_option maxRecDepth 20000 in
theorem okX10_listCorners : MOk (mdX10_listCorners) 0 := ⟨tb_in (t5_in (List.mem_of_getElem? (i := 85) rfl)) rfl, tb_in (t1_in (List.mem_of_getElem? (i := 9) rfl)) rfl, ⟨by decide, by decide, by decide +kernel⟩, by decide⟩
set_option maxRecDepth 20000 in
theorem inX10_listCorners : Cond.instanceMethod (mY (mdX10_listCorners)) ∈ tblG := tb_in (t5_in (List.mem_of_getElem? (i := 83) rfl)) rfl
set_option maxRecDepth 20000 in
theorem viX10_listCorners : MVi (mdX10_listCorners) := ⟨inX10_listCorners, tb_in (t5_in (List.mem_of_getElem? (i := 84) rfl)) rfl⟩
def mdX10_thatReach : MD := (yX10_thatReach, cX10_thatReach, 4, some .int, 0, 0, 0)
set_option maxRecDepth 20000 in
theorem okX10_thatReach : MOk (mdX10_thatReach) 1 := ⟨tb_in (t5_in (List.mem_of_getElem? (i := 93) rfl)) rfl, tb_in (t1_in (List.mem_of_getElem? (i := 9) rfl)) rfl, ⟨by decide, by decide, by decide +kernel⟩, by decide⟩
set_option maxRecDepth 20000 in
theorem inX10_thatReach : Cond.instanceMethod (mY (mdX10_thatReach)) ∈ tblG := tb_in (t5_in (List.mem_of_getElem? (i := 91) rfl)) rfl
set_option maxRecDepth 20000 in
theorem viX10_thatReach : MVi (mdX10_thatReach) := ⟨inX10_thatReach, tb_in (t5_in (List.mem_of_getElem? (i := 92) rfl)) rfl⟩
def mdX10_safeWeight : MD := (yX10_safeWeight, cX10_safeWeight, 7, some .int, 5, 0, 0)
set_option maxRecDepth 20000 in
theorem okX10_safeWeight : MOk (mdX10_safeWeight) 2 := ⟨tb_in (t5_in (List.mem_of_getElem? (i := 168) rfl)) rfl, tb_in (t1_in (List.mem_of_getElem? (i := 9) rfl)) rfl, ⟨by decide, by decide, by decide +kernel⟩, by decide⟩
set_option maxRecDepth 20000 in
theorem inX10_safeWeight : Cond.instanceMethod (mY (mdX10_safeWeight)) ∈ tblG := tb_in (t5_in (List.mem_of_getElem? (i := 166) rfl)) rfl
set_option maxRecDepth 20000 in
theorem viX10_safeWeight : MVi (mdX10_safeWeight) := ⟨inX10_safeWeight, tb_in (t5_in (List.mem_of_getElem? (i := 167) rfl)) rfl⟩
def mdX11_init : MD := (yX11_init, cX11_init, 1, none, 2, 53, 6882)
set_option maxRecDepth 20000 in
theorem okX11_init : MOk (mdX11_init) 0 := ⟨tb_in (t1_in (List.mem_of_getElem? (i := 26) rfl)) rfl, tb_in (t1_in (List.mem_of_getElem? (i := 1) rfl)) rfl, ⟨by decide, by decide, by decide +kernel⟩, by decide⟩
set_option maxRecDepth 20000 in
theorem inX11_init : Cond.instanceMethod (mY (mdX11_init)) ∈ tblG := tb_in (t1_in (List.mem_of_getElem? (i := 25) rfl)) rfl
def mdX11_corner : MD := (yX11_corner, cX11_corner, 2, some .int, 1, 0, 0)
set_option maxRecDepth 20000 in
theorem okX11_corner : MOk (mdX11_corner) 1 := ⟨tb_in (t2_in (List.mem_of_getElem? (i := 184) rfl)) rfl, tb_in (t1_in (List.mem_of_getElem? (i := 1) rfl)) rfl, ⟨by decide, by decide, by decide +kernel⟩, by decide⟩
set_option maxRecDepth 20000 in
theorem inX11_corner : Cond.instanceMethod (mY (mdX11_corner)) ∈ tblG := tb_in (t2_in (List.mem_of_getElem? (i := 182) rfl)) rfl
set_option maxRecDepth 20000 in
theorem viX11_corner : MVi (mdX11_corner) := ⟨inX11_corner, tb_in (t2_in (List.mem_of_getElem? (i := 183) rfl)) rfl⟩
def mdX11_street : MD := (yX11_street, cX11_street, 5, some .boolean, 2, 0, 0)
set_option maxRecDepth 20000 in
theorem okX11_street : MOk (mdX11_street) 4 := ⟨tb_in (t2_in (List.mem_of_getElem? (i := 192) rfl)) rfl, tb_in (t1_in (List.mem_of_getElem? (i := 1) rfl)) rfl, ⟨by decide, by decide, by decide +kernel⟩, by decide⟩
set_option maxRecDepth 20000 in
theorem inX11_street : Cond.instanceMethod (mY (mdX11_street)) ∈ tblG := tb_in (t2_in (List.mem_of_getElem? (i := 190) rfl)) rfl
set_option maxRecDepth 20000 in
theorem viX11_street : MVi (mdX11_street) := ⟨inX11_street, tb_in (t2_in (List.mem_of_getElem? (i := 191) rfl)) rfl⟩
def mdX11_goal : MD := (yX11_goal, cX11_goal, 2, some .boolean, 2, 0, 0)
set_option maxRecDepth 20000 in
theorem okX11_goal : MOk (mdX11_goal) 1 := ⟨tb_in (t2_in (List.mem_of_getElem? (i := 207) rfl)) rfl, tb_in (t1_in (List.mem_of_getElem? (i := 1) rfl)) rfl, ⟨by decide, by decide, by decide +kernel⟩, by decide⟩
set_option maxRecDepth 20000 in
theorem inX11_goal : Cond.instanceMethod (mY (mdX11_goal)) ∈ tblG := tb_in (t2_in (List.mem_of_getElem? (i := 205) rfl)) rfl
set_option maxRecDepth 20000 in
theorem viX11_goal : MVi (mdX11_goal) := ⟨inX11_goal, tb_in (t2_in (List.mem_of_getElem? (i := 206) rfl)) rfl⟩
def mdX11_teller : MD := (yX11_teller, cX11_teller, 5, some .int, 2, 0, 0)
set_option maxRecDepth 20000 in
theorem okX11_teller : MOk (mdX11_teller) 4 := ⟨tb_in (t2_in (List.mem_of_getElem? (i := 215) rfl)) rfl, tb_in (t1_in (List.mem_of_getElem? (i := 1) rfl)) rfl, ⟨by decide, by decide, by decide +kernel⟩, by decide⟩
set_option maxRecDepth 20000 in
theorem inX11_teller : Cond.instanceMethod (mY (mdX11_teller)) ∈ tblG := tb_in (t2_in (List.mem_of_getElem? (i := 213) rfl)) rfl
set_option maxRecDepth 20000 in
theorem viX11_teller : MVi (mdX11_teller) := ⟨inX11_teller, tb_in (t2_in (List.mem_of_getElem? (i := 214) rfl)) rfl⟩
def mdX11_telling : MD := (yX11_telling, cX11_telling, 5, some .int, 3, 0, 0)
set_option maxRecDepth 20000 in
theorem okX11_telling : MOk (mdX11_telling) 4 := ⟨tb_in (t2_in (List.mem_of_getElem? (i := 226) rfl)) rfl, tb_in (t1_in (List.mem_of_getElem? (i := 1) rfl)) rfl, ⟨by decide, by decide, by decide +kernel⟩, by decide⟩
set_option maxRecDepth 20000 in
theorem inX11_telling : Cond.instanceMethod (mY (mdX11_telling)) ∈ tblG := tb_in (t2_in (List.mem_of_getElem? (i := 224) rfl)) rfl
set_option maxRecDepth 20000 in
theorem viX11_telling : MVi (mdX11_telling) := ⟨inX11_telling, tb_in (t2_in (List.mem_of_getElem? (i := 225) rfl)) rfl⟩
def mdX11_feed : MD := (yX11_feed, cX11_feed, 6, some .int, 1, 0, 0)
set_option maxRecDepth 20000 in
theorem okX11_feed : MOk (mdX11_feed) 5 := ⟨tb_in (t3_in (List.mem_of_getElem? (i := 7) rfl)) rfl, tb_in (t1_in (List.mem_of_getElem? (i := 1) rfl)) rfl, ⟨by decide, by decide, by decide +kernel⟩, by decide⟩
set_option maxRecDepth 20000 in
theorem inX11_feed : Cond.instanceMethod (mY (mdX11_feed)) ∈ tblG := tb_in (t3_in (List.mem_of_getElem? (i := 5) rfl)) rfl
set_option maxRecDepth 20000 in
theorem viX11_feed : MVi (mdX11_feed) := ⟨inX11_feed, tb_in (t3_in (List.mem_of_getElem? (i := 6) rfl)) rfl⟩
def mdX11_putBytes : MD := (yX11_putBytes, cX11_putBytes, 3, none, 0, 0, 0)
set_option maxRecDepth 20000 in
theorem okX11_putBytes : MOk (mdX11_putBytes) 1 := ⟨tb_in (t3_in (List.mem_of_getElem? (i := 11) rfl)) rfl, tb_in (t1_in (List.mem_of_getElem? (i := 1) rfl)) rfl, ⟨by decide, by decide, by decide +kernel⟩, by decide⟩
set_option maxRecDepth 20000 in
theorem inX11_putBytes : Cond.instanceMethod (mY (mdX11_putBytes)) ∈ tblG := tb_in (t3_in (List.mem_of_getElem? (i := 10) rfl)) rfl
set_option maxRecDepth 20000 in
theorem viX11_putBytes : MVi (mdX11_putBytes) := ⟨inX11_putBytes, tp_in (List.mem_of_getElem? (i := 1) rfl) rfl⟩
def mdX11_end : MD := (yX11_end, cX11_end, 2, some .int, 0, 0, 0)
set_option maxRecDepth 20000 in
theorem okX11_end : MOk (mdX11_end) 1 := ⟨tb_in (t3_in (List.mem_of_getElem? (i := 15) rfl)) rfl, tb_in (t1_in (List.mem_of_getElem? (i := 1) rfl)) rfl, ⟨by decide, by decide, by decide +kernel⟩, by decide⟩
set_option maxRecDepth 20000 in
theorem inX11_end : Cond.instanceMethod (mY (mdX11_end)) ∈ tblG := tb_in (t3_in (List.mem_of_getElem? (i := 13) rfl)) rfl
set_option maxRecDepth 20000 in
theorem viX11_end : MVi (mdX11_end) := ⟨inX11_end, tb_in (t3_in (List.mem_of_getElem? (i := 14) rfl)) rfl⟩
def mdX11_text : MD := (yX11_text, cX11_text, 2, some .int, 43, 4, 904)
set_option maxRecDepth 20000 in
theorem okX11_text : MOk (mdX11_text) 0 := ⟨tb_in (t3_in (List.mem_of_getElem? (i := 19) rfl)) rfl, tb_in (t1_in (List.mem_of_getElem? (i := 1) rfl)) rfl, ⟨by decide, by decide, by decide +kernel⟩, by decide⟩
set_option maxRecDepth 20000 in
theorem inX11_text : Cond.instanceMethod (mY (mdX11_text)) ∈ tblG := tb_in (t3_in (List.mem_of_getElem? (i := 17) rfl)) rfl
set_option maxRecDepth 20000 in
theorem viX11_text : MVi (mdX11_text) := ⟨inX11_text, tb_in (t3_in (List.mem_of_getElem? (i := 18) rfl)) rfl⟩
def mdX11_fault : MD := (yX11_fault, cX11_fault, 2, some .int, 0, 0, 0)
set_option maxRecDepth 20000 in
theorem okX11_fault : MOk (mdX11_fault) 1 := ⟨tb_in (t3_in (List.mem_of_getElem? (i := 233) rfl)) rfl, tb_in (t1_in (List.mem_of_getElem? (i := 1) rfl)) rfl, ⟨by decide, by decide, by decide +kernel⟩, by decide⟩
set_option maxRecDepth 20000 in
theorem inX11_fault : Cond.instanceMethod (mY (mdX11_fault)) ∈ tblG := tb_in (t3_in (List.mem_of_getElem? (i := 231) rfl)) rfl
set_option maxRecDepth 20000 in
theorem viX11_fault : MVi (mdX11_fault) := ⟨inX11_fault, tb_in (t3_in (List.mem_of_getElem? (i := 232) rfl)) rfl⟩
def mdX11_by : MD := (yX11_by, cX11_by, 2, some .boolean, 0, 0, 0)
set_option maxRecDepth 20000 in
theorem okX11_by : MOk (mdX11_by) 1 := ⟨tb_in (t3_in (List.mem_of_getElem? (i := 237) rfl)) rfl, tb_in (t1_in (List.mem_of_getElem? (i := 1) rfl)) rfl, ⟨by decide, by decide, by decide +kernel⟩, by decide⟩
set_option maxRecDepth 20000 in
theorem inX11_by : Cond.instanceMethod (mY (mdX11_by)) ∈ tblG := tb_in (t3_in (List.mem_of_getElem? (i := 235) rfl)) rfl
set_option maxRecDepth 20000 in
theorem viX11_by : MVi (mdX11_by) := ⟨inX11_by, tb_in (t3_in (List.mem_of_getElem? (i := 236) rfl)) rfl⟩
def mdX11_start : MD := (yX11_start, cX11_start, 3, some .boolean, 3, 0, 0)
set_option maxRecDepth 20000 in
theorem okX11_start : MOk (mdX11_start) 2 := ⟨tb_in (t4_in (List.mem_of_getElem? (i := 1) rfl)) rfl, tb_in (t1_in (List.mem_of_getElem? (i := 1) rfl)) rfl, ⟨by decide, by decide, by decide +kernel⟩, by decide⟩
set_option maxRecDepth 20000 in
theorem inX11_start : Cond.instanceMethod (mY (mdX11_start)) ∈ tblG := tb_in (t3_in (List.mem_of_getElem? (i := 239) rfl)) rfl
set_option maxRecDepth 20000 in
theorem viX11_start : MVi (mdX11_start) := ⟨inX11_start, tb_in (t4_in (List.mem_of_getElem? (i := 0) rfl)) rfl⟩
def mdX11_walk : MD := (yX11_walk, cX11_walk, 2, some .int, 6, 0, 0)
set_option maxRecDepth 20000 in
theorem okX11_walk : MOk (mdX11_walk) 1 := ⟨tb_in (t4_in (List.mem_of_getElem? (i := 21) rfl)) rfl, tb_in (t1_in (List.mem_of_getElem? (i := 1) rfl)) rfl, ⟨by decide, by decide, by decide +kernel⟩, by decide⟩
set_option maxRecDepth 20000 in
theorem inX11_walk : Cond.instanceMethod (mY (mdX11_walk)) ∈ tblG := tb_in (t4_in (List.mem_of_getElem? (i := 19) rfl)) rfl
set_option maxRecDepth 20000 in
theorem viX11_walk : MVi (mdX11_walk) := ⟨inX11_walk, tb_in (t4_in (List.mem_of_getElem? (i := 20) rfl)) rfl⟩
def mdX11_turn : MD := (yX11_turn, cX11_turn, 2, some .int, 3, 0, 0)
set_option maxRecDepth 20000 in
theorem okX11_turn : MOk (mdX11_turn) 1 := ⟨tb_in (t4_in (List.mem_of_getElem? (i := 87) rfl)) rfl, tb_in (t1_in (List.mem_of_getElem? (i := 1) rfl)) rfl, ⟨by decide, by decide, by decide +kernel⟩, by decide⟩
set_option maxRecDepth 20000 in
theorem inX11_turn : Cond.instanceMethod (mY (mdX11_turn)) ∈ tblG := tb_in (t4_in (List.mem_of_getElem? (i := 85) rfl)) rfl
set_option maxRecDepth 20000 in
theorem viX11_turn : MVi (mdX11_turn) := ⟨inX11_turn, tb_in (t4_in (List.mem_of_getElem? (i := 86) rfl)) rfl⟩
def mdX11_ask : MD := (yX11_ask, cX11_ask, 2, some .int, 6, 0, 0)
set_option maxRecDepth 20000 in
theorem okX11_ask : MOk (mdX11_ask) 1 := ⟨tb_in (t4_in (List.mem_of_getElem? (i := 106) rfl)) rfl, tb_in (t1_in (List.mem_of_getElem? (i := 1) rfl)) rfl, ⟨by decide, by decide, by decide +kernel⟩, by decide⟩
set_option maxRecDepth 20000 in
theorem inX11_ask : Cond.instanceMethod (mY (mdX11_ask)) ∈ tblG := tb_in (t4_in (List.mem_of_getElem? (i := 104) rfl)) rfl
set_option maxRecDepth 20000 in
theorem viX11_ask : MVi (mdX11_ask) := ⟨inX11_ask, tb_in (t4_in (List.mem_of_getElem? (i := 105) rfl)) rfl⟩
def mdX11_follow : MD := (yX11_follow, cX11_follow, 2, some .int, 5, 0, 0)
set_option maxRecDepth 20000 in
theorem okX11_follow : MOk (mdX11_follow) 1 := ⟨tb_in (t4_in (List.mem_of_getElem? (i := 133) rfl)) rfl, tb_in (t1_in (List.mem_of_getElem? (i := 1) rfl)) rfl, ⟨by decide, by decide, by decide +kernel⟩, by decide⟩
set_option maxRecDepth 20000 in
theorem inX11_follow : Cond.instanceMethod (mY (mdX11_follow)) ∈ tblG := tb_in (t4_in (List.mem_of_getElem? (i := 131) rfl)) rfl
set_option maxRecDepth 20000 in
theorem viX11_follow : MVi (mdX11_follow) := ⟨inX11_follow, tb_in (t4_in (List.mem_of_getElem? (i := 132) rfl)) rfl⟩
def mdX11_played : MD := (yX11_played, cX11_played, 3, some .int, 8, 0, 0)
set_option maxRecDepth 20000 in
theorem okX11_played : MOk (mdX11_played) 1 := ⟨tb_in (t4_in (List.mem_of_getElem? (i := 180) rfl)) rfl, tb_in (t1_in (List.mem_of_getElem? (i := 1) rfl)) rfl, ⟨by decide, by decide, by decide +kernel⟩, by decide⟩
set_option maxRecDepth 20000 in
theorem inX11_played : Cond.instanceMethod (mY (mdX11_played)) ∈ tblG := tb_in (t4_in (List.mem_of_getElem? (i := 178) rfl)) rfl
set_option maxRecDepth 20000 in
theorem viX11_played : MVi (mdX11_played) := ⟨inX11_played, tb_in (t4_in (List.mem_of_getElem? (i := 179) rfl)) rfl⟩
def mdX11_day : MD := (yX11_day, cX11_day, 3, some .int, 8, 0, 0)
set_option maxRecDepth 20000 in
theorem okX11_day : MOk (mdX11_day) 2 := ⟨tb_in (t4_in (List.mem_of_getElem? (i := 203) rfl)) rfl, tb_in (t1_in (List.mem_of_getElem? (i := 1) rfl)) rfl, ⟨by decide, by decide, by decide +kernel⟩, by decide⟩
set_option maxRecDepth 20000 in
theorem inX11_day : Cond.instanceMethod (mY (mdX11_day)) ∈ tblG := tb_in (t4_in (List.mem_of_getElem? (i := 201) rfl)) rfl
set_option maxRecDepth 20000 in
theorem viX11_day : MVi (mdX11_day) := ⟨inX11_day, tb_in (t4_in (List.mem_of_getElem? (i := 202) rfl)) rfl⟩
def mdX11_undo : MD := (yX11_undo, cX11_undo, 1, some .int, 1, 0, 0)
set_option maxRecDepth 20000 in
theorem okX11_undo : MOk (mdX11_undo) 0 := ⟨tb_in (t4_in (List.mem_of_getElem? (i := 222) rfl)) rfl, tb_in (t1_in (List.mem_of_getElem? (i := 1) rfl)) rfl, ⟨by decide, by decide, by decide +kernel⟩, by decide⟩
set_option maxRecDepth 20000 in
theorem inX11_undo : Cond.instanceMethod (mY (mdX11_undo)) ∈ tblG := tb_in (t4_in (List.mem_of_getElem? (i := 220) rfl)) rfl
set_option maxRecDepth 20000 in
theorem viX11_undo : MVi (mdX11_undo) := ⟨inX11_undo, tb_in (t4_in (List.mem_of_getElem? (i := 221) rfl)) rfl⟩
def mdX11_walker : MD := (yX11_walker, cX11_walker, 2, some .int, 0, 0, 0)
set_option maxRecDepth 20000 in
theorem okX11_walker : MOk (mdX11_walker) 1 := ⟨tb_in (t4_in (List.mem_of_getElem? (i := 230) rfl)) rfl, tb_in (t1_in (List.mem_of_getElem? (i := 1) rfl)) rfl, ⟨by decide, by decide, by decide +kernel⟩, by decide⟩
set_option maxRecDepth 20000 in
theorem inX11_walker : Cond.instanceMethod (mY (mdX11_walker)) ∈ tblG := tb_in (t4_in (List.mem_of_getElem? (i := 228) rfl)) rfl
set_option maxRecDepth 20000 in
theorem viX11_walker : MVi (mdX11_walker) := ⟨inX11_walker, tb_in (t4_in (List.mem_of_getElem? (i := 229) rfl)) rfl⟩
def mdX11_ofCorner : MD := (yX11_ofCorner, cX11_ofCorner, 3, some .int, 1, 0, 0)
set_option maxRecDepth 20000 in
theorem okX11_ofCorner : MOk (mdX11_ofCorner) 2 := ⟨tb_in (t4_in (List.mem_of_getElem? (i := 234) rfl)) rfl, tb_in (t1_in (List.mem_of_getElem? (i := 1) rfl)) rfl, ⟨by decide, by decide, by decide +kernel⟩, by decide⟩
set_option maxRecDepth 20000 in
theorem inX11_ofCorner : Cond.instanceMethod (mY (mdX11_ofCorner)) ∈ tblG := tb_in (t4_in (List.mem_of_getElem? (i := 232) rfl)) rfl
set_option maxRecDepth 20000 in
theorem viX11_ofCorner : MVi (mdX11_ofCorner) := ⟨inX11_ofCorner, tb_in (t4_in (List.mem_of_getElem? (i := 233) rfl)) rfl⟩
def mdX11_ofTeller : MD := (yX11_ofTeller, cX11_ofTeller, 3, some .int, 1, 0, 0)
set_option maxRecDepth 20000 in
theorem okX11_ofTeller : MOk (mdX11_ofTeller) 2 := ⟨tb_in (t5_in (List.mem_of_getElem? (i := 2) rfl)) rfl, tb_in (t1_in (List.mem_of_getElem? (i := 1) rfl)) rfl, ⟨by decide, by decide, by decide +kernel⟩, by decide⟩
set_option maxRecDepth 20000 in
theorem inX11_ofTeller : Cond.instanceMethod (mY (mdX11_ofTeller)) ∈ tblG := tb_in (t5_in (List.mem_of_getElem? (i := 0) rfl)) rfl
set_option maxRecDepth 20000 in
theorem viX11_ofTeller : MVi (mdX11_ofTeller) := ⟨inX11_ofTeller, tb_in (t5_in (List.mem_of_getElem? (i := 1) rfl)) rfl⟩
def mdX11_ofTelling : MD := (yX11_ofTelling, cX11_ofTelling, 3, some .int, 4, 0, 0)
set_option maxRecDepth 20000 in
theorem okX11_ofTelling : MOk (mdX11_ofTelling) 2 := ⟨tb_in (t5_in (List.mem_of_getElem? (i := 8) rfl)) rfl, tb_in (t1_in (List.mem_of_getElem? (i := 1) rfl)) rfl, ⟨by decide, by decide, by decide +kernel⟩, by decide⟩
set_option maxRecDepth 20000 in
theorem inX11_ofTelling : Cond.instanceMethod (mY (mdX11_ofTelling)) ∈ tblG := tb_in (t5_in (List.mem_of_getElem? (i := 6) rfl)) rfl
set_option maxRecDepth 20000 in
theorem viX11_ofTelling : MVi (mdX11_ofTelling) := ⟨inX11_ofTelling, tb_in (t5_in (List.mem_of_getElem? (i := 7) rfl)) rfl⟩
def mdX11_leads : MD := (yX11_leads, cX11_leads, 3, some .int, 5, 0, 0)
set_option maxRecDepth 20000 in
theorem okX11_leads : MOk (mdX11_leads) 2 := ⟨tb_in (t5_in (List.mem_of_getElem? (i := 20) rfl)) rfl, tb_in (t1_in (List.mem_of_getElem? (i := 1) rfl)) rfl, ⟨by decide, by decide, by decide +kernel⟩, by decide⟩
set_option maxRecDepth 20000 in
theorem inX11_leads : Cond.instanceMethod (mY (mdX11_leads)) ∈ tblG := tb_in (t5_in (List.mem_of_getElem? (i := 18) rfl)) rfl
set_option maxRecDepth 20000 in
theorem viX11_leads : MVi (mdX11_leads) := ⟨inX11_leads, tb_in (t5_in (List.mem_of_getElem? (i := 19) rfl)) rfl⟩
def mdX11_likely : MD := (yX11_likely, cX11_likely, 3, some .int, 6, 0, 0)
set_option maxRecDepth 20000 in
theorem okX11_likely : MOk (mdX11_likely) 2 := ⟨tb_in (t5_in (List.mem_of_getElem? (i := 35) rfl)) rfl, tb_in (t1_in (List.mem_of_getElem? (i := 1) rfl)) rfl, ⟨by decide, by decide, by decide +kernel⟩, by decide⟩
set_option maxRecDepth 20000 in
theorem inX11_likely : Cond.instanceMethod (mY (mdX11_likely)) ∈ tblG := tb_in (t5_in (List.mem_of_getElem? (i := 33) rfl)) rfl
set_option maxRecDepth 20000 in
theorem viX11_likely : MVi (mdX11_likely) := ⟨inX11_likely, tb_in (t5_in (List.mem_of_getElem? (i := 34) rfl)) rfl⟩
def mdX11_byAll : MD := (yX11_byAll, cX11_byAll, 4, some .long, 7, 0, 0)
set_option maxRecDepth 20000 in
theorem okX11_byAll : MOk (mdX11_byAll) 3 := ⟨tb_in (t5_in (List.mem_of_getElem? (i := 54) rfl)) rfl, tb_in (t1_in (List.mem_of_getElem? (i := 1) rfl)) rfl, ⟨by decide, by decide, by decide +kernel⟩, by decide⟩
set_option maxRecDepth 20000 in
theorem inX11_byAll : Cond.instanceMethod (mY (mdX11_byAll)) ∈ tblG := tb_in (t5_in (List.mem_of_getElem? (i := 52) rfl)) rfl
set_option maxRecDepth 20000 in
theorem viX11_byAll : MVi (mdX11_byAll) := ⟨inX11_byAll, tb_in (t5_in (List.mem_of_getElem? (i := 53) rfl)) rfl⟩
def mdX11_clash : MD := (yX11_clash, cX11_clash, 5, some .int, 7, 0, 0)
set_option maxRecDepth 20000 in
theorem okX11_clash : MOk (mdX11_clash) 1 := ⟨tb_in (t5_in (List.mem_of_getElem? (i := 81) rfl)) rfl, tb_in (t1_in (List.mem_of_getElem? (i := 1) rfl)) rfl, ⟨by decide, by decide, by decide +kernel⟩, by decide⟩
set_option maxRecDepth 20000 in
theorem inX11_clash : Cond.instanceMethod (mY (mdX11_clash)) ∈ tblG := tb_in (t5_in (List.mem_of_getElem? (i := 79) rfl)) rfl
set_option maxRecDepth 20000 in
theorem viX11_clash : MVi (mdX11_clash) := ⟨inX11_clash, tb_in (t5_in (List.mem_of_getElem? (i := 80) rfl)) rfl⟩
def mdX11_wrong : MD := (yX11_wrong, cX11_wrong, 7, some .int, 7, 0, 0)
set_option maxRecDepth 20000 in
theorem okX11_wrong : MOk (mdX11_wrong) 2 := ⟨tb_in (t5_in (List.mem_of_getElem? (i := 89) rfl)) rfl, tb_in (t1_in (List.mem_of_getElem? (i := 1) rfl)) rfl, ⟨by decide, by decide, by decide +kernel⟩, by decide⟩
set_option maxRecDepth 20000 in
theorem inX11_wrong : Cond.instanceMethod (mY (mdX11_wrong)) ∈ tblG := tb_in (t5_in (List.mem_of_getElem? (i := 87) rfl)) rfl
set_option maxRecDepth 20000 in
theorem viX11_wrong : MVi (mdX11_wrong) := ⟨inX11_wrong, tb_in (t5_in (List.mem_of_getElem? (i := 88) rfl)) rfl⟩
def mdX11_isLess : MD := (yX11_isLess, cX11_isLess, 3, some .boolean, 1, 0, 0)
set_option maxRecDepth 20000 in
theorem okX11_isLess : MOk (mdX11_isLess) 2 := ⟨tb_in (t5_in (List.mem_of_getElem? (i := 96) rfl)) rfl, tb_in (t1_in (List.mem_of_getElem? (i := 1) rfl)) rfl, ⟨by decide, by decide, by decide +kernel⟩, by decide⟩
set_option maxRecDepth 20000 in
theorem stX11_isLess : MSt (mdX11_isLess) := tb_in (t5_in (List.mem_of_getElem? (i := 95) rfl)) rfl
def mdX11_far : MD := (yX11_far, cX11_far, 3, some .int, 5, 0, 0)
set_option maxRecDepth 20000 in
theorem okX11_far : MOk (mdX11_far) 2 := ⟨tb_in (t5_in (List.mem_of_getElem? (i := 101) rfl)) rfl, tb_in (t1_in (List.mem_of_getElem? (i := 1) rfl)) rfl, ⟨by decide, by decide, by decide +kernel⟩, by decide⟩
set_option maxRecDepth 20000 in
theorem inX11_far : Cond.instanceMethod (mY (mdX11_far)) ∈ tblG := tb_in (t5_in (List.mem_of_getElem? (i := 99) rfl)) rfl
set_option maxRecDepth 20000 in
theorem viX11_far : MVi (mdX11_far) := ⟨inX11_far, tb_in (t5_in (List.mem_of_getElem? (i := 100) rfl)) rfl⟩
def mdX11_see : MD := (yX11_see, cX11_see, 3, some .long, 22, 0, 0)
set_option maxRecDepth 20000 in
theorem okX11_see : MOk (mdX11_see) 2 := ⟨tb_in (t5_in (List.mem_of_getElem? (i := 129) rfl)) rfl, tb_in (t1_in (List.mem_of_getElem? (i := 1) rfl)) rfl, ⟨by decide, by decide, by decide +kernel⟩, by decide⟩
set_option maxRecDepth 20000 in
theorem inX11_see : Cond.instanceMethod (mY (mdX11_see)) ∈ tblG := tb_in (t5_in (List.mem_of_getElem? (i := 127) rfl)) rfl
set_option maxRecDepth 20000 in
theorem viX11_see : MVi (mdX11_see) := ⟨inX11_see, tb_in (t5_in (List.mem_of_getElem? (i := 128) rfl)) rfl⟩
def mdX11_orAsk : MD := (yX11_orAsk, cX11_orAsk, 2, some .int, 22, 0, 0)
set_option maxRecDepth 20000 in
theorem okX11_orAsk : MOk (mdX11_orAsk) 1 := ⟨tb_in (t5_in (List.mem_of_getElem? (i := 150) rfl)) rfl, tb_in (t1_in (List.mem_of_getElem? (i := 1) rfl)) rfl, ⟨by decide, by decide, by decide +kernel⟩, by decide⟩
set_option maxRecDepth 20000 in
theorem inX11_orAsk : Cond.instanceMethod (mY (mdX11_orAsk)) ∈ tblG := tb_in (t5_in (List.mem_of_getElem? (i := 148) rfl)) rfl
set_option maxRecDepth 20000 in
theorem viX11_orAsk : MVi (mdX11_orAsk) := ⟨inX11_orAsk, tb_in (t5_in (List.mem_of_getElem? (i := 149) rfl)) rfl⟩
def mdX11_safeSoFar : MD := (yX11_safeSoFar, cX11_safeSoFar, 4, some .int, 6, 0, 0)
set_option maxRecDepth 20000 in
theorem okX11_safeSoFar : MOk (mdX11_safeSoFar) 3 := ⟨tb_in (t5_in (List.mem_of_getElem? (i := 164) rfl)) rfl, tb_in (t1_in (List.mem_of_getElem? (i := 1) rfl)) rfl, ⟨by decide, by decide, by decide +kernel⟩, by decide⟩
set_option maxRecDepth 20000 in
theorem inX11_safeSoFar : Cond.instanceMethod (mY (mdX11_safeSoFar)) ∈ tblG := tb_in (t5_in (List.mem_of_getElem? (i := 162) rfl)) rfl
set_option maxRecDepth 20000 in
theorem viX11_safeSoFar : MVi (mdX11_safeSoFar) := ⟨inX11_safeSoFar, tb_in (t5_in (List.mem_of_getElem? (i := 163) rfl)) rfl⟩
def mdX11_howFar : MD := (yX11_howFar, cX11_howFar, 5, some .int, 6, 0, 0)
set_option maxRecDepth 20000 in
theorem okX11_howFar : MOk (mdX11_howFar) 2 := ⟨tb_in (t5_in (List.mem_of_getElem? (i := 177) rfl)) rfl, tb_in (t1_in (List.mem_of_getElem? (i := 1) rfl)) rfl, ⟨by decide, by decide, by decide +kernel⟩, by decide⟩
set_option maxRecDepth 20000 in
theorem inX11_howFar : Cond.instanceMethod (mY (mdX11_howFar)) ∈ tblG := tb_in (t5_in (List.mem_of_getElem? (i := 175) rfl)) rfl
set_option maxRecDepth 20000 in
theorem viX11_howFar : MVi (mdX11_howFar) := ⟨inX11_howFar, tb_in (t5_in (List.mem_of_getElem? (i := 176) rfl)) rfl⟩
def mdX11_lost : MD := (yX11_lost, cX11_lost, 5, some .int, 5, 0, 0)
set_option maxRecDepth 20000 in
theorem okX11_lost : MOk (mdX11_lost) 2 := ⟨tb_in (t5_in (List.mem_of_getElem? (i := 181) rfl)) rfl, tb_in (t1_in (List.mem_of_getElem? (i := 1) rfl)) rfl, ⟨by decide, by decide, by decide +kernel⟩, by decide⟩
set_option maxRecDepth 20000 in
theorem inX11_lost : Cond.instanceMethod (mY (mdX11_lost)) ∈ tblG := tb_in (t5_in (List.mem_of_getElem? (i := 179) rfl)) rfl
set_option maxRecDepth 20000 in
theorem viX11_lost : MVi (mdX11_lost) := ⟨inX11_lost, tb_in (t5_in (List.mem_of_getElem? (i := 180) rfl)) rfl⟩
def mdX11_listen : MD := (yX11_listen, cX11_listen, 12, some .long, 1, 0, 0)
set_option maxRecDepth 20000 in
theorem okX11_listen : MOk (mdX11_listen) 5 := ⟨tb_in (t5_in (List.mem_of_getElem? (i := 185) rfl)) rfl, tb_in (t1_in (List.mem_of_getElem? (i := 1) rfl)) rfl, ⟨by decide, by decide, by decide +kernel⟩, by decide⟩
set_option maxRecDepth 20000 in
theorem inX11_listen : Cond.instanceMethod (mY (mdX11_listen)) ∈ tblG := tb_in (t5_in (List.mem_of_getElem? (i := 183) rfl)) rfl
set_option maxRecDepth 20000 in
theorem viX11_listen : MVi (mdX11_listen) := ⟨inX11_listen, tb_in (t5_in (List.mem_of_getElem? (i := 184) rfl)) rfl⟩
def mdX11_tell : MD := (yX11_tell, cX11_tell, 6, some .int, 22, 0, 0)
set_option maxRecDepth 20000 in
theorem okX11_tell : MOk (mdX11_tell) 4 := ⟨tb_in (t5_in (List.mem_of_getElem? (i := 195) rfl)) rfl, tb_in (t1_in (List.mem_of_getElem? (i := 1) rfl)) rfl, ⟨by decide, by decide, by decide +kernel⟩, by decide⟩
set_option maxRecDepth 20000 in
theorem inX11_tell : Cond.instanceMethod (mY (mdX11_tell)) ∈ tblG := tb_in (t5_in (List.mem_of_getElem? (i := 193) rfl)) rfl
set_option maxRecDepth 20000 in
theorem viX11_tell : MVi (mdX11_tell) := ⟨inX11_tell, tb_in (t5_in (List.mem_of_getElem? (i := 194) rfl)) rfl⟩
def mdX11_where : MD := (yX11_where, cX11_where, 9, some .int, 5, 0, 0)
set_option maxRecDepth 20000 in
theorem okX11_where : MOk (mdX11_where) 2 := ⟨tb_in (t5_in (List.mem_of_getElem? (i := 231) rfl)) rfl, tb_in (t1_in (List.mem_of_getElem? (i := 1) rfl)) rfl, ⟨by decide, by decide, by decide +kernel⟩, by decide⟩
set_option maxRecDepth 20000 in
theorem inX11_where : Cond.instanceMethod (mY (mdX11_where)) ∈ tblG := tb_in (t5_in (List.mem_of_getElem? (i := 229) rfl)) rfl
set_option maxRecDepth 20000 in
theorem viX11_where : MVi (mdX11_where) := ⟨inX11_where, tb_in (t5_in (List.mem_of_getElem? (i := 230) rfl)) rfl⟩
def mdX11_map : MD := (yX11_map, cX11_map, 8, some .int, 1, 0, 0)
set_option maxRecDepth 20000 in
theorem okX11_map : MOk (mdX11_map) 3 := ⟨tb_in (t6_in (List.mem_of_getElem? (i := 0) rfl)) rfl, tb_in (t1_in (List.mem_of_getElem? (i := 1) rfl)) rfl, ⟨by decide, by decide, by decide +kernel⟩, by decide⟩
set_option maxRecDepth 20000 in
theorem inX11_map : Cond.instanceMethod (mY (mdX11_map)) ∈ tblG := tb_in (t5_in (List.mem_of_getElem? (i := 238) rfl)) rfl
set_option maxRecDepth 20000 in
theorem viX11_map : MVi (mdX11_map) := ⟨inX11_map, tb_in (t5_in (List.mem_of_getElem? (i := 239) rfl)) rfl⟩
def mdX11_signs : MD := (yX11_signs, cX11_signs, 1, some .int, 4, 0, 0)
set_option maxRecDepth 20000 in
theorem okX11_signs : MOk (mdX11_signs) 0 := ⟨tb_in (t6_in (List.mem_of_getElem? (i := 4) rfl)) rfl, tb_in (t1_in (List.mem_of_getElem? (i := 1) rfl)) rfl, ⟨by decide, by decide, by decide +kernel⟩, by decide⟩
set_option maxRecDepth 20000 in
theorem inX11_signs : Cond.instanceMethod (mY (mdX11_signs)) ∈ tblG := tb_in (t6_in (List.mem_of_getElem? (i := 2) rfl)) rfl
set_option maxRecDepth 20000 in
theorem viX11_signs : MVi (mdX11_signs) := ⟨inX11_signs, tb_in (t6_in (List.mem_of_getElem? (i := 3) rfl)) rfl⟩
def mdX11_whose : MD := (yX11_whose, cX11_whose, 6, some .int, 6, 0, 0)
set_option maxRecDepth 20000 in
theorem okX11_whose : MOk (mdX11_whose) 4 := ⟨tb_in (t6_in (List.mem_of_getElem? (i := 46) rfl)) rfl, tb_in (t1_in (List.mem_of_getElem? (i := 1) rfl)) rfl, ⟨by decide, by decide, by decide +kernel⟩, by decide⟩
set_option maxRecDepth 20000 in
theorem inX11_whose : Cond.instanceMethod (mY (mdX11_whose)) ∈ tblG := tb_in (t6_in (List.mem_of_getElem? (i := 44) rfl)) rfl
set_option maxRecDepth 20000 in
theorem viX11_whose : MVi (mdX11_whose) := ⟨inX11_whose, tb_in (t6_in (List.mem_of_getElem? (i := 45) rfl)) rfl⟩
def mdX11_heard : MD := (yX11_heard, cX11_heard, 2, some .int, 7, 0, 0)
set_option maxRecDepth 20000 in
theorem okX11_heard : MOk (mdX11_heard) 1 := ⟨tb_in (t6_in (List.mem_of_getElem? (i := 50) rfl)) rfl, tb_in (t1_in (List.mem_of_getElem? (i := 1) rfl)) rfl, ⟨by decide, by decide, by decide +kernel⟩, by decide⟩
set_option maxRecDepth 20000 in
theorem inX11_heard : Cond.instanceMethod (mY (mdX11_heard)) ∈ tblG := tb_in (t6_in (List.mem_of_getElem? (i := 48) rfl)) rfl
set_option maxRecDepth 20000 in
theorem viX11_heard : MVi (mdX11_heard) := ⟨inX11_heard, tb_in (t6_in (List.mem_of_getElem? (i := 49) rfl)) rfl⟩
def mdX11_image : MD := (yX11_image, cX11_image, 1, some .int, 1, 0, 0)
set_option maxRecDepth 20000 in
theorem okX11_image : MOk (mdX11_image) 0 := ⟨tb_in (t6_in (List.mem_of_getElem? (i := 54) rfl)) rfl, tb_in (t1_in (List.mem_of_getElem? (i := 1) rfl)) rfl, ⟨by decide, by decide, by decide +kernel⟩, by decide⟩
set_option maxRecDepth 20000 in
theorem inX11_image : Cond.instanceMethod (mY (mdX11_image)) ∈ tblG := tb_in (t6_in (List.mem_of_getElem? (i := 52) rfl)) rfl
set_option maxRecDepth 20000 in
theorem viX11_image : MVi (mdX11_image) := ⟨inX11_image, tb_in (t6_in (List.mem_of_getElem? (i := 53) rfl)) rfl⟩
def mdX11_back : MD := (yX11_back, cX11_back, 1, some .int, 1, 0, 0)
set_option maxRecDepth 20000 in
theorem okX11_back : MOk (mdX11_back) 0 := ⟨tb_in (t6_in (List.mem_of_getElem? (i := 67) rfl)) rfl, tb_in (t1_in (List.mem_of_getElem? (i := 1) rfl)) rfl, ⟨by decide, by decide, by decide +kernel⟩, by decide⟩
set_option maxRecDepth 20000 in
theorem inX11_back : Cond.instanceMethod (mY (mdX11_back)) ∈ tblG := tb_in (t6_in (List.mem_of_getElem? (i := 65) rfl)) rfl
set_option maxRecDepth 20000 in
theorem viX11_back : MVi (mdX11_back) := ⟨inX11_back, tb_in (t6_in (List.mem_of_getElem? (i := 66) rfl)) rfl⟩
def mdX11_about : MD := (yX11_about, cX11_about, 2, some .int, 0, 0, 0)
set_option maxRecDepth 20000 in
theorem okX11_about : MOk (mdX11_about) 1 := ⟨tb_in (t6_in (List.mem_of_getElem? (i := 71) rfl)) rfl, tb_in (t1_in (List.mem_of_getElem? (i := 1) rfl)) rfl, ⟨by decide, by decide, by decide +kernel⟩, by decide⟩
set_option maxRecDepth 20000 in
theorem inX11_about : Cond.instanceMethod (mY (mdX11_about)) ∈ tblG := tb_in (t6_in (List.mem_of_getElem? (i := 69) rfl)) rfl
set_option maxRecDepth 20000 in
theorem viX11_about : MVi (mdX11_about) := ⟨inX11_about, tb_in (t6_in (List.mem_of_getElem? (i := 70) rfl)) rfl⟩
def mdX11_isDirection : MD := (yX11_isDirection, cX11_isDirection, 1, some .boolean, 0, 0, 0)
set_option maxRecDepth 20000 in
theorem okX11_isDirection : MOk (mdX11_isDirection) 1 := ⟨tb_in (t2_in (List.mem_of_getElem? (i := 203) rfl)) rfl, tb_in (t1_in (List.mem_of_getElem? (i := 1) rfl)) rfl, ⟨by decide, by decide, by decide +kernel⟩, by decide⟩
set_option maxRecDepth 20000 in
theorem stX11_isDirection : MSt (mdX11_isDirection) := tb_in (t2_in (List.mem_of_getElem? (i := 202) rfl)) rfl
def mdX11_isSlip : MD := (yX11_isSlip, cX11_isSlip, 1, some .boolean, 0, 0, 0)
set_option maxRecDepth 20000 in
theorem okX11_isSlip : MOk (mdX11_isSlip) 1 := ⟨tb_in (t2_in (List.mem_of_getElem? (i := 222) rfl)) rfl, tb_in (t1_in (List.mem_of_getElem? (i := 1) rfl)) rfl, ⟨by decide, by decide, by decide +kernel⟩, by decide⟩
set_option maxRecDepth 20000 in
theorem stX11_isSlip : MSt (mdX11_isSlip) := tb_in (t2_in (List.mem_of_getElem? (i := 221) rfl)) rfl
def mdX11_held : MD := (yX11_held, cX11_held, 3, some .int, 1, 0, 0)
set_option maxRecDepth 20000 in
theorem okX11_held : MOk (mdX11_held) 3 := ⟨tb_in (t4_in (List.mem_of_getElem? (i := 79) rfl)) rfl, tb_in (t1_in (List.mem_of_getElem? (i := 1) rfl)) rfl, ⟨by decide, by decide, by decide +kernel⟩, by decide⟩
set_option maxRecDepth 20000 in
theorem stX11_held : MSt (mdX11_held) := tb_in (t4_in (List.mem_of_getElem? (i := 78) rfl)) rfl
def mdX11_power : MD := (yX11_power, cX11_power, 6, some .long, 0, 0, 0)
set_option maxRecDepth 20000 in
theorem okX11_power : MOk (mdX11_power) 2 := ⟨tb_in (t5_in (List.mem_of_getElem? (i := 189) rfl)) rfl, tb_in (t1_in (List.mem_of_getElem? (i := 1) rfl)) rfl, ⟨by decide, by decide, by decide +kernel⟩, by decide⟩
set_option maxRecDepth 20000 in
theorem stX11_power : MSt (mdX11_power) := tb_in (t5_in (List.mem_of_getElem? (i := 188) rfl)) rfl
def mdX11_inLowestTerms : MD := (yX11_inLowestTerms, cX11_inLowestTerms, 12, some .long, 0, 0, 0)
set_option maxRecDepth 20000 in
theorem okX11_inLowestTerms : MOk (mdX11_inLowestTerms) 3 := ⟨tb_in (t5_in (List.mem_of_getElem? (i := 77) rfl)) rfl, tb_in (t1_in (List.mem_of_getElem? (i := 1) rfl)) rfl, ⟨by decide, by decide, by decide +kernel⟩, by decide⟩
set_option maxRecDepth 20000 in
theorem stX11_inLowestTerms : MSt (mdX11_inLowestTerms) := tb_in (t5_in (List.mem_of_getElem? (i := 76) rfl)) rfl
def mdX12_init : MD := (yX12_init, cX12_init, 1, none, 1, 20, 5844)
set_option maxRecDepth 20000 in
theorem okX12_init : MOk (mdX12_init) 0 := ⟨tb_in (t6_in (List.mem_of_getElem? (i := 76) rfl)) rfl, tb_in (t1_in (List.mem_of_getElem? (i := 13) rfl)) rfl, ⟨by decide, by decide, by decide +kernel⟩, by decide⟩
set_option maxRecDepth 20000 in
theorem inX12_init : Cond.instanceMethod (mY (mdX12_init)) ∈ tblG := tb_in (t6_in (List.mem_of_getElem? (i := 75) rfl)) rfl
def mdX12_copy : MD := (yX12_copy, cX12_copy, 3, none, 0, 0, 0)
set_option maxRecDepth 20000 in
theorem okX12_copy : MOk (mdX12_copy) 2 := ⟨tb_in (t6_in (List.mem_of_getElem? (i := 80) rfl)) rfl, tb_in (t1_in (List.mem_of_getElem? (i := 13) rfl)) rfl, ⟨by decide, by decide, by decide +kernel⟩, by decide⟩
set_option maxRecDepth 20000 in
theorem stX12_copy : MSt (mdX12_copy) := tb_in (t6_in (List.mem_of_getElem? (i := 79) rfl)) rfl
def mdX12_isIn : MD := (yX12_isIn, cX12_isIn, 3, some .boolean, 0, 0, 0)
set_option maxRecDepth 20000 in
theorem okX12_isIn : MOk (mdX12_isIn) 3 := ⟨tb_in (t6_in (List.mem_of_getElem? (i := 230) rfl)) rfl, tb_in (t1_in (List.mem_of_getElem? (i := 13) rfl)) rfl, ⟨by decide, by decide, by decide +kernel⟩, by decide⟩
set_option maxRecDepth 20000 in
theorem stX12_isIn : MSt (mdX12_isIn) := tb_in (t6_in (List.mem_of_getElem? (i := 229) rfl)) rfl
def mdX12_has : MD := (yX12_has, cX12_has, 2, some .boolean, 0, 0, 0)
set_option maxRecDepth 20000 in
theorem okX12_has : MOk (mdX12_has) 2 := ⟨tb_in (t7_in (List.mem_of_getElem? (i := 100) rfl)) rfl, tb_in (t1_in (List.mem_of_getElem? (i := 13) rfl)) rfl, ⟨by decide, by decide, by decide +kernel⟩, by decide⟩
set_option maxRecDepth 20000 in
theorem stX12_has : MSt (mdX12_has) := tb_in (t7_in (List.mem_of_getElem? (i := 99) rfl)) rfl
def mdX12_bits : MD := (yX12_bits, cX12_bits, 3, some .int, 0, 0, 0)
set_option maxRecDepth 20000 in
theorem okX12_bits : MOk (mdX12_bits) 1 := ⟨tb_in (t8_in (List.mem_of_getElem? (i := 189) rfl)) rfl, tb_in (t1_in (List.mem_of_getElem? (i := 13) rfl)) rfl, ⟨by decide, by decide, by decide +kernel⟩, by decide⟩
set_option maxRecDepth 20000 in
theorem stX12_bits : MSt (mdX12_bits) := tb_in (t8_in (List.mem_of_getElem? (i := 188) rfl)) rfl
def mdX12_isCorner : MD := (yX12_isCorner, cX12_isCorner, 2, some .boolean, 1, 0, 0)
set_option maxRecDepth 20000 in
theorem okX12_isCorner : MOk (mdX12_isCorner) 1 := ⟨tb_in (t6_in (List.mem_of_getElem? (i := 238) rfl)) rfl, tb_in (t1_in (List.mem_of_getElem? (i := 13) rfl)) rfl, ⟨by decide, by decide, by decide +kernel⟩, by decide⟩
set_option maxRecDepth 20000 in
theorem inX12_isCorner : Cond.instanceMethod (mY (mdX12_isCorner)) ∈ tblG := tb_in (t6_in (List.mem_of_getElem? (i := 237) rfl)) rfl
set_option maxRecDepth 20000 in
theorem viX12_isCorner : MVi (mdX12_isCorner) := ⟨inX12_isCorner, tp_in (List.mem_of_getElem? (i := 52) rfl) rfl⟩
def mdX12_isTeller : MD := (yX12_isTeller, cX12_isTeller, 2, some .boolean, 1, 0, 0)
set_option maxRecDepth 20000 in
theorem okX12_isTeller : MOk (mdX12_isTeller) 1 := ⟨tb_in (t7_in (List.mem_of_getElem? (i := 18) rfl)) rfl, tb_in (t1_in (List.mem_of_getElem? (i := 13) rfl)) rfl, ⟨by decide, by decide, by decide +kernel⟩, by decide⟩
set_option maxRecDepth 20000 in
theorem inX12_isTeller : Cond.instanceMethod (mY (mdX12_isTeller)) ∈ tblG := tb_in (t7_in (List.mem_of_getElem? (i := 17) rfl)) rfl
set_option maxRecDepth 20000 in
theorem viX12_isTeller : MVi (mdX12_isTeller) := ⟨inX12_isTeller, tp_in (List.mem_of_getElem? (i := 54) rfl) rfl⟩
def mdX12_isTelling : MD := (yX12_isTelling, cX12_isTelling, 2, some .boolean, 1, 0, 0)
set_option maxRecDepth 20000 in
theorem okX12_isTelling : MOk (mdX12_isTelling) 1 := ⟨tb_in (t8_in (List.mem_of_getElem? (i := 50) rfl)) rfl, tb_in (t1_in (List.mem_of_getElem? (i := 13) rfl)) rfl, ⟨by decide, by decide, by decide +kernel⟩, by decide⟩
set_option maxRecDepth 20000 in
theorem inX12_isTelling : Cond.instanceMethod (mY (mdX12_isTelling)) ∈ tblG := tb_in (t8_in (List.mem_of_getElem? (i := 49) rfl)) rfl
set_option maxRecDepth 20000 in
theorem viX12_isTelling : MVi (mdX12_isTelling) := ⟨inX12_isTelling, tp_in (List.mem_of_getElem? (i := 99) rfl) rfl⟩
def mdX12_sightOf : MD := (yX12_sightOf, cX12_sightOf, 2, some .int, 0, 0, 0)
set_option maxRecDepth 20000 in
theorem okX12_sightOf : MOk (mdX12_sightOf) 1 := ⟨tb_in (t7_in (List.mem_of_getElem? (i := 239) rfl)) rfl, tb_in (t1_in (List.mem_of_getElem? (i := 13) rfl)) rfl, ⟨by decide, by decide, by decide +kernel⟩, by decide⟩
set_option maxRecDepth 20000 in
theorem inX12_sightOf : Cond.instanceMethod (mY (mdX12_sightOf)) ∈ tblG := tb_in (t7_in (List.mem_of_getElem? (i := 238) rfl)) rfl
set_option maxRecDepth 20000 in
theorem viX12_sightOf : MVi (mdX12_sightOf) := ⟨inX12_sightOf, tp_in (List.mem_of_getElem? (i := 92) rfl) rfl⟩
def mdX12_streetOf : MD := (yX12_streetOf, cX12_streetOf, 3, some .int, 0, 0, 0)
set_option maxRecDepth 20000 in
theorem okX12_streetOf : MOk (mdX12_streetOf) 2 := ⟨tb_in (t7_in (List.mem_of_getElem? (i := 2) rfl)) rfl, tb_in (t1_in (List.mem_of_getElem? (i := 13) rfl)) rfl, ⟨by decide, by decide, by decide +kernel⟩, by decide⟩
set_option maxRecDepth 20000 in
theorem inX12_streetOf : Cond.instanceMethod (mY (mdX12_streetOf)) ∈ tblG := tb_in (t7_in (List.mem_of_getElem? (i := 1) rfl)) rfl
set_option maxRecDepth 20000 in
theorem viX12_streetOf : MVi (mdX12_streetOf) := ⟨inX12_streetOf, tp_in (List.mem_of_getElem? (i := 53) rfl) rfl⟩
def mdX12_isLane : MD := (yX12_isLane, cX12_isLane, 3, some .boolean, 0, 0, 0)
set_option maxRecDepth 20000 in
theorem okX12_isLane : MOk (mdX12_isLane) 2 := ⟨tb_in (t7_in (List.mem_of_getElem? (i := 235) rfl)) rfl, tb_in (t1_in (List.mem_of_getElem? (i := 13) rfl)) rfl, ⟨by decide, by decide, by decide +kernel⟩, by decide⟩
set_option maxRecDepth 20000 in
theorem inX12_isLane : Cond.instanceMethod (mY (mdX12_isLane)) ∈ tblG := tb_in (t7_in (List.mem_of_getElem? (i := 234) rfl)) rfl
set_option maxRecDepth 20000 in
theorem viX12_isLane : MVi (mdX12_isLane) := ⟨inX12_isLane, tp_in (List.mem_of_getElem? (i := 91) rfl) rfl⟩
def mdX12_corner : MD := (yX12_corner, cX12_corner, 4, some .int, 1, 0, 0)
set_option maxRecDepth 20000 in
theorem okX12_corner : MOk (mdX12_corner) 1 := ⟨tb_in (t6_in (List.mem_of_getElem? (i := 227) rfl)) rfl, tb_in (t1_in (List.mem_of_getElem? (i := 13) rfl)) rfl, ⟨by decide, by decide, by decide +kernel⟩, by decide⟩
set_option maxRecDepth 20000 in
theorem inX12_corner : Cond.instanceMethod (mY (mdX12_corner)) ∈ tblG := tb_in (t6_in (List.mem_of_getElem? (i := 225) rfl)) rfl
set_option maxRecDepth 20000 in
theorem viX12_corner : MVi (mdX12_corner) := ⟨inX12_corner, tb_in (t6_in (List.mem_of_getElem? (i := 226) rfl)) rfl⟩
def mdX12_street : MD := (yX12_street, cX12_street, 6, some .boolean, 2, 0, 0)
set_option maxRecDepth 20000 in
theorem okX12_street : MOk (mdX12_street) 4 := ⟨tb_in (t6_in (List.mem_of_getElem? (i := 234) rfl)) rfl, tb_in (t1_in (List.mem_of_getElem? (i := 13) rfl)) rfl, ⟨by decide, by decide, by decide +kernel⟩, by decide⟩
set_option maxRecDepth 20000 in
theorem inX12_street : Cond.instanceMethod (mY (mdX12_street)) ∈ tblG := tb_in (t6_in (List.mem_of_getElem? (i := 232) rfl)) rfl
set_option maxRecDepth 20000 in
theorem viX12_street : MVi (mdX12_street) := ⟨inX12_street, tb_in (t6_in (List.mem_of_getElem? (i := 233) rfl)) rfl⟩
def mdX12_goal : MD := (yX12_goal, cX12_goal, 2, some .boolean, 2, 0, 0)
set_option maxRecDepth 20000 in
theorem okX12_goal : MOk (mdX12_goal) 1 := ⟨tb_in (t7_in (List.mem_of_getElem? (i := 6) rfl)) rfl, tb_in (t1_in (List.mem_of_getElem? (i := 13) rfl)) rfl, ⟨by decide, by decide, by decide +kernel⟩, by decide⟩
set_option maxRecDepth 20000 in
theorem inX12_goal : Cond.instanceMethod (mY (mdX12_goal)) ∈ tblG := tb_in (t7_in (List.mem_of_getElem? (i := 4) rfl)) rfl
set_option maxRecDepth 20000 in
theorem viX12_goal : MVi (mdX12_goal) := ⟨inX12_goal, tb_in (t7_in (List.mem_of_getElem? (i := 5) rfl)) rfl⟩
def mdX12_teller : MD := (yX12_teller, cX12_teller, 6, some .int, 2, 0, 0)
set_option maxRecDepth 20000 in
theorem okX12_teller : MOk (mdX12_teller) 4 := ⟨tb_in (t7_in (List.mem_of_getElem? (i := 10) rfl)) rfl, tb_in (t1_in (List.mem_of_getElem? (i := 13) rfl)) rfl, ⟨by decide, by decide, by decide +kernel⟩, by decide⟩
set_option maxRecDepth 20000 in
theorem inX12_teller : Cond.instanceMethod (mY (mdX12_teller)) ∈ tblG := tb_in (t7_in (List.mem_of_getElem? (i := 8) rfl)) rfl
set_option maxRecDepth 20000 in
theorem viX12_teller : MVi (mdX12_teller) := ⟨inX12_teller, tb_in (t7_in (List.mem_of_getElem? (i := 9) rfl)) rfl⟩
def mdX12_isTurn : MD := (yX12_isTurn, cX12_isTurn, 1, some .boolean, 1, 0, 0)
set_option maxRecDepth 20000 in
theorem okX12_isTurn : MOk (mdX12_isTurn) 1 := ⟨tb_in (t7_in (List.mem_of_getElem? (i := 27) rfl)) rfl, tb_in (t1_in (List.mem_of_getElem? (i := 13) rfl)) rfl, ⟨by decide, by decide, by decide +kernel⟩, by decide⟩
set_option maxRecDepth 20000 in
theorem stX12_isTurn : MSt (mdX12_isTurn) := tb_in (t7_in (List.mem_of_getElem? (i := 26) rfl)) rfl
def mdX12_take : MD := (yX12_take, cX12_take, 5, some .boolean, 2, 0, 0)
set_option maxRecDepth 20000 in
theorem okX12_take : MOk (mdX12_take) 1 := ⟨tb_in (t7_in (List.mem_of_getElem? (i := 22) rfl)) rfl, tb_in (t1_in (List.mem_of_getElem? (i := 13) rfl)) rfl, ⟨by decide, by decide, by decide +kernel⟩, by decide⟩
set_option maxRecDepth 20000 in
theorem inX12_take : Cond.instanceMethod (mY (mdX12_take)) ∈ tblG := tb_in (t7_in (List.mem_of_getElem? (i := 21) rfl)) rfl
set_option maxRecDepth 20000 in
theorem viX12_take : MVi (mdX12_take) := ⟨inX12_take, tp_in (List.mem_of_getElem? (i := 55) rfl) rfl⟩
def mdX12_tellNow : MD := (yX12_tellNow, cX12_tellNow, 5, some .int, 0, 0, 0)
set_option maxRecDepth 20000 in
theorem okX12_tellNow : MOk (mdX12_tellNow) 2 := ⟨tb_in (t7_in (List.mem_of_getElem? (i := 31) rfl)) rfl, tb_in (t1_in (List.mem_of_getElem? (i := 13) rfl)) rfl, ⟨by decide, by decide, by decide +kernel⟩, by decide⟩
set_option maxRecDepth 20000 in
theorem inX12_tellNow : Cond.instanceMethod (mY (mdX12_tellNow)) ∈ tblG := tb_in (t7_in (List.mem_of_getElem? (i := 30) rfl)) rfl
set_option maxRecDepth 20000 in
theorem viX12_tellNow : MVi (mdX12_tellNow) := ⟨inX12_tellNow, tp_in (List.mem_of_getElem? (i := 56) rfl) rfl⟩
def mdX12_telling : MD := (yX12_telling, cX12_telling, 5, some .int, 3, 0, 0)
set_option maxRecDepth 20000 in
theorem okX12_telling : MOk (mdX12_telling) 4 := ⟨tb_in (t7_in (List.mem_of_getElem? (i := 14) rfl)) rfl, tb_in (t1_in (List.mem_of_getElem? (i := 13) rfl)) rfl, ⟨by decide, by decide, by decide +kernel⟩, by decide⟩
set_option maxRecDepth 20000 in
theorem inX12_telling : Cond.instanceMethod (mY (mdX12_telling)) ∈ tblG := tb_in (t7_in (List.mem_of_getElem? (i := 12) rfl)) rfl
set_option maxRecDepth 20000 in
theorem viX12_telling : MVi (mdX12_telling) := ⟨inX12_telling, tb_in (t7_in (List.mem_of_getElem? (i := 13) rfl)) rfl⟩
def mdX12_tellerOf : MD := (yX12_tellerOf, cX12_tellerOf, 2, some .int, 0, 0, 0)
set_option maxRecDepth 20000 in
theorem okX12_tellerOf : MOk (mdX12_tellerOf) 1 := ⟨tb_in (t8_in (List.mem_of_getElem? (i := 150) rfl)) rfl, tb_in (t1_in (List.mem_of_getElem? (i := 13) rfl)) rfl, ⟨by decide, by decide, by decide +kernel⟩, by decide⟩
set_option maxRecDepth 20000 in
theorem inX12_tellerOf : Cond.instanceMethod (mY (mdX12_tellerOf)) ∈ tblG := tb_in (t8_in (List.mem_of_getElem? (i := 149) rfl)) rfl
set_option maxRecDepth 20000 in
theorem viX12_tellerOf : MVi (mdX12_tellerOf) := ⟨inX12_tellerOf, tp_in (List.mem_of_getElem? (i := 116) rfl) rfl⟩
def mdX12_facingOf : MD := (yX12_facingOf, cX12_facingOf, 2, some .int, 0, 0, 0)
set_option maxRecDepth 20000 in
theorem okX12_facingOf : MOk (mdX12_facingOf) 1 := ⟨tb_in (t8_in (List.mem_of_getElem? (i := 154) rfl)) rfl, tb_in (t1_in (List.mem_of_getElem? (i := 13) rfl)) rfl, ⟨by decide, by decide, by decide +kernel⟩, by decide⟩
set_option maxRecDepth 20000 in
theorem inX12_facingOf : Cond.instanceMethod (mY (mdX12_facingOf)) ∈ tblG := tb_in (t8_in (List.mem_of_getElem? (i := 153) rfl)) rfl
set_option maxRecDepth 20000 in
theorem viX12_facingOf : MVi (mdX12_facingOf) := ⟨inX12_facingOf, tp_in (List.mem_of_getElem? (i := 117) rfl) rfl⟩
def mdX12_turnsOf : MD := (yX12_turnsOf, cX12_turnsOf, 2, some .int, 0, 0, 0)
set_option maxRecDepth 20000 in
theorem okX12_turnsOf : MOk (mdX12_turnsOf) 1 := ⟨tb_in (t8_in (List.mem_of_getElem? (i := 58) rfl)) rfl, tb_in (t1_in (List.mem_of_getElem? (i := 13) rfl)) rfl, ⟨by decide, by decide, by decide +kernel⟩, by decide⟩
set_option maxRecDepth 20000 in
theorem inX12_turnsOf : Cond.instanceMethod (mY (mdX12_turnsOf)) ∈ tblG := tb_in (t8_in (List.mem_of_getElem? (i := 57) rfl)) rfl
set_option maxRecDepth 20000 in
theorem viX12_turnsOf : MVi (mdX12_turnsOf) := ⟨inX12_turnsOf, tp_in (List.mem_of_getElem? (i := 101) rfl) rfl⟩
def mdX12_turnAt : MD := (yX12_turnAt, cX12_turnAt, 3, some .int, 0, 0, 0)
set_option maxRecDepth 20000 in
theorem okX12_turnAt : MOk (mdX12_turnAt) 2 := ⟨tb_in (t8_in (List.mem_of_getElem? (i := 62) rfl)) rfl, tb_in (t1_in (List.mem_of_getElem? (i := 13) rfl)) rfl, ⟨by decide, by decide, by decide +kernel⟩, by decide⟩
set_option maxRecDepth 20000 in
theorem inX12_turnAt : Cond.instanceMethod (mY (mdX12_turnAt)) ∈ tblG := tb_in (t8_in (List.mem_of_getElem? (i := 61) rfl)) rfl
set_option maxRecDepth 20000 in
theorem viX12_turnAt : MVi (mdX12_turnAt) := ⟨inX12_turnAt, tp_in (List.mem_of_getElem? (i := 102) rfl) rfl⟩
def mdX12_cornerOf : MD := (yX12_cornerOf, cX12_cornerOf, 2, some .int, 0, 0, 0)
set_option maxRecDepth 20000 in
theorem okX12_cornerOf : MOk (mdX12_cornerOf) 1 := ⟨tb_in (t8_in (List.mem_of_getElem? (i := 30) rfl)) rfl, tb_in (t1_in (List.mem_of_getElem? (i := 13) rfl)) rfl, ⟨by decide, by decide, by decide +kernel⟩, by decide⟩
set_option maxRecDepth 20000 in
theorem inX12_cornerOf : Cond.instanceMethod (mY (mdX12_cornerOf)) ∈ tblG := tb_in (t8_in (List.mem_of_getElem? (i := 29) rfl)) rfl
set_option maxRecDepth 20000 in
theorem viX12_cornerOf : MVi (mdX12_cornerOf) := ⟨inX12_cornerOf, tp_in (List.mem_of_getElem? (i := 95) rfl) rfl⟩
def mdX12_four : MD := (yX12_four, cX12_four, 3, none, 0, 0, 0)
set_option maxRecDepth 20000 in
theorem okX12_four : MOk (mdX12_four) 1 := ⟨tb_in (t7_in (List.mem_of_getElem? (i := 39) rfl)) rfl, tb_in (t1_in (List.mem_of_getElem? (i := 13) rfl)) rfl, ⟨by decide, by decide, by decide +kernel⟩, by decide⟩
set_option maxRecDepth 20000 in
theorem inX12_four : Cond.instanceMethod (mY (mdX12_four)) ∈ tblG := tb_in (t7_in (List.mem_of_getElem? (i := 38) rfl)) rfl
set_option maxRecDepth 20000 in
theorem viX12_four : MVi (mdX12_four) := ⟨inX12_four, tp_in (List.mem_of_getElem? (i := 57) rfl) rfl⟩
def mdX12_feed : MD := (yX12_feed, cX12_feed, 6, some .int, 1, 0, 0)
set_option maxRecDepth 20000 in
theorem okX12_feed : MOk (mdX12_feed) 5 := ⟨tb_in (t7_in (List.mem_of_getElem? (i := 35) rfl)) rfl, tb_in (t1_in (List.mem_of_getElem? (i := 13) rfl)) rfl, ⟨by decide, by decide, by decide +kernel⟩, by decide⟩
set_option maxRecDepth 20000 in
theorem inX12_feed : Cond.instanceMethod (mY (mdX12_feed)) ∈ tblG := tb_in (t7_in (List.mem_of_getElem? (i := 33) rfl)) rfl
set_option maxRecDepth 20000 in
theorem viX12_feed : MVi (mdX12_feed) := ⟨inX12_feed, tb_in (t7_in (List.mem_of_getElem? (i := 34) rfl)) rfl⟩
def mdX12_end : MD := (yX12_end, cX12_end, 2, some .int, 1, 0, 0)
set_option maxRecDepth 20000 in
theorem okX12_end : MOk (mdX12_end) 1 := ⟨tb_in (t7_in (List.mem_of_getElem? (i := 43) rfl)) rfl, tb_in (t1_in (List.mem_of_getElem? (i := 13) rfl)) rfl, ⟨by decide, by decide, by decide +kernel⟩, by decide⟩
set_option maxRecDepth 20000 in
theorem inX12_end : Cond.instanceMethod (mY (mdX12_end)) ∈ tblG := tb_in (t7_in (List.mem_of_getElem? (i := 41) rfl)) rfl
set_option maxRecDepth 20000 in
theorem viX12_end : MVi (mdX12_end) := ⟨inX12_end, tb_in (t7_in (List.mem_of_getElem? (i := 42) rfl)) rfl⟩
def mdX12_byteAt : MD := (yX12_byteAt, cX12_byteAt, 2, some .int, 0, 0, 0)
set_option maxRecDepth 20000 in
theorem okX12_byteAt : MOk (mdX12_byteAt) 1 := ⟨tb_in (t7_in (List.mem_of_getElem? (i := 59) rfl)) rfl, tb_in (t1_in (List.mem_of_getElem? (i := 13) rfl)) rfl, ⟨by decide, by decide, by decide +kernel⟩, by decide⟩
set_option maxRecDepth 20000 in
theorem inX12_byteAt : Cond.instanceMethod (mY (mdX12_byteAt)) ∈ tblG := tb_in (t7_in (List.mem_of_getElem? (i := 58) rfl)) rfl
set_option maxRecDepth 20000 in
theorem viX12_byteAt : MVi (mdX12_byteAt) := ⟨inX12_byteAt, tp_in (List.mem_of_getElem? (i := 60) rfl) rfl⟩
def mdX12_isLetterByte : MD := (yX12_isLetterByte, cX12_isLetterByte, 1, some .boolean, 0, 0, 0)
set_option maxRecDepth 20000 in
theorem okX12_isLetterByte : MOk (mdX12_isLetterByte) 1 := ⟨tb_in (t7_in (List.mem_of_getElem? (i := 66) rfl)) rfl, tb_in (t1_in (List.mem_of_getElem? (i := 13) rfl)) rfl, ⟨by decide, by decide, by decide +kernel⟩, by decide⟩
set_option maxRecDepth 20000 in
theorem stX12_isLetterByte : MSt (mdX12_isLetterByte) := tb_in (t7_in (List.mem_of_getElem? (i := 65) rfl)) rfl
def mdX12_isFigure : MD := (yX12_isFigure, cX12_isFigure, 1, some .boolean, 0, 0, 0)
set_option maxRecDepth 20000 in
theorem okX12_isFigure : MOk (mdX12_isFigure) 1 := ⟨tb_in (t7_in (List.mem_of_getElem? (i := 62) rfl)) rfl, tb_in (t1_in (List.mem_of_getElem? (i := 13) rfl)) rfl, ⟨by decide, by decide, by decide +kernel⟩, by decide⟩
set_option maxRecDepth 20000 in
theorem stX12_isFigure : MSt (mdX12_isFigure) := tb_in (t7_in (List.mem_of_getElem? (i := 61) rfl)) rfl
def mdX12_isSign : MD := (yX12_isSign, cX12_isSign, 1, some .boolean, 0, 0, 0)
set_option maxRecDepth 20000 in
theorem okX12_isSign : MOk (mdX12_isSign) 1 := ⟨tb_in (t7_in (List.mem_of_getElem? (i := 70) rfl)) rfl, tb_in (t1_in (List.mem_of_getElem? (i := 13) rfl)) rfl, ⟨by decide, by decide, by decide +kernel⟩, by decide⟩
set_option maxRecDepth 20000 in
theorem stX12_isSign : MSt (mdX12_isSign) := tb_in (t7_in (List.mem_of_getElem? (i := 69) rfl)) rfl
def mdX12_nextToken : MD := (yX12_nextToken, cX12_nextToken, 2, none, 1, 0, 0)
set_option maxRecDepth 20000 in
theorem okX12_nextToken : MOk (mdX12_nextToken) 0 := ⟨tb_in (t7_in (List.mem_of_getElem? (i := 55) rfl)) rfl, tb_in (t1_in (List.mem_of_getElem? (i := 13) rfl)) rfl, ⟨by decide, by decide, by decide +kernel⟩, by decide⟩
set_option maxRecDepth 20000 in
theorem inX12_nextToken : Cond.instanceMethod (mY (mdX12_nextToken)) ∈ tblG := tb_in (t7_in (List.mem_of_getElem? (i := 54) rfl)) rfl
set_option maxRecDepth 20000 in
theorem viX12_nextToken : MVi (mdX12_nextToken) := ⟨inX12_nextToken, tp_in (List.mem_of_getElem? (i := 59) rfl) rfl⟩
def mdX12_w2 : MD := (yX12_w2, cX12_w2, 2, some .long, 0, 0, 0)
set_option maxRecDepth 20000 in
theorem okX12_w2 : MOk (mdX12_w2) 2 := ⟨tb_in (t7_in (List.mem_of_getElem? (i := 90) rfl)) rfl, tb_in (t1_in (List.mem_of_getElem? (i := 13) rfl)) rfl, ⟨by decide, by decide, by decide +kernel⟩, by decide⟩
set_option maxRecDepth 20000 in
theorem stX12_w2 : MSt (mdX12_w2) := tb_in (t7_in (List.mem_of_getElem? (i := 89) rfl)) rfl
def mdX12_w3 : MD := (yX12_w3, cX12_w3, 3, some .long, 1, 0, 0)
set_option maxRecDepth 20000 in
theorem okX12_w3 : MOk (mdX12_w3) 3 := ⟨tb_in (t7_in (List.mem_of_getElem? (i := 87) rfl)) rfl, tb_in (t1_in (List.mem_of_getElem? (i := 13) rfl)) rfl, ⟨by decide, by decide, by decide +kernel⟩, by decide⟩
set_option maxRecDepth 20000 in
theorem stX12_w3 : MSt (mdX12_w3) := tb_in (t7_in (List.mem_of_getElem? (i := 86) rfl)) rfl
def mdX12_w4 : MD := (yX12_w4, cX12_w4, 4, some .long, 2, 0, 0)
set_option maxRecDepth 20000 in
theorem okX12_w4 : MOk (mdX12_w4) 4 := ⟨tb_in (t7_in (List.mem_of_getElem? (i := 84) rfl)) rfl, tb_in (t1_in (List.mem_of_getElem? (i := 13) rfl)) rfl, ⟨by decide, by decide, by decide +kernel⟩, by decide⟩
set_option maxRecDepth 20000 in
theorem stX12_w4 : MSt (mdX12_w4) := tb_in (t7_in (List.mem_of_getElem? (i := 83) rfl)) rfl
def mdX12_w5 : MD := (yX12_w5, cX12_w5, 5, some .long, 3, 0, 0)
set_option maxRecDepth 20000 in
theorem okX12_w5 : MOk (mdX12_w5) 5 := ⟨tb_in (t7_in (List.mem_of_getElem? (i := 81) rfl)) rfl, tb_in (t1_in (List.mem_of_getElem? (i := 13) rfl)) rfl, ⟨by decide, by decide, by decide +kernel⟩, by decide⟩
set_option maxRecDepth 20000 in
theorem stX12_w5 : MSt (mdX12_w5) := tb_in (t7_in (List.mem_of_getElem? (i := 80) rfl)) rfl
def mdX12_w6 : MD := (yX12_w6, cX12_w6, 6, some .long, 4, 0, 0)
set_option maxRecDepth 20000 in
theorem okX12_w6 : MOk (mdX12_w6) 6 := ⟨tb_in (t7_in (List.mem_of_getElem? (i := 97) rfl)) rfl, tb_in (t1_in (List.mem_of_getElem? (i := 13) rfl)) rfl, ⟨by decide, by decide, by decide +kernel⟩, by decide⟩
set_option maxRecDepth 20000 in
theorem stX12_w6 : MSt (mdX12_w6) := tb_in (t7_in (List.mem_of_getElem? (i := 96) rfl)) rfl
def mdX12_isWord : MD := (yX12_isWord, cX12_isWord, 3, some .boolean, 0, 0, 0)
set_option maxRecDepth 20000 in
theorem okX12_isWord : MOk (mdX12_isWord) 1 := ⟨tb_in (t7_in (List.mem_of_getElem? (i := 94) rfl)) rfl, tb_in (t1_in (List.mem_of_getElem? (i := 13) rfl)) rfl, ⟨by decide, by decide, by decide +kernel⟩, by decide⟩
set_option maxRecDepth 20000 in
theorem inX12_isWord : Cond.instanceMethod (mY (mdX12_isWord)) ∈ tblG := tb_in (t7_in (List.mem_of_getElem? (i := 93) rfl)) rfl
set_option maxRecDepth 20000 in
theorem viX12_isWord : MVi (mdX12_isWord) := ⟨inX12_isWord, tp_in (List.mem_of_getElem? (i := 63) rfl) rfl⟩
def mdX12_emit : MD := (yX12_emit, cX12_emit, 3, none, 0, 0, 0)
set_option maxRecDepth 20000 in
theorem okX12_emit : MOk (mdX12_emit) 2 := ⟨tb_in (t7_in (List.mem_of_getElem? (i := 159) rfl)) rfl, tb_in (t1_in (List.mem_of_getElem? (i := 13) rfl)) rfl, ⟨by decide, by decide, by decide +kernel⟩, by decide⟩
set_option maxRecDepth 20000 in
theorem inX12_emit : Cond.instanceMethod (mY (mdX12_emit)) ∈ tblG := tb_in (t7_in (List.mem_of_getElem? (i := 158) rfl)) rfl
set_option maxRecDepth 20000 in
theorem viX12_emit : MVi (mdX12_emit) := ⟨inX12_emit, tp_in (List.mem_of_getElem? (i := 77) rfl) rfl⟩
def mdX12_nameOf : MD := (yX12_nameOf, cX12_nameOf, 1, some .int, 5, 0, 0)
set_option maxRecDepth 20000 in
theorem okX12_nameOf : MOk (mdX12_nameOf) 0 := ⟨tb_in (t7_in (List.mem_of_getElem? (i := 175) rfl)) rfl, tb_in (t1_in (List.mem_of_getElem? (i := 13) rfl)) rfl, ⟨by decide, by decide, by decide +kernel⟩, by decide⟩
set_option maxRecDepth 20000 in
theorem inX12_nameOf : Cond.instanceMethod (mY (mdX12_nameOf)) ∈ tblG := tb_in (t7_in (List.mem_of_getElem? (i := 174) rfl)) rfl
set_option maxRecDepth 20000 in
theorem viX12_nameOf : MVi (mdX12_nameOf) := ⟨inX12_nameOf, tp_in (List.mem_of_getElem? (i := 81) rfl) rfl⟩
def mdX12_isOf : MD := (yX12_isOf, cX12_isOf, 2, some .boolean, 0, 0, 0)
set_option maxRecDepth 20000 in
theorem okX12_isOf : MOk (mdX12_isOf) 1 := ⟨tb_in (t7_in (List.mem_of_getElem? (i := 179) rfl)) rfl, tb_in (t1_in (List.mem_of_getElem? (i := 13) rfl)) rfl, ⟨by decide, by decide, by decide +kernel⟩, by decide⟩
set_option maxRecDepth 20000 in
theorem inX12_isOf : Cond.instanceMethod (mY (mdX12_isOf)) ∈ tblG := tb_in (t7_in (List.mem_of_getElem? (i := 178) rfl)) rfl
set_option maxRecDepth 20000 in
theorem viX12_isOf : MVi (mdX12_isOf) := ⟨inX12_isOf, tp_in (List.mem_of_getElem? (i := 82) rfl) rfl⟩
def mdX12_rank : MD := (yX12_rank, cX12_rank, 1, some .int, 0, 0, 0)
set_option maxRecDepth 20000 in
theorem okX12_rank : MOk (mdX12_rank) 1 := ⟨tb_in (t7_in (List.mem_of_getElem? (i := 151) rfl)) rfl, tb_in (t1_in (List.mem_of_getElem? (i := 13) rfl)) rfl, ⟨by decide, by decide, by decide +kernel⟩, by decide⟩
set_option maxRecDepth 20000 in
theorem stX12_rank : MSt (mdX12_rank) := tb_in (t7_in (List.mem_of_getElem? (i := 150) rfl)) rfl
def mdX12_settlePile : MD := (yX12_settlePile, cX12_settlePile, 2, none, 1, 0, 0)
set_option maxRecDepth 20000 in
theorem okX12_settlePile : MOk (mdX12_settlePile) 1 := ⟨tb_in (t7_in (List.mem_of_getElem? (i := 155) rfl)) rfl, tb_in (t1_in (List.mem_of_getElem? (i := 13) rfl)) rfl, ⟨by decide, by decide, by decide +kernel⟩, by decide⟩
set_option maxRecDepth 20000 in
theorem inX12_settlePile : Cond.instanceMethod (mY (mdX12_settlePile)) ∈ tblG := tb_in (t7_in (List.mem_of_getElem? (i := 154) rfl)) rfl
set_option maxRecDepth 20000 in
theorem viX12_settlePile : MVi (mdX12_settlePile) := ⟨inX12_settlePile, tp_in (List.mem_of_getElem? (i := 76) rfl) rfl⟩
def mdX12_opened : MD := (yX12_opened, cX12_opened, 2, some .int, 2, 0, 0)
set_option maxRecDepth 20000 in
theorem okX12_opened : MOk (mdX12_opened) 1 := ⟨tb_in (t7_in (List.mem_of_getElem? (i := 183) rfl)) rfl, tb_in (t1_in (List.mem_of_getElem? (i := 13) rfl)) rfl, ⟨by decide, by decide, by decide +kernel⟩, by decide⟩
set_option maxRecDepth 20000 in
theorem inX12_opened : Cond.instanceMethod (mY (mdX12_opened)) ∈ tblG := tb_in (t7_in (List.mem_of_getElem? (i := 182) rfl)) rfl
set_option maxRecDepth 20000 in
theorem viX12_opened : MVi (mdX12_opened) := ⟨inX12_opened, tp_in (List.mem_of_getElem? (i := 83) rfl) rfl⟩
def mdX12_beginOne : MD := (yX12_beginOne, cX12_beginOne, 2, some .int, 6, 0, 0)
set_option maxRecDepth 20000 in
theorem okX12_beginOne : MOk (mdX12_beginOne) 0 := ⟨tb_in (t7_in (List.mem_of_getElem? (i := 171) rfl)) rfl, tb_in (t1_in (List.mem_of_getElem? (i := 13) rfl)) rfl, ⟨by decide, by decide, by decide +kernel⟩, by decide⟩
set_option maxRecDepth 20000 in
theorem inX12_beginOne : Cond.instanceMethod (mY (mdX12_beginOne)) ∈ tblG := tb_in (t7_in (List.mem_of_getElem? (i := 170) rfl)) rfl
set_option maxRecDepth 20000 in
theorem viX12_beginOne : MVi (mdX12_beginOne) := ⟨inX12_beginOne, tp_in (List.mem_of_getElem? (i := 80) rfl) rfl⟩
def mdX12_openAt : MD := (yX12_openAt, cX12_openAt, 2, some .int, 0, 0, 0)
set_option maxRecDepth 20000 in
theorem okX12_openAt : MOk (mdX12_openAt) 0 := ⟨tb_in (t7_in (List.mem_of_getElem? (i := 163) rfl)) rfl, tb_in (t1_in (List.mem_of_getElem? (i := 13) rfl)) rfl, ⟨by decide, by decide, by decide +kernel⟩, by decide⟩
set_option maxRecDepth 20000 in
theorem inX12_openAt : Cond.instanceMethod (mY (mdX12_openAt)) ∈ tblG := tb_in (t7_in (List.mem_of_getElem? (i := 162) rfl)) rfl
set_option maxRecDepth 20000 in
theorem viX12_openAt : MVi (mdX12_openAt) := ⟨inX12_openAt, tp_in (List.mem_of_getElem? (i := 78) rfl) rfl⟩
def mdX12_shut : MD := (yX12_shut, cX12_shut, 2, none, 2, 0, 0)
set_option maxRecDepth 20000 in
theorem okX12_shut : MOk (mdX12_shut) 1 := ⟨tb_in (t7_in (List.mem_of_getElem? (i := 167) rfl)) rfl, tb_in (t1_in (List.mem_of_getElem? (i := 13) rfl)) rfl, ⟨by decide, by decide, by decide +kernel⟩, by decide⟩
set_option maxRecDepth 20000 in
theorem inX12_shut : Cond.instanceMethod (mY (mdX12_shut)) ∈ tblG := tb_in (t7_in (List.mem_of_getElem? (i := 166) rfl)) rfl
set_option maxRecDepth 20000 in
theorem viX12_shut : MVi (mdX12_shut) := ⟨inX12_shut, tp_in (List.mem_of_getElem? (i := 79) rfl) rfl⟩
def mdX12_behindOne : MD := (yX12_behindOne, cX12_behindOne, 5, some .int, 3, 0, 0)
set_option maxRecDepth 20000 in
theorem okX12_behindOne : MOk (mdX12_behindOne) 0 := ⟨tb_in (t7_in (List.mem_of_getElem? (i := 148) rfl)) rfl, tb_in (t1_in (List.mem_of_getElem? (i := 13) rfl)) rfl, ⟨by decide, by decide, by decide +kernel⟩, by decide⟩
set_option maxRecDepth 20000 in
theorem inX12_behindOne : Cond.instanceMethod (mY (mdX12_behindOne)) ∈ tblG := tb_in (t7_in (List.mem_of_getElem? (i := 147) rfl)) rfl
set_option maxRecDepth 20000 in
theorem viX12_behindOne : MVi (mdX12_behindOne) := ⟨inX12_behindOne, tp_in (List.mem_of_getElem? (i := 75) rfl) rfl⟩
def mdX12_summed : MD := (yX12_summed, cX12_summed, 3, some .int, 7, 0, 0)
set_option maxRecDepth 20000 in
theorem okX12_summed : MOk (mdX12_summed) 0 := ⟨tb_in (t7_in (List.mem_of_getElem? (i := 144) rfl)) rfl, tb_in (t1_in (List.mem_of_getElem? (i := 13) rfl)) rfl, ⟨by decide, by decide, by decide +kernel⟩, by decide⟩
set_option maxRecDepth 20000 in
theorem inX12_summed : Cond.instanceMethod (mY (mdX12_summed)) ∈ tblG := tb_in (t7_in (List.mem_of_getElem? (i := 143) rfl)) rfl
set_option maxRecDepth 20000 in
theorem viX12_summed : MVi (mdX12_summed) := ⟨inX12_summed, tp_in (List.mem_of_getElem? (i := 74) rfl) rfl⟩
def mdX12_figure : MD := (yX12_figure, cX12_figure, 4, some .int, 2, 0, 0)
set_option maxRecDepth 20000 in
theorem okX12_figure : MOk (mdX12_figure) 3 := ⟨tb_in (t7_in (List.mem_of_getElem? (i := 108) rfl)) rfl, tb_in (t1_in (List.mem_of_getElem? (i := 13) rfl)) rfl, ⟨by decide, by decide, by decide +kernel⟩, by decide⟩
set_option maxRecDepth 20000 in
theorem inX12_figure : Cond.instanceMethod (mY (mdX12_figure)) ∈ tblG := tb_in (t7_in (List.mem_of_getElem? (i := 107) rfl)) rfl
set_option maxRecDepth 20000 in
theorem viX12_figure : MVi (mdX12_figure) := ⟨inX12_figure, tp_in (List.mem_of_getElem? (i := 65) rfl) rfl⟩
def mdX12_worded : MD := (yX12_worded, cX12_worded, 6, some .int, 3, 0, 0)
set_option maxRecDepth 20000 in
theorem okX12_worded : MOk (mdX12_worded) 4 := ⟨tb_in (t7_in (List.mem_of_getElem? (i := 116) rfl)) rfl, tb_in (t1_in (List.mem_of_getElem? (i := 13) rfl)) rfl, ⟨by decide, by decide, by decide +kernel⟩, by decide⟩
set_option maxRecDepth 20000 in
theorem inX12_worded : Cond.instanceMethod (mY (mdX12_worded)) ∈ tblG := tb_in (t7_in (List.mem_of_getElem? (i := 115) rfl)) rfl
set_option maxRecDepth 20000 in
theorem viX12_worded : MVi (mdX12_worded) := ⟨inX12_worded, tp_in (List.mem_of_getElem? (i := 67) rfl) rfl⟩
def mdX12_sideOf : MD := (yX12_sideOf, cX12_sideOf, 3, some .int, 4, 0, 0)
set_option maxRecDepth 20000 in
theorem okX12_sideOf : MOk (mdX12_sideOf) 1 := ⟨tb_in (t7_in (List.mem_of_getElem? (i := 128) rfl)) rfl, tb_in (t1_in (List.mem_of_getElem? (i := 13) rfl)) rfl, ⟨by decide, by decide, by decide +kernel⟩, by decide⟩
set_option maxRecDepth 20000 in
theorem inX12_sideOf : Cond.instanceMethod (mY (mdX12_sideOf)) ∈ tblG := tb_in (t7_in (List.mem_of_getElem? (i := 127) rfl)) rfl
set_option maxRecDepth 20000 in
theorem viX12_sideOf : MVi (mdX12_sideOf) := ⟨inX12_sideOf, tp_in (List.mem_of_getElem? (i := 70) rfl) rfl⟩
def mdX12_streetClause : MD := (yX12_streetClause, cX12_streetClause, 3, some .int, 4, 0, 0)
set_option maxRecDepth 20000 in
theorem okX12_streetClause : MOk (mdX12_streetClause) 1 := ⟨tb_in (t7_in (List.mem_of_getElem? (i := 112) rfl)) rfl, tb_in (t1_in (List.mem_of_getElem? (i := 13) rfl)) rfl, ⟨by decide, by decide, by decide +kernel⟩, by decide⟩
set_option maxRecDepth 20000 in
theorem inX12_streetClause : Cond.instanceMethod (mY (mdX12_streetClause)) ∈ tblG := tb_in (t7_in (List.mem_of_getElem? (i := 111) rfl)) rfl
set_option maxRecDepth 20000 in
theorem viX12_streetClause : MVi (mdX12_streetClause) := ⟨inX12_streetClause, tp_in (List.mem_of_getElem? (i := 66) rfl) rfl⟩
def mdX12_oneTurn : MD := (yX12_oneTurn, cX12_oneTurn, 6, some .int, 5, 0, 0)
set_option maxRecDepth 20000 in
theorem okX12_oneTurn : MOk (mdX12_oneTurn) 2 := ⟨tb_in (t7_in (List.mem_of_getElem? (i := 124) rfl)) rfl, tb_in (t1_in (List.mem_of_getElem? (i := 13) rfl)) rfl, ⟨by decide, by decide, by decide +kernel⟩, by decide⟩
set_option maxRecDepth 20000 in
theorem inX12_oneTurn : Cond.instanceMethod (mY (mdX12_oneTurn)) ∈ tblG := tb_in (t7_in (List.mem_of_getElem? (i := 123) rfl)) rfl
set_option maxRecDepth 20000 in
theorem viX12_oneTurn : MVi (mdX12_oneTurn) := ⟨inX12_oneTurn, tp_in (List.mem_of_getElem? (i := 69) rfl) rfl⟩
def mdX12_tellingClause : MD := (yX12_tellingClause, cX12_tellingClause, 4, some .int, 6, 0, 0)
set_option maxRecDepth 20000 in
theorem okX12_tellingClause : MOk (mdX12_tellingClause) 1 := ⟨tb_in (t7_in (List.mem_of_getElem? (i := 120) rfl)) rfl, tb_in (t1_in (List.mem_of_getElem? (i := 13) rfl)) rfl, ⟨by decide, by decide, by decide +kernel⟩, by decide⟩
set_option maxRecDepth 20000 in
theorem inX12_tellingClause : Cond.instanceMethod (mY (mdX12_tellingClause)) ∈ tblG := tb_in (t7_in (List.mem_of_getElem? (i := 119) rfl)) rfl
set_option maxRecDepth 20000 in
theorem viX12_tellingClause : MVi (mdX12_tellingClause) := ⟨inX12_tellingClause, tp_in (List.mem_of_getElem? (i := 68) rfl) rfl⟩
def mdX12_startClause : MD := (yX12_startClause, cX12_startClause, 3, some .int, 5, 0, 0)
set_option maxRecDepth 20000 in
theorem okX12_startClause : MOk (mdX12_startClause) 1 := ⟨tb_in (t7_in (List.mem_of_getElem? (i := 132) rfl)) rfl, tb_in (t1_in (List.mem_of_getElem? (i := 13) rfl)) rfl, ⟨by decide, by decide, by decide +kernel⟩, by decide⟩
set_option maxRecDepth 20000 in
theorem inX12_startClause : Cond.instanceMethod (mY (mdX12_startClause)) ∈ tblG := tb_in (t7_in (List.mem_of_getElem? (i := 131) rfl)) rfl
set_option maxRecDepth 20000 in
theorem viX12_startClause : MVi (mdX12_startClause) := ⟨inX12_startClause, tp_in (List.mem_of_getElem? (i := 71) rfl) rfl⟩
def mdX12_turnClause : MD := (yX12_turnClause, cX12_turnClause, 3, some .int, 5, 0, 0)
set_option maxRecDepth 20000 in
theorem okX12_turnClause : MOk (mdX12_turnClause) 1 := ⟨tb_in (t7_in (List.mem_of_getElem? (i := 136) rfl)) rfl, tb_in (t1_in (List.mem_of_getElem? (i := 13) rfl)) rfl, ⟨by decide, by decide, by decide +kernel⟩, by decide⟩
set_option maxRecDepth 20000 in
theorem inX12_turnClause : Cond.instanceMethod (mY (mdX12_turnClause)) ∈ tblG := tb_in (t7_in (List.mem_of_getElem? (i := 135) rfl)) rfl
set_option maxRecDepth 20000 in
theorem viX12_turnClause : MVi (mdX12_turnClause) := ⟨inX12_turnClause, tp_in (List.mem_of_getElem? (i := 72) rfl) rfl⟩
def mdX12_lawClause : MD := (yX12_lawClause, cX12_lawClause, 3, some .int, 8, 0, 0)
set_option maxRecDepth 20000 in
theorem okX12_lawClause : MOk (mdX12_lawClause) 1 := ⟨tb_in (t7_in (List.mem_of_getElem? (i := 140) rfl)) rfl, tb_in (t1_in (List.mem_of_getElem? (i := 13) rfl)) rfl, ⟨by decide, by decide, by decide +kernel⟩, by decide⟩
set_option maxRecDepth 20000 in
theorem inX12_lawClause : Cond.instanceMethod (mY (mdX12_lawClause)) ∈ tblG := tb_in (t7_in (List.mem_of_getElem? (i := 139) rfl)) rfl
set_option maxRecDepth 20000 in
theorem viX12_lawClause : MVi (mdX12_lawClause) := ⟨inX12_lawClause, tp_in (List.mem_of_getElem? (i := 73) rfl) rfl⟩
def mdX12_body : MD := (yX12_body, cX12_body, 3, some .int, 9, 0, 0)
set_option maxRecDepth 20000 in
theorem okX12_body : MOk (mdX12_body) 2 := ⟨tb_in (t7_in (List.mem_of_getElem? (i := 104) rfl)) rfl, tb_in (t1_in (List.mem_of_getElem? (i := 13) rfl)) rfl, ⟨by decide, by decide, by decide +kernel⟩, by decide⟩
set_option maxRecDepth 20000 in
theorem inX12_body : Cond.instanceMethod (mY (mdX12_body)) ∈ tblG := tb_in (t7_in (List.mem_of_getElem? (i := 103) rfl)) rfl
set_option maxRecDepth 20000 in
theorem viX12_body : MVi (mdX12_body) := ⟨inX12_body, tp_in (List.mem_of_getElem? (i := 64) rfl) rfl⟩
def mdX12_sortOf : MD := (yX12_sortOf, cX12_sortOf, 1, some .int, 5, 0, 0)
set_option maxRecDepth 20000 in
theorem okX12_sortOf : MOk (mdX12_sortOf) 0 := ⟨tb_in (t7_in (List.mem_of_getElem? (i := 78) rfl)) rfl, tb_in (t1_in (List.mem_of_getElem? (i := 13) rfl)) rfl, ⟨by decide, by decide, by decide +kernel⟩, by decide⟩
set_option maxRecDepth 20000 in
theorem inX12_sortOf : Cond.instanceMethod (mY (mdX12_sortOf)) ∈ tblG := tb_in (t7_in (List.mem_of_getElem? (i := 77) rfl)) rfl
set_option maxRecDepth 20000 in
theorem viX12_sortOf : MVi (mdX12_sortOf) := ⟨inX12_sortOf, tp_in (List.mem_of_getElem? (i := 62) rfl) rfl⟩
def mdX12_clause : MD := (yX12_clause, cX12_clause, 5, some .int, 10, 0, 0)
set_option maxRecDepth 20000 in
theorem okX12_clause : MOk (mdX12_clause) 0 := ⟨tb_in (t7_in (List.mem_of_getElem? (i := 74) rfl)) rfl, tb_in (t1_in (List.mem_of_getElem? (i := 13) rfl)) rfl, ⟨by decide, by decide, by decide +kernel⟩, by decide⟩
set_option maxRecDepth 20000 in
theorem inX12_clause : Cond.instanceMethod (mY (mdX12_clause)) ∈ tblG := tb_in (t7_in (List.mem_of_getElem? (i := 73) rfl)) rfl
set_option maxRecDepth 20000 in
theorem viX12_clause : MVi (mdX12_clause) := ⟨inX12_clause, tp_in (List.mem_of_getElem? (i := 61) rfl) rfl⟩
def mdX12_readText : MD := (yX12_readText, cX12_readText, 2, some .int, 11, 0, 0)
set_option maxRecDepth 20000 in
theorem okX12_readText : MOk (mdX12_readText) 0 := ⟨tb_in (t7_in (List.mem_of_getElem? (i := 51) rfl)) rfl, tb_in (t1_in (List.mem_of_getElem? (i := 13) rfl)) rfl, ⟨by decide, by decide, by decide +kernel⟩, by decide⟩
set_option maxRecDepth 20000 in
theorem inX12_readText : Cond.instanceMethod (mY (mdX12_readText)) ∈ tblG := tb_in (t7_in (List.mem_of_getElem? (i := 50) rfl)) rfl
set_option maxRecDepth 20000 in
theorem viX12_readText : MVi (mdX12_readText) := ⟨inX12_readText, tp_in (List.mem_of_getElem? (i := 58) rfl) rfl⟩
def mdX12_text : MD := (yX12_text, cX12_text, 1, some .int, 12, 0, 0)
set_option maxRecDepth 20000 in
theorem okX12_text : MOk (mdX12_text) 0 := ⟨tb_in (t7_in (List.mem_of_getElem? (i := 47) rfl)) rfl, tb_in (t1_in (List.mem_of_getElem? (i := 13) rfl)) rfl, ⟨by decide, by decide, by decide +kernel⟩, by decide⟩
set_option maxRecDepth 20000 in
theorem inX12_text : Cond.instanceMethod (mY (mdX12_text)) ∈ tblG := tb_in (t7_in (List.mem_of_getElem? (i := 45) rfl)) rfl
set_option maxRecDepth 20000 in
theorem viX12_text : MVi (mdX12_text) := ⟨inX12_text, tb_in (t7_in (List.mem_of_getElem? (i := 46) rfl)) rfl⟩
def mdX12_fault : MD := (yX12_fault, cX12_fault, 2, some .int, 0, 0, 0)
set_option maxRecDepth 20000 in
theorem okX12_fault : MOk (mdX12_fault) 1 := ⟨tb_in (t7_in (List.mem_of_getElem? (i := 187) rfl)) rfl, tb_in (t1_in (List.mem_of_getElem? (i := 13) rfl)) rfl, ⟨by decide, by decide, by decide +kernel⟩, by decide⟩
set_option maxRecDepth 20000 in
theorem inX12_fault : Cond.instanceMethod (mY (mdX12_fault)) ∈ tblG := tb_in (t7_in (List.mem_of_getElem? (i := 185) rfl)) rfl
set_option maxRecDepth 20000 in
theorem viX12_fault : MVi (mdX12_fault) := ⟨inX12_fault, tb_in (t7_in (List.mem_of_getElem? (i := 186) rfl)) rfl⟩
def mdX12_by : MD := (yX12_by, cX12_by, 2, some .boolean, 1, 0, 0)
set_option maxRecDepth 20000 in
theorem okX12_by : MOk (mdX12_by) 1 := ⟨tb_in (t7_in (List.mem_of_getElem? (i := 191) rfl)) rfl, tb_in (t1_in (List.mem_of_getElem? (i := 13) rfl)) rfl, ⟨by decide, by decide, by decide +kernel⟩, by decide⟩
set_option maxRecDepth 20000 in
theorem inX12_by : Cond.instanceMethod (mY (mdX12_by)) ∈ tblG := tb_in (t7_in (List.mem_of_getElem? (i := 189) rfl)) rfl
set_option maxRecDepth 20000 in
theorem viX12_by : MVi (mdX12_by) := ⟨inX12_by, tb_in (t7_in (List.mem_of_getElem? (i := 190) rfl)) rfl⟩
def mdX12_held : MD := (yX12_held, cX12_held, 2, some .long, 0, 0, 0)
set_option maxRecDepth 20000 in
theorem okX12_held : MOk (mdX12_held) 1 := ⟨tb_in (t8_in (List.mem_of_getElem? (i := 13) rfl)) rfl, tb_in (t1_in (List.mem_of_getElem? (i := 13) rfl)) rfl, ⟨by decide, by decide, by decide +kernel⟩, by decide⟩
set_option maxRecDepth 20000 in
theorem stX12_held : MSt (mdX12_held) := tb_in (t8_in (List.mem_of_getElem? (i := 12) rfl)) rfl
def mdX12_two : MD := (yX12_two, cX12_two, 5, some .long, 1, 0, 0)
set_option maxRecDepth 20000 in
theorem okX12_two : MOk (mdX12_two) 3 := ⟨tb_in (t8_in (List.mem_of_getElem? (i := 10) rfl)) rfl, tb_in (t1_in (List.mem_of_getElem? (i := 13) rfl)) rfl, ⟨by decide, by decide, by decide +kernel⟩, by decide⟩
set_option maxRecDepth 20000 in
theorem stX12_two : MSt (mdX12_two) := tb_in (t8_in (List.mem_of_getElem? (i := 9) rfl)) rfl
def mdX12_worked : MD := (yX12_worked, cX12_worked, 8, some .int, 2, 0, 0)
set_option maxRecDepth 20000 in
theorem okX12_worked : MOk (mdX12_worked) 1 := ⟨tb_in (t8_in (List.mem_of_getElem? (i := 7) rfl)) rfl, tb_in (t1_in (List.mem_of_getElem? (i := 13) rfl)) rfl, ⟨by decide, by decide, by decide +kernel⟩, by decide⟩
set_option maxRecDepth 20000 in
theorem inX12_worked : Cond.instanceMethod (mY (mdX12_worked)) ∈ tblG := tb_in (t8_in (List.mem_of_getElem? (i := 6) rfl)) rfl
set_option maxRecDepth 20000 in
theorem viX12_worked : MVi (mdX12_worked) := ⟨inX12_worked, tp_in (List.mem_of_getElem? (i := 94) rfl) rfl⟩
def mdX12_says : MD := (yX12_says, cX12_says, 7, some .int, 3, 0, 0)
set_option maxRecDepth 20000 in
theorem okX12_says : MOk (mdX12_says) 4 := ⟨tb_in (t8_in (List.mem_of_getElem? (i := 3) rfl)) rfl, tb_in (t1_in (List.mem_of_getElem? (i := 13) rfl)) rfl, ⟨by decide, by decide, by decide +kernel⟩, by decide⟩
set_option maxRecDepth 20000 in
theorem inX12_says : Cond.instanceMethod (mY (mdX12_says)) ∈ tblG := tb_in (t8_in (List.mem_of_getElem? (i := 2) rfl)) rfl
set_option maxRecDepth 20000 in
theorem viX12_says : MVi (mdX12_says) := ⟨inX12_says, tp_in (List.mem_of_getElem? (i := 93) rfl) rfl⟩
def mdX12_nameTeller : MD := (yX12_nameTeller, cX12_nameTeller, 2, none, 1, 0, 0)
set_option maxRecDepth 20000 in
theorem okX12_nameTeller : MOk (mdX12_nameTeller) 1 := ⟨tb_in (t8_in (List.mem_of_getElem? (i := 42) rfl)) rfl, tb_in (t1_in (List.mem_of_getElem? (i := 13) rfl)) rfl, ⟨by decide, by decide, by decide +kernel⟩, by decide⟩
set_option maxRecDepth 20000 in
theorem inX12_nameTeller : Cond.instanceMethod (mY (mdX12_nameTeller)) ∈ tblG := tb_in (t8_in (List.mem_of_getElem? (i := 41) rfl)) rfl
set_option maxRecDepth 20000 in
theorem viX12_nameTeller : MVi (mdX12_nameTeller) := ⟨inX12_nameTeller, tp_in (List.mem_of_getElem? (i := 98) rfl) rfl⟩
def mdX12_slipOf : MD := (yX12_slipOf, cX12_slipOf, 4, some .int, 4, 0, 0)
set_option maxRecDepth 20000 in
theorem okX12_slipOf : MOk (mdX12_slipOf) 2 := ⟨tb_in (t8_in (List.mem_of_getElem? (i := 146) rfl)) rfl, tb_in (t1_in (List.mem_of_getElem? (i := 13) rfl)) rfl, ⟨by decide, by decide, by decide +kernel⟩, by decide⟩
set_option maxRecDepth 20000 in
theorem inX12_slipOf : Cond.instanceMethod (mY (mdX12_slipOf)) ∈ tblG := tb_in (t8_in (List.mem_of_getElem? (i := 145) rfl)) rfl
set_option maxRecDepth 20000 in
theorem viX12_slipOf : MVi (mdX12_slipOf) := ⟨inX12_slipOf, tp_in (List.mem_of_getElem? (i := 115) rfl) rfl⟩
def mdX12_paceOf : MD := (yX12_paceOf, cX12_paceOf, 3, some .int, 4, 0, 0)
set_option maxRecDepth 20000 in
theorem okX12_paceOf : MOk (mdX12_paceOf) 2 := ⟨tb_in (t7_in (List.mem_of_getElem? (i := 231) rfl)) rfl, tb_in (t1_in (List.mem_of_getElem? (i := 13) rfl)) rfl, ⟨by decide, by decide, by decide +kernel⟩, by decide⟩
set_option maxRecDepth 20000 in
theorem inX12_paceOf : Cond.instanceMethod (mY (mdX12_paceOf)) ∈ tblG := tb_in (t7_in (List.mem_of_getElem? (i := 230) rfl)) rfl
set_option maxRecDepth 20000 in
theorem viX12_paceOf : MVi (mdX12_paceOf) := ⟨inX12_paceOf, tp_in (List.mem_of_getElem? (i := 90) rfl) rfl⟩
def mdX12_asksOf : MD := (yX12_asksOf, cX12_asksOf, 2, some .int, 4, 0, 0)
set_option maxRecDepth 20000 in
theorem okX12_asksOf : MOk (mdX12_asksOf) 1 := ⟨tb_in (t8_in (List.mem_of_getElem? (i := 38) rfl)) rfl, tb_in (t1_in (List.mem_of_getElem? (i := 13) rfl)) rfl, ⟨by decide, by decide, by decide +kernel⟩, by decide⟩
set_option maxRecDepth 20000 in
theorem inX12_asksOf : Cond.instanceMethod (mY (mdX12_asksOf)) ∈ tblG := tb_in (t8_in (List.mem_of_getElem? (i := 37) rfl)) rfl
set_option maxRecDepth 20000 in
theorem viX12_asksOf : MVi (mdX12_asksOf) := ⟨inX12_asksOf, tp_in (List.mem_of_getElem? (i := 97) rfl) rfl⟩
def mdX12_begin : MD := (yX12_begin, cX12_begin, 3, none, 0, 0, 0)
set_option maxRecDepth 20000 in
theorem okX12_begin : MOk (mdX12_begin) 2 := ⟨tb_in (t8_in (List.mem_of_getElem? (i := 66) rfl)) rfl, tb_in (t1_in (List.mem_of_getElem? (i := 13) rfl)) rfl, ⟨by decide, by decide, by decide +kernel⟩, by decide⟩
set_option maxRecDepth 20000 in
theorem inX12_begin : Cond.instanceMethod (mY (mdX12_begin)) ∈ tblG := tb_in (t8_in (List.mem_of_getElem? (i := 65) rfl)) rfl
set_option maxRecDepth 20000 in
theorem viX12_begin : MVi (mdX12_begin) := ⟨inX12_begin, tp_in (List.mem_of_getElem? (i := 103) rfl) rfl⟩
def mdX12_isDoubt : MD := (yX12_isDoubt, cX12_isDoubt, 3, some .boolean, 1, 0, 0)
set_option maxRecDepth 20000 in
theorem okX12_isDoubt : MOk (mdX12_isDoubt) 1 := ⟨tb_in (t8_in (List.mem_of_getElem? (i := 82) rfl)) rfl, tb_in (t1_in (List.mem_of_getElem? (i := 13) rfl)) rfl, ⟨by decide, by decide, by decide +kernel⟩, by decide⟩
set_option maxRecDepth 20000 in
theorem inX12_isDoubt : Cond.instanceMethod (mY (mdX12_isDoubt)) ∈ tblG := tb_in (t8_in (List.mem_of_getElem? (i := 81) rfl)) rfl
set_option maxRecDepth 20000 in
theorem viX12_isDoubt : MVi (mdX12_isDoubt) := ⟨inX12_isDoubt, tp_in (List.mem_of_getElem? (i := 107) rfl) rfl⟩
def mdX12_goOn : MD := (yX12_goOn, cX12_goOn, 1, some .boolean, 5, 0, 0)
set_option maxRecDepth 20000 in
theorem okX12_goOn : MOk (mdX12_goOn) 0 := ⟨tb_in (t8_in (List.mem_of_getElem? (i := 78) rfl)) rfl, tb_in (t1_in (List.mem_of_getElem? (i := 13) rfl)) rfl, ⟨by decide, by decide, by decide +kernel⟩, by decide⟩
set_option maxRecDepth 20000 in
theorem inX12_goOn : Cond.instanceMethod (mY (mdX12_goOn)) ∈ tblG := tb_in (t8_in (List.mem_of_getElem? (i := 77) rfl)) rfl
set_option maxRecDepth 20000 in
theorem viX12_goOn : MVi (mdX12_goOn) := ⟨inX12_goOn, tp_in (List.mem_of_getElem? (i := 106) rfl) rfl⟩
def mdX12_isCounted : MD := (yX12_isCounted, cX12_isCounted, 3, some .boolean, 1, 0, 0)
set_option maxRecDepth 20000 in
theorem okX12_isCounted : MOk (mdX12_isCounted) 2 := ⟨tb_in (t8_in (List.mem_of_getElem? (i := 86) rfl)) rfl, tb_in (t1_in (List.mem_of_getElem? (i := 13) rfl)) rfl, ⟨by decide, by decide, by decide +kernel⟩, by decide⟩
set_option maxRecDepth 20000 in
theorem inX12_isCounted : Cond.instanceMethod (mY (mdX12_isCounted)) ∈ tblG := tb_in (t8_in (List.mem_of_getElem? (i := 85) rfl)) rfl
set_option maxRecDepth 20000 in
theorem viX12_isCounted : MVi (mdX12_isCounted) := ⟨inX12_isCounted, tp_in (List.mem_of_getElem? (i := 108) rfl) rfl⟩
def mdX12_goTurn : MD := (yX12_goTurn, cX12_goTurn, 10, some .boolean, 6, 0, 0)
set_option maxRecDepth 20000 in
theorem okX12_goTurn : MOk (mdX12_goTurn) 2 := ⟨tb_in (t8_in (List.mem_of_getElem? (i := 74) rfl)) rfl, tb_in (t1_in (List.mem_of_getElem? (i := 13) rfl)) rfl, ⟨by decide, by decide, by decide +kernel⟩, by decide⟩
set_option maxRecDepth 20000 in
theorem inX12_goTurn : Cond.instanceMethod (mY (mdX12_goTurn)) ∈ tblG := tb_in (t8_in (List.mem_of_getElem? (i := 73) rfl)) rfl
set_option maxRecDepth 20000 in
theorem viX12_goTurn : MVi (mdX12_goTurn) := ⟨inX12_goTurn, tp_in (List.mem_of_getElem? (i := 105) rfl) rfl⟩
def mdX12_takeTurns : MD := (yX12_takeTurns, cX12_takeTurns, 4, none, 1, 0, 0)
set_option maxRecDepth 20000 in
theorem okX12_takeTurns : MOk (mdX12_takeTurns) 2 := ⟨tb_in (t8_in (List.mem_of_getElem? (i := 54) rfl)) rfl, tb_in (t1_in (List.mem_of_getElem? (i := 13) rfl)) rfl, ⟨by decide, by decide, by decide +kernel⟩, by decide⟩
set_option maxRecDepth 20000 in
theorem inX12_takeTurns : Cond.instanceMethod (mY (mdX12_takeTurns)) ∈ tblG := tb_in (t8_in (List.mem_of_getElem? (i := 53) rfl)) rfl
set_option maxRecDepth 20000 in
theorem viX12_takeTurns : MVi (mdX12_takeTurns) := ⟨inX12_takeTurns, tp_in (List.mem_of_getElem? (i := 100) rfl) rfl⟩
def mdX12_goAll : MD := (yX12_goAll, cX12_goAll, 3, some .boolean, 7, 0, 0)
set_option maxRecDepth 20000 in
theorem okX12_goAll : MOk (mdX12_goAll) 1 := ⟨tb_in (t8_in (List.mem_of_getElem? (i := 70) rfl)) rfl, tb_in (t1_in (List.mem_of_getElem? (i := 13) rfl)) rfl, ⟨by decide, by decide, by decide +kernel⟩, by decide⟩
set_option maxRecDepth 20000 in
theorem inX12_goAll : Cond.instanceMethod (mY (mdX12_goAll)) ∈ tblG := tb_in (t8_in (List.mem_of_getElem? (i := 69) rfl)) rfl
set_option maxRecDepth 20000 in
theorem viX12_goAll : MVi (mdX12_goAll) := ⟨inX12_goAll, tp_in (List.mem_of_getElem? (i := 104) rfl) rfl⟩
def mdX12_leadsOf : MD := (yX12_leadsOf, cX12_leadsOf, 3, some .int, 8, 0, 0)
set_option maxRecDepth 20000 in
theorem okX12_leadsOf : MOk (mdX12_leadsOf) 2 := ⟨tb_in (t8_in (List.mem_of_getElem? (i := 162) rfl)) rfl, tb_in (t1_in (List.mem_of_getElem? (i := 13) rfl)) rfl, ⟨by decide, by decide, by decide +kernel⟩, by decide⟩
set_option maxRecDepth 20000 in
theorem inX12_leadsOf : Cond.instanceMethod (mY (mdX12_leadsOf)) ∈ tblG := tb_in (t8_in (List.mem_of_getElem? (i := 161) rfl)) rfl
set_option maxRecDepth 20000 in
theorem viX12_leadsOf : MVi (mdX12_leadsOf) := ⟨inX12_leadsOf, tp_in (List.mem_of_getElem? (i := 118) rfl) rfl⟩
def mdX12_keep : MD := (yX12_keep, cX12_keep, 3, none, 0, 0, 0)
set_option maxRecDepth 20000 in
theorem okX12_keep : MOk (mdX12_keep) 0 := ⟨tb_in (t7_in (List.mem_of_getElem? (i := 203) rfl)) rfl, tb_in (t1_in (List.mem_of_getElem? (i := 13) rfl)) rfl, ⟨by decide, by decide, by decide +kernel⟩, by decide⟩
set_option maxRecDepth 20000 in
theorem inX12_keep : Cond.instanceMethod (mY (mdX12_keep)) ∈ tblG := tb_in (t7_in (List.mem_of_getElem? (i := 202) rfl)) rfl
set_option maxRecDepth 20000 in
theorem viX12_keep : MVi (mdX12_keep) := ⟨inX12_keep, tp_in (List.mem_of_getElem? (i := 84) rfl) rfl⟩
def mdX12_undo : MD := (yX12_undo, cX12_undo, 3, some .int, 0, 0, 0)
set_option maxRecDepth 20000 in
theorem okX12_undo : MOk (mdX12_undo) 0 := ⟨tb_in (t7_in (List.mem_of_getElem? (i := 195) rfl)) rfl, tb_in (t1_in (List.mem_of_getElem? (i := 13) rfl)) rfl, ⟨by decide, by decide, by decide +kernel⟩, by decide⟩
set_option maxRecDepth 20000 in
theorem inX12_undo : Cond.instanceMethod (mY (mdX12_undo)) ∈ tblG := tb_in (t7_in (List.mem_of_getElem? (i := 193) rfl)) rfl
set_option maxRecDepth 20000 in
theorem viX12_undo : MVi (mdX12_undo) := ⟨inX12_undo, tb_in (t7_in (List.mem_of_getElem? (i := 194) rfl)) rfl⟩
def mdX12_isWalker : MD := (yX12_isWalker, cX12_isWalker, 1, some .boolean, 0, 0, 0)
set_option maxRecDepth 20000 in
theorem okX12_isWalker : MOk (mdX12_isWalker) 0 := ⟨tb_in (t7_in (List.mem_of_getElem? (i := 215) rfl)) rfl, tb_in (t1_in (List.mem_of_getElem? (i := 13) rfl)) rfl, ⟨by decide, by decide, by decide +kernel⟩, by decide⟩
set_option maxRecDepth 20000 in
theorem inX12_isWalker : Cond.instanceMethod (mY (mdX12_isWalker)) ∈ tblG := tb_in (t7_in (List.mem_of_getElem? (i := 214) rfl)) rfl
set_option maxRecDepth 20000 in
theorem viX12_isWalker : MVi (mdX12_isWalker) := ⟨inX12_isWalker, tp_in (List.mem_of_getElem? (i := 86) rfl) rfl⟩
def mdX12_startNow : MD := (yX12_startNow, cX12_startNow, 3, none, 0, 0, 0)
set_option maxRecDepth 20000 in
theorem okX12_startNow : MOk (mdX12_startNow) 2 := ⟨tb_in (t7_in (List.mem_of_getElem? (i := 207) rfl)) rfl, tb_in (t1_in (List.mem_of_getElem? (i := 13) rfl)) rfl, ⟨by decide, by decide, by decide +kernel⟩, by decide⟩
set_option maxRecDepth 20000 in
theorem inX12_startNow : Cond.instanceMethod (mY (mdX12_startNow)) ∈ tblG := tb_in (t7_in (List.mem_of_getElem? (i := 206) rfl)) rfl
set_option maxRecDepth 20000 in
theorem viX12_startNow : MVi (mdX12_startNow) := ⟨inX12_startNow, tp_in (List.mem_of_getElem? (i := 85) rfl) rfl⟩
def mdX12_start : MD := (yX12_start, cX12_start, 3, some .boolean, 2, 0, 0)
set_option maxRecDepth 20000 in
theorem okX12_start : MOk (mdX12_start) 2 := ⟨tb_in (t7_in (List.mem_of_getElem? (i := 199) rfl)) rfl, tb_in (t1_in (List.mem_of_getElem? (i := 13) rfl)) rfl, ⟨by decide, by decide, by decide +kernel⟩, by decide⟩
set_option maxRecDepth 20000 in
theorem inX12_start : Cond.instanceMethod (mY (mdX12_start)) ∈ tblG := tb_in (t7_in (List.mem_of_getElem? (i := 197) rfl)) rfl
set_option maxRecDepth 20000 in
theorem viX12_start : MVi (mdX12_start) := ⟨inX12_start, tb_in (t7_in (List.mem_of_getElem? (i := 198) rfl)) rfl⟩
def mdX12_isAhead : MD := (yX12_isAhead, cX12_isAhead, 1, some .boolean, 1, 0, 0)
set_option maxRecDepth 20000 in
theorem okX12_isAhead : MOk (mdX12_isAhead) 0 := ⟨tb_in (t8_in (List.mem_of_getElem? (i := 126) rfl)) rfl, tb_in (t1_in (List.mem_of_getElem? (i := 13) rfl)) rfl, ⟨by decide, by decide, by decide +kernel⟩, by decide⟩
set_option maxRecDepth 20000 in
theorem inX12_isAhead : Cond.instanceMethod (mY (mdX12_isAhead)) ∈ tblG := tb_in (t8_in (List.mem_of_getElem? (i := 125) rfl)) rfl
set_option maxRecDepth 20000 in
theorem viX12_isAhead : MVi (mdX12_isAhead) := ⟨inX12_isAhead, tp_in (List.mem_of_getElem? (i := 114) rfl) rfl⟩
def mdX12_walkNow : MD := (yX12_walkNow, cX12_walkNow, 2, none, 5, 0, 0)
set_option maxRecDepth 20000 in
theorem okX12_walkNow : MOk (mdX12_walkNow) 0 := ⟨tb_in (t7_in (List.mem_of_getElem? (i := 227) rfl)) rfl, tb_in (t1_in (List.mem_of_getElem? (i := 13) rfl)) rfl, ⟨by decide, by decide, by decide +kernel⟩, by decide⟩
set_option maxRecDepth 20000 in
theorem inX12_walkNow : Cond.instanceMethod (mY (mdX12_walkNow)) ∈ tblG := tb_in (t7_in (List.mem_of_getElem? (i := 226) rfl)) rfl
set_option maxRecDepth 20000 in
theorem viX12_walkNow : MVi (mdX12_walkNow) := ⟨inX12_walkNow, tp_in (List.mem_of_getElem? (i := 89) rfl) rfl⟩
def mdX12_walkable : MD := (yX12_walkable, cX12_walkable, 4, some .int, 1, 0, 0)
set_option maxRecDepth 20000 in
theorem okX12_walkable : MOk (mdX12_walkable) 1 := ⟨tb_in (t7_in (List.mem_of_getElem? (i := 219) rfl)) rfl, tb_in (t1_in (List.mem_of_getElem? (i := 13) rfl)) rfl, ⟨by decide, by decide, by decide +kernel⟩, by decide⟩
set_option maxRecDepth 20000 in
theorem inX12_walkable : Cond.instanceMethod (mY (mdX12_walkable)) ∈ tblG := tb_in (t7_in (List.mem_of_getElem? (i := 218) rfl)) rfl
set_option maxRecDepth 20000 in
theorem viX12_walkable : MVi (mdX12_walkable) := ⟨inX12_walkable, tp_in (List.mem_of_getElem? (i := 87) rfl) rfl⟩
def mdX12_walkSo : MD := (yX12_walkSo, cX12_walkSo, 3, none, 6, 0, 0)
set_option maxRecDepth 20000 in
theorem okX12_walkSo : MOk (mdX12_walkSo) 1 := ⟨tb_in (t7_in (List.mem_of_getElem? (i := 223) rfl)) rfl, tb_in (t1_in (List.mem_of_getElem? (i := 13) rfl)) rfl, ⟨by decide, by decide, by decide +kernel⟩, by decide⟩
set_option maxRecDepth 20000 in
theorem inX12_walkSo : Cond.instanceMethod (mY (mdX12_walkSo)) ∈ tblG := tb_in (t7_in (List.mem_of_getElem? (i := 222) rfl)) rfl
set_option maxRecDepth 20000 in
theorem viX12_walkSo : MVi (mdX12_walkSo) := ⟨inX12_walkSo, tp_in (List.mem_of_getElem? (i := 88) rfl) rfl⟩
def mdX12_walk : MD := (yX12_walk, cX12_walk, 2, some .int, 7, 0, 0)
set_option maxRecDepth 20000 in
theorem okX12_walk : MOk (mdX12_walk) 1 := ⟨tb_in (t7_in (List.mem_of_getElem? (i := 211) rfl)) rfl, tb_in (t1_in (List.mem_of_getElem? (i := 13) rfl)) rfl, ⟨by decide, by decide, by decide +kernel⟩, by decide⟩
set_option maxRecDepth 20000 in
theorem inX12_walk : Cond.instanceMethod (mY (mdX12_walk)) ∈ tblG := tb_in (t7_in (List.mem_of_getElem? (i := 209) rfl)) rfl
set_option maxRecDepth 20000 in
theorem viX12_walk : MVi (mdX12_walk) := ⟨inX12_walk, tb_in (t7_in (List.mem_of_getElem? (i := 210) rfl)) rfl⟩
def mdX12_turned : MD := (yX12_turned, cX12_turned, 2, some .int, 0, 0, 0)
set_option maxRecDepth 20000 in
theorem okX12_turned : MOk (mdX12_turned) 2 := ⟨tb_in (t8_in (List.mem_of_getElem? (i := 22) rfl)) rfl, tb_in (t1_in (List.mem_of_getElem? (i := 13) rfl)) rfl, ⟨by decide, by decide, by decide +kernel⟩, by decide⟩
set_option maxRecDepth 20000 in
theorem stX12_turned : MSt (mdX12_turned) := tb_in (t8_in (List.mem_of_getElem? (i := 21) rfl)) rfl
def mdX12_turn : MD := (yX12_turn, cX12_turn, 2, some .int, 1, 0, 0)
set_option maxRecDepth 20000 in
theorem okX12_turn : MOk (mdX12_turn) 1 := ⟨tb_in (t8_in (List.mem_of_getElem? (i := 19) rfl)) rfl, tb_in (t1_in (List.mem_of_getElem? (i := 13) rfl)) rfl, ⟨by decide, by decide, by decide +kernel⟩, by decide⟩
set_option maxRecDepth 20000 in
theorem inX12_turn : Cond.instanceMethod (mY (mdX12_turn)) ∈ tblG := tb_in (t8_in (List.mem_of_getElem? (i := 17) rfl)) rfl
set_option maxRecDepth 20000 in
theorem viX12_turn : MVi (mdX12_turn) := ⟨inX12_turn, tb_in (t8_in (List.mem_of_getElem? (i := 18) rfl)) rfl⟩
def mdX12_askNow : MD := (yX12_askNow, cX12_askNow, 2, none, 5, 0, 0)
set_option maxRecDepth 20000 in
theorem okX12_askNow : MOk (mdX12_askNow) 1 := ⟨tb_in (t8_in (List.mem_of_getElem? (i := 34) rfl)) rfl, tb_in (t1_in (List.mem_of_getElem? (i := 13) rfl)) rfl, ⟨by decide, by decide, by decide +kernel⟩, by decide⟩
set_option maxRecDepth 20000 in
theorem inX12_askNow : Cond.instanceMethod (mY (mdX12_askNow)) ∈ tblG := tb_in (t8_in (List.mem_of_getElem? (i := 33) rfl)) rfl
set_option maxRecDepth 20000 in
theorem viX12_askNow : MVi (mdX12_askNow) := ⟨inX12_askNow, tp_in (List.mem_of_getElem? (i := 96) rfl) rfl⟩
def mdX12_ask : MD := (yX12_ask, cX12_ask, 2, some .int, 6, 0, 0)
set_option maxRecDepth 20000 in
theorem okX12_ask : MOk (mdX12_ask) 1 := ⟨tb_in (t8_in (List.mem_of_getElem? (i := 26) rfl)) rfl, tb_in (t1_in (List.mem_of_getElem? (i := 13) rfl)) rfl, ⟨by decide, by decide, by decide +kernel⟩, by decide⟩
set_option maxRecDepth 20000 in
theorem inX12_ask : Cond.instanceMethod (mY (mdX12_ask)) ∈ tblG := tb_in (t8_in (List.mem_of_getElem? (i := 24) rfl)) rfl
set_option maxRecDepth 20000 in
theorem viX12_ask : MVi (mdX12_ask) := ⟨inX12_ask, tb_in (t8_in (List.mem_of_getElem? (i := 25) rfl)) rfl⟩
def mdX12_follow : MD := (yX12_follow, cX12_follow, 3, some .int, 8, 0, 0)
set_option maxRecDepth 20000 in
theorem okX12_follow : MOk (mdX12_follow) 1 := ⟨tb_in (t8_in (List.mem_of_getElem? (i := 46) rfl)) rfl, tb_in (t1_in (List.mem_of_getElem? (i := 13) rfl)) rfl, ⟨by decide, by decide, by decide +kernel⟩, by decide⟩
set_option maxRecDepth 20000 in
theorem inX12_follow : Cond.instanceMethod (mY (mdX12_follow)) ∈ tblG := tb_in (t8_in (List.mem_of_getElem? (i := 44) rfl)) rfl
set_option maxRecDepth 20000 in
theorem viX12_follow : MVi (mdX12_follow) := ⟨inX12_follow, tb_in (t8_in (List.mem_of_getElem? (i := 45) rfl)) rfl⟩
def mdX12_isWalked : MD := (yX12_isWalked, cX12_isWalked, 3, some .boolean, 7, 0, 0)
set_option maxRecDepth 20000 in
theorem okX12_isWalked : MOk (mdX12_isWalked) 1 := ⟨tb_in (t8_in (List.mem_of_getElem? (i := 107) rfl)) rfl, tb_in (t1_in (List.mem_of_getElem? (i := 13) rfl)) rfl, ⟨by decide, by decide, by decide +kernel⟩, by decide⟩
set_option maxRecDepth 20000 in
theorem inX12_isWalked : Cond.instanceMethod (mY (mdX12_isWalked)) ∈ tblG := tb_in (t8_in (List.mem_of_getElem? (i := 106) rfl)) rfl
set_option maxRecDepth 20000 in
theorem viX12_isWalked : MVi (mdX12_isWalked) := ⟨inX12_isWalked, tp_in (List.mem_of_getElem? (i := 111) rfl) rfl⟩
def mdX12_isTaught : MD := (yX12_isTaught, cX12_isTaught, 3, some .boolean, 2, 0, 0)
set_option maxRecDepth 20000 in
theorem okX12_isTaught : MOk (mdX12_isTaught) 1 := ⟨tb_in (t8_in (List.mem_of_getElem? (i := 102) rfl)) rfl, tb_in (t1_in (List.mem_of_getElem? (i := 13) rfl)) rfl, ⟨by decide, by decide, by decide +kernel⟩, by decide⟩
set_option maxRecDepth 20000 in
theorem inX12_isTaught : Cond.instanceMethod (mY (mdX12_isTaught)) ∈ tblG := tb_in (t8_in (List.mem_of_getElem? (i := 101) rfl)) rfl
set_option maxRecDepth 20000 in
theorem viX12_isTaught : MVi (mdX12_isTaught) := ⟨inX12_isTaught, tp_in (List.mem_of_getElem? (i := 110) rfl) rfl⟩
def mdX12_isPlayed : MD := (yX12_isPlayed, cX12_isPlayed, 4, some .boolean, 9, 0, 0)
set_option maxRecDepth 20000 in
theorem okX12_isPlayed : MOk (mdX12_isPlayed) 1 := ⟨tb_in (t8_in (List.mem_of_getElem? (i := 94) rfl)) rfl, tb_in (t1_in (List.mem_of_getElem? (i := 13) rfl)) rfl, ⟨by decide, by decide, by decide +kernel⟩, by decide⟩
set_option maxRecDepth 20000 in
theorem inX12_isPlayed : Cond.instanceMethod (mY (mdX12_isPlayed)) ∈ tblG := tb_in (t8_in (List.mem_of_getElem? (i := 93) rfl)) rfl
set_option maxRecDepth 20000 in
theorem viX12_isPlayed : MVi (mdX12_isPlayed) := ⟨inX12_isPlayed, tp_in (List.mem_of_getElem? (i := 109) rfl) rfl⟩
def mdX12_played : MD := (yX12_played, cX12_played, 3, some .int, 10, 0, 0)
set_option maxRecDepth 20000 in
theorem okX12_played : MOk (mdX12_played) 1 := ⟨tb_in (t8_in (List.mem_of_getElem? (i := 90) rfl)) rfl, tb_in (t1_in (List.mem_of_getElem? (i := 13) rfl)) rfl, ⟨by decide, by decide, by decide +kernel⟩, by decide⟩
set_option maxRecDepth 20000 in
theorem inX12_played : Cond.instanceMethod (mY (mdX12_played)) ∈ tblG := tb_in (t8_in (List.mem_of_getElem? (i := 88) rfl)) rfl
set_option maxRecDepth 20000 in
theorem viX12_played : MVi (mdX12_played) := ⟨inX12_played, tb_in (t8_in (List.mem_of_getElem? (i := 89) rfl)) rfl⟩
def mdX12_anew : MD := (yX12_anew, cX12_anew, 1, none, 0, 0, 0)
set_option maxRecDepth 20000 in
theorem okX12_anew : MOk (mdX12_anew) 0 := ⟨tb_in (t8_in (List.mem_of_getElem? (i := 118) rfl)) rfl, tb_in (t1_in (List.mem_of_getElem? (i := 13) rfl)) rfl, ⟨by decide, by decide, by decide +kernel⟩, by decide⟩
set_option maxRecDepth 20000 in
theorem inX12_anew : Cond.instanceMethod (mY (mdX12_anew)) ∈ tblG := tb_in (t8_in (List.mem_of_getElem? (i := 117) rfl)) rfl
set_option maxRecDepth 20000 in
theorem viX12_anew : MVi (mdX12_anew) := ⟨inX12_anew, tp_in (List.mem_of_getElem? (i := 112) rfl) rfl⟩
def mdX12_oneOfDay : MD := (yX12_oneOfDay, cX12_oneOfDay, 3, none, 6, 0, 0)
set_option maxRecDepth 20000 in
theorem okX12_oneOfDay : MOk (mdX12_oneOfDay) 0 := ⟨tb_in (t8_in (List.mem_of_getElem? (i := 122) rfl)) rfl, tb_in (t1_in (List.mem_of_getElem? (i := 13) rfl)) rfl, ⟨by decide, by decide, by decide +kernel⟩, by decide⟩
set_option maxRecDepth 20000 in
theorem inX12_oneOfDay : Cond.instanceMethod (mY (mdX12_oneOfDay)) ∈ tblG := tb_in (t8_in (List.mem_of_getElem? (i := 121) rfl)) rfl
set_option maxRecDepth 20000 in
theorem viX12_oneOfDay : MVi (mdX12_oneOfDay) := ⟨inX12_oneOfDay, tp_in (List.mem_of_getElem? (i := 113) rfl) rfl⟩
def mdX12_day : MD := (yX12_day, cX12_day, 4, some .int, 7, 0, 0)
set_option maxRecDepth 20000 in
theorem okX12_day : MOk (mdX12_day) 2 := ⟨tb_in (t8_in (List.mem_of_getElem? (i := 114) rfl)) rfl, tb_in (t1_in (List.mem_of_getElem? (i := 13) rfl)) rfl, ⟨by decide, by decide, by decide +kernel⟩, by decide⟩
set_option maxRecDepth 20000 in
theorem inX12_day : Cond.instanceMethod (mY (mdX12_day)) ∈ tblG := tb_in (t8_in (List.mem_of_getElem? (i := 112) rfl)) rfl
set_option maxRecDepth 20000 in
theorem viX12_day : MVi (mdX12_day) := ⟨inX12_day, tb_in (t8_in (List.mem_of_getElem? (i := 113) rfl)) rfl⟩
def mdX12_walker : MD := (yX12_walker, cX12_walker, 2, some .int, 1, 0, 0)
set_option maxRecDepth 20000 in
theorem okX12_walker : MOk (mdX12_walker) 1 := ⟨tb_in (t8_in (List.mem_of_getElem? (i := 130) rfl)) rfl, tb_in (t1_in (List.mem_of_getElem? (i := 13) rfl)) rfl, ⟨by decide, by decide, by decide +kernel⟩, by decide⟩
set_option maxRecDepth 20000 in
theorem inX12_walker : Cond.instanceMethod (mY (mdX12_walker)) ∈ tblG := tb_in (t8_in (List.mem_of_getElem? (i := 128) rfl)) rfl
set_option maxRecDepth 20000 in
theorem viX12_walker : MVi (mdX12_walker) := ⟨inX12_walker, tb_in (t8_in (List.mem_of_getElem? (i := 129) rfl)) rfl⟩
def mdX12_ofCorner : MD := (yX12_ofCorner, cX12_ofCorner, 3, some .int, 2, 0, 0)
set_option maxRecDepth 20000 in
theorem okX12_ofCorner : MOk (mdX12_ofCorner) 2 := ⟨tb_in (t8_in (List.mem_of_getElem? (i := 134) rfl)) rfl, tb_in (t1_in (List.mem_of_getElem? (i := 13) rfl)) rfl, ⟨by decide, by decide, by decide +kernel⟩, by decide⟩
set_option maxRecDepth 20000 in
theorem inX12_ofCorner : Cond.instanceMethod (mY (mdX12_ofCorner)) ∈ tblG := tb_in (t8_in (List.mem_of_getElem? (i := 132) rfl)) rfl
set_option maxRecDepth 20000 in
theorem viX12_ofCorner : MVi (mdX12_ofCorner) := ⟨inX12_ofCorner, tb_in (t8_in (List.mem_of_getElem? (i := 133) rfl)) rfl⟩
def mdX12_ofTeller : MD := (yX12_ofTeller, cX12_ofTeller, 3, some .int, 2, 0, 0)
set_option maxRecDepth 20000 in
theorem okX12_ofTeller : MOk (mdX12_ofTeller) 2 := ⟨tb_in (t8_in (List.mem_of_getElem? (i := 138) rfl)) rfl, tb_in (t1_in (List.mem_of_getElem? (i := 13) rfl)) rfl, ⟨by decide, by decide, by decide +kernel⟩, by decide⟩
set_option maxRecDepth 20000 in
theorem inX12_ofTeller : Cond.instanceMethod (mY (mdX12_ofTeller)) ∈ tblG := tb_in (t8_in (List.mem_of_getElem? (i := 136) rfl)) rfl
set_option maxRecDepth 20000 in
theorem viX12_ofTeller : MVi (mdX12_ofTeller) := ⟨inX12_ofTeller, tb_in (t8_in (List.mem_of_getElem? (i := 137) rfl)) rfl⟩
def mdX12_ofTelling : MD := (yX12_ofTelling, cX12_ofTelling, 3, some .int, 5, 0, 0)
set_option maxRecDepth 20000 in
theorem okX12_ofTelling : MOk (mdX12_ofTelling) 2 := ⟨tb_in (t8_in (List.mem_of_getElem? (i := 142) rfl)) rfl, tb_in (t1_in (List.mem_of_getElem? (i := 13) rfl)) rfl, ⟨by decide, by decide, by decide +kernel⟩, by decide⟩
set_option maxRecDepth 20000 in
theorem inX12_ofTelling : Cond.instanceMethod (mY (mdX12_ofTelling)) ∈ tblG := tb_in (t8_in (List.mem_of_getElem? (i := 140) rfl)) rfl
set_option maxRecDepth 20000 in
theorem viX12_ofTelling : MVi (mdX12_ofTelling) := ⟨inX12_ofTelling, tb_in (t8_in (List.mem_of_getElem? (i := 141) rfl)) rfl⟩
def mdX12_leads : MD := (yX12_leads, cX12_leads, 3, some .int, 9, 0, 0)
set_option maxRecDepth 20000 in
theorem okX12_leads : MOk (mdX12_leads) 2 := ⟨tb_in (t8_in (List.mem_of_getElem? (i := 158) rfl)) rfl, tb_in (t1_in (List.mem_of_getElem? (i := 13) rfl)) rfl, ⟨by decide, by decide, by decide +kernel⟩, by decide⟩
set_option maxRecDepth 20000 in
theorem inX12_leads : Cond.instanceMethod (mY (mdX12_leads)) ∈ tblG := tb_in (t8_in (List.mem_of_getElem? (i := 156) rfl)) rfl
set_option maxRecDepth 20000 in
theorem viX12_leads : MVi (mdX12_leads) := ⟨inX12_leads, tb_in (t8_in (List.mem_of_getElem? (i := 157) rfl)) rfl⟩
def mdX12_findWeights : MD := (yX12_findWeights, cX12_findWeights, 5, none, 5, 0, 0)
set_option maxRecDepth 20000 in
theorem okX12_findWeights : MOk (mdX12_findWeights) 1 := ⟨tb_in (t8_in (List.mem_of_getElem? (i := 174) rfl)) rfl, tb_in (t1_in (List.mem_of_getElem? (i := 13) rfl)) rfl, ⟨by decide, by decide, by decide +kernel⟩, by decide⟩
set_option maxRecDepth 20000 in
theorem inX12_findWeights : Cond.instanceMethod (mY (mdX12_findWeights)) ∈ tblG := tb_in (t8_in (List.mem_of_getElem? (i := 173) rfl)) rfl
set_option maxRecDepth 20000 in
theorem viX12_findWeights : MVi (mdX12_findWeights) := ⟨inX12_findWeights, tp_in (List.mem_of_getElem? (i := 120) rfl) rfl⟩
def mdX12_findWays : MD := (yX12_findWays, cX12_findWays, 3, none, 9, 0, 0)
set_option maxRecDepth 20000 in
theorem okX12_findWays : MOk (mdX12_findWays) 1 := ⟨tb_in (t8_in (List.mem_of_getElem? (i := 170) rfl)) rfl, tb_in (t1_in (List.mem_of_getElem? (i := 13) rfl)) rfl, ⟨by decide, by decide, by decide +kernel⟩, by decide⟩
set_option maxRecDepth 20000 in
theorem inX12_findWays : Cond.instanceMethod (mY (mdX12_findWays)) ∈ tblG := tb_in (t8_in (List.mem_of_getElem? (i := 169) rfl)) rfl
set_option maxRecDepth 20000 in
theorem viX12_findWays : MVi (mdX12_findWays) := ⟨inX12_findWays, tp_in (List.mem_of_getElem? (i := 119) rfl) rfl⟩
def mdX12_weightTo : MD := (yX12_weightTo, cX12_weightTo, 4, some .int, 0, 0, 0)
set_option maxRecDepth 20000 in
theorem okX12_weightTo : MOk (mdX12_weightTo) 1 := ⟨tb_in (t8_in (List.mem_of_getElem? (i := 178) rfl)) rfl, tb_in (t1_in (List.mem_of_getElem? (i := 13) rfl)) rfl, ⟨by decide, by decide, by decide +kernel⟩, by decide⟩
set_option maxRecDepth 20000 in
theorem inX12_weightTo : Cond.instanceMethod (mY (mdX12_weightTo)) ∈ tblG := tb_in (t8_in (List.mem_of_getElem? (i := 177) rfl)) rfl
set_option maxRecDepth 20000 in
theorem viX12_weightTo : MVi (mdX12_weightTo) := ⟨inX12_weightTo, tp_in (List.mem_of_getElem? (i := 121) rfl) rfl⟩
def mdX12_likely : MD := (yX12_likely, cX12_likely, 3, some .int, 10, 0, 0)
set_option maxRecDepth 20000 in
theorem okX12_likely : MOk (mdX12_likely) 2 := ⟨tb_in (t8_in (List.mem_of_getElem? (i := 166) rfl)) rfl, tb_in (t1_in (List.mem_of_getElem? (i := 13) rfl)) rfl, ⟨by decide, by decide, by decide +kernel⟩, by decide⟩
set_option maxRecDepth 20000 in
theorem inX12_likely : Cond.instanceMethod (mY (mdX12_likely)) ∈ tblG := tb_in (t8_in (List.mem_of_getElem? (i := 164) rfl)) rfl
set_option maxRecDepth 20000 in
theorem viX12_likely : MVi (mdX12_likely) := ⟨inX12_likely, tb_in (t8_in (List.mem_of_getElem? (i := 165) rfl)) rfl⟩
def mdX12_common : MD := (yX12_common, cX12_common, 10, some .long, 0, 0, 0)
set_option maxRecDepth 20000 in
theorem okX12_common : MOk (mdX12_common) 2 := ⟨tb_in (t8_in (List.mem_of_getElem? (i := 196) rfl)) rfl, tb_in (t1_in (List.mem_of_getElem? (i := 13) rfl)) rfl, ⟨by decide, by decide, by decide +kernel⟩, by decide⟩
set_option maxRecDepth 20000 in
theorem stX12_common : MSt (mdX12_common) := tb_in (t8_in (List.mem_of_getElem? (i := 195) rfl)) rfl
def mdX12_part : MD := (yX12_part, cX12_part, 5, some .long, 1, 0, 0)
set_option maxRecDepth 20000 in
theorem okX12_part : MOk (mdX12_part) 3 := ⟨tb_in (t8_in (List.mem_of_getElem? (i := 193) rfl)) rfl, tb_in (t1_in (List.mem_of_getElem? (i := 13) rfl)) rfl, ⟨by decide, by decide, by decide +kernel⟩, by decide⟩
set_option maxRecDepth 20000 in
theorem stX12_part : MSt (mdX12_part) := tb_in (t8_in (List.mem_of_getElem? (i := 192) rfl)) rfl
def mdX12_findProducts : MD := (yX12_findProducts, cX12_findProducts, 4, some .boolean, 10, 0, 0)
set_option maxRecDepth 20000 in
theorem okX12_findProducts : MOk (mdX12_findProducts) 1 := ⟨tb_in (t8_in (List.mem_of_getElem? (i := 186) rfl)) rfl, tb_in (t1_in (List.mem_of_getElem? (i := 13) rfl)) rfl, ⟨by decide, by decide, by decide +kernel⟩, by decide⟩
set_option maxRecDepth 20000 in
theorem inX12_findProducts : Cond.instanceMethod (mY (mdX12_findProducts)) ∈ tblG := tb_in (t8_in (List.mem_of_getElem? (i := 185) rfl)) rfl
set_option maxRecDepth 20000 in
theorem viX12_findProducts : MVi (mdX12_findProducts) := ⟨inX12_findProducts, tp_in (List.mem_of_getElem? (i := 122) rfl) rfl⟩
def mdX12_byAll : MD := (yX12_byAll, cX12_byAll, 4, some .long, 11, 0, 0)
set_option maxRecDepth 20000 in
theorem okX12_byAll : MOk (mdX12_byAll) 3 := ⟨tb_in (t8_in (List.mem_of_getElem? (i := 182) rfl)) rfl, tb_in (t1_in (List.mem_of_getElem? (i := 13) rfl)) rfl, ⟨by decide, by decide, by decide +kernel⟩, by decide⟩
set_option maxRecDepth 20000 in
theorem inX12_byAll : Cond.instanceMethod (mY (mdX12_byAll)) ∈ tblG := tb_in (t8_in (List.mem_of_getElem? (i := 180) rfl)) rfl
set_option maxRecDepth 20000 in
theorem viX12_byAll : MVi (mdX12_byAll) := ⟨inX12_byAll, tb_in (t8_in (List.mem_of_getElem? (i := 181) rfl)) rfl⟩
def mdX12_findLeads : MD := (yX12_findLeads, cX12_findLeads, 3, none, 10, 0, 0)
set_option maxRecDepth 20000 in
theorem okX12_findLeads : MOk (mdX12_findLeads) 0 := ⟨tb_in (t8_in (List.mem_of_getElem? (i := 204) rfl)) rfl, tb_in (t1_in (List.mem_of_getElem? (i := 13) rfl)) rfl, ⟨by decide, by decide, by decide +kernel⟩, by decide⟩
set_option maxRecDepth 20000 in
theorem inX12_findLeads : Cond.instanceMethod (mY (mdX12_findLeads)) ∈ tblG := tb_in (t8_in (List.mem_of_getElem? (i := 203) rfl)) rfl
set_option maxRecDepth 20000 in
theorem viX12_findLeads : MVi (mdX12_findLeads) := ⟨inX12_findLeads, tp_in (List.mem_of_getElem? (i := 123) rfl) rfl⟩
def mdX12_clash : MD := (yX12_clash, cX12_clash, 5, some .int, 11, 0, 0)
set_option maxRecDepth 20000 in
theorem okX12_clash : MOk (mdX12_clash) 1 := ⟨tb_in (t8_in (List.mem_of_getElem? (i := 200) rfl)) rfl, tb_in (t1_in (List.mem_of_getElem? (i := 13) rfl)) rfl, ⟨by decide, by decide, by decide +kernel⟩, by decide⟩
set_option maxRecDepth 20000 in
theorem inX12_clash : Cond.instanceMethod (mY (mdX12_clash)) ∈ tblG := tb_in (t8_in (List.mem_of_getElem? (i := 198) rfl)) rfl
set_option maxRecDepth 20000 in
theorem viX12_clash : MVi (mdX12_clash) := ⟨inX12_clash, tb_in (t8_in (List.mem_of_getElem? (i := 199) rfl)) rfl⟩
def mdX12_wrong : MD := (yX12_wrong, cX12_wrong, 8, some .int, 11, 0, 0)
set_option maxRecDepth 20000 in
theorem okX12_wrong : MOk (mdX12_wrong) 2 := ⟨tb_in (t8_in (List.mem_of_getElem? (i := 208) rfl)) rfl, tb_in (t1_in (List.mem_of_getElem? (i := 13) rfl)) rfl, ⟨by decide, by decide, by decide +kernel⟩, by decide⟩
set_option maxRecDepth 20000 in
theorem inX12_wrong : Cond.instanceMethod (mY (mdX12_wrong)) ∈ tblG := tb_in (t8_in (List.mem_of_getElem? (i := 206) rfl)) rfl
set_option maxRecDepth 20000 in
theorem viX12_wrong : MVi (mdX12_wrong) := ⟨inX12_wrong, tb_in (t8_in (List.mem_of_getElem? (i := 207) rfl)) rfl⟩
def mdX12_heard : MD := (yX12_heard, cX12_heard, 4, some .int, 11, 0, 0)
set_option maxRecDepth 20000 in
theorem okX12_heard : MOk (mdX12_heard) 1 := ⟨tb_in (t8_in (List.mem_of_getElem? (i := 212) rfl)) rfl, tb_in (t1_in (List.mem_of_getElem? (i := 13) rfl)) rfl, ⟨by decide, by decide, by decide +kernel⟩, by decide⟩
set_option maxRecDepth 20000 in
theorem inX12_heard : Cond.instanceMethod (mY (mdX12_heard)) ∈ tblG := tb_in (t8_in (List.mem_of_getElem? (i := 210) rfl)) rfl
set_option maxRecDepth 20000 in
theorem viX12_heard : MVi (mdX12_heard) := ⟨inX12_heard, tb_in (t8_in (List.mem_of_getElem? (i := 211) rfl)) rfl⟩
def mdX12_whose : MD := (yX12_whose, cX12_whose, 8, some .int, 10, 0, 0)
set_option maxRecDepth 20000 in
theorem okX12_whose : MOk (mdX12_whose) 4 := ⟨tb_in (t8_in (List.mem_of_getElem? (i := 216) rfl)) rfl, tb_in (t1_in (List.mem_of_getElem? (i := 13) rfl)) rfl, ⟨by decide, by decide, by decide +kernel⟩, by decide⟩
set_option maxRecDepth 20000 in
theorem inX12_whose : Cond.instanceMethod (mY (mdX12_whose)) ∈ tblG := tb_in (t8_in (List.mem_of_getElem? (i := 214) rfl)) rfl
set_option maxRecDepth 20000 in
theorem viX12_whose : MVi (mdX12_whose) := ⟨inX12_whose, tb_in (t8_in (List.mem_of_getElem? (i := 215) rfl)) rfl⟩
def mdX12_nearest : MD := (yX12_nearest, cX12_nearest, 4, some .int, 0, 0, 0)
set_option maxRecDepth 20000 in
theorem okX12_nearest : MOk (mdX12_nearest) 1 := ⟨tb_in (t8_in (List.mem_of_getElem? (i := 229) rfl)) rfl, tb_in (t1_in (List.mem_of_getElem? (i := 13) rfl)) rfl, ⟨by decide, by decide, by decide +kernel⟩, by decide⟩
set_option maxRecDepth 20000 in
theorem inX12_nearest : Cond.instanceMethod (mY (mdX12_nearest)) ∈ tblG := tb_in (t8_in (List.mem_of_getElem? (i := 228) rfl)) rfl
set_option maxRecDepth 20000 in
theorem viX12_nearest : MVi (mdX12_nearest) := ⟨inX12_nearest, tp_in (List.mem_of_getElem? (i := 125) rfl) rfl⟩
def mdX12_findFar : MD := (yX12_findFar, cX12_findFar, 6, none, 5, 0, 0)
set_option maxRecDepth 20000 in
theorem okX12_findFar : MOk (mdX12_findFar) 1 := ⟨tb_in (t8_in (List.mem_of_getElem? (i := 224) rfl)) rfl, tb_in (t1_in (List.mem_of_getElem? (i := 13) rfl)) rfl, ⟨by decide, by decide, by decide +kernel⟩, by decide⟩
set_option maxRecDepth 20000 in
theorem inX12_findFar : Cond.instanceMethod (mY (mdX12_findFar)) ∈ tblG := tb_in (t8_in (List.mem_of_getElem? (i := 223) rfl)) rfl
set_option maxRecDepth 20000 in
theorem viX12_findFar : MVi (mdX12_findFar) := ⟨inX12_findFar, tp_in (List.mem_of_getElem? (i := 124) rfl) rfl⟩
def mdX12_far : MD := (yX12_far, cX12_far, 3, some .int, 6, 0, 0)
set_option maxRecDepth 20000 in
theorem okX12_far : MOk (mdX12_far) 2 := ⟨tb_in (t8_in (List.mem_of_getElem? (i := 220) rfl)) rfl, tb_in (t1_in (List.mem_of_getElem? (i := 13) rfl)) rfl, ⟨by decide, by decide, by decide +kernel⟩, by decide⟩
set_option maxRecDepth 20000 in
theorem inX12_far : Cond.instanceMethod (mY (mdX12_far)) ∈ tblG := tb_in (t8_in (List.mem_of_getElem? (i := 218) rfl)) rfl
set_option maxRecDepth 20000 in
theorem viX12_far : MVi (mdX12_far) := ⟨inX12_far, tb_in (t8_in (List.mem_of_getElem? (i := 219) rfl)) rfl⟩
def mdX12_timeOf : MD := (yX12_timeOf, cX12_timeOf, 7, some .long, 0, 0, 0)
set_option maxRecDepth 20000 in
theorem okX12_timeOf : MOk (mdX12_timeOf) 0 := ⟨tb_in (t9_in (List.mem_of_getElem? (i := 1) rfl)) rfl, tb_in (t1_in (List.mem_of_getElem? (i := 13) rfl)) rfl, ⟨by decide, by decide, by decide +kernel⟩, by decide⟩
set_option maxRecDepth 20000 in
theorem inX12_timeOf : Cond.instanceMethod (mY (mdX12_timeOf)) ∈ tblG := tb_in (t9_in (List.mem_of_getElem? (i := 0) rfl)) rfl
set_option maxRecDepth 20000 in
theorem viX12_timeOf : MVi (mdX12_timeOf) := ⟨inX12_timeOf, tp_in (List.mem_of_getElem? (i := 127) rfl) rfl⟩
def mdX12_nextOrder : MD := (yX12_nextOrder, cX12_nextOrder, 7, some .boolean, 0, 0, 0)
set_option maxRecDepth 20000 in
theorem okX12_nextOrder : MOk (mdX12_nextOrder) 0 := ⟨tb_in (t9_in (List.mem_of_getElem? (i := 5) rfl)) rfl, tb_in (t1_in (List.mem_of_getElem? (i := 13) rfl)) rfl, ⟨by decide, by decide, by decide +kernel⟩, by decide⟩
set_option maxRecDepth 20000 in
theorem inX12_nextOrder : Cond.instanceMethod (mY (mdX12_nextOrder)) ∈ tblG := tb_in (t9_in (List.mem_of_getElem? (i := 4) rfl)) rfl
set_option maxRecDepth 20000 in
theorem viX12_nextOrder : MVi (mdX12_nextOrder) := ⟨inX12_nextOrder, tp_in (List.mem_of_getElem? (i := 128) rfl) rfl⟩
def mdX12_findOrder : MD := (yX12_findOrder, cX12_findOrder, 6, some .boolean, 11, 0, 0)
set_option maxRecDepth 20000 in
theorem okX12_findOrder : MOk (mdX12_findOrder) 1 := ⟨tb_in (t8_in (List.mem_of_getElem? (i := 237) rfl)) rfl, tb_in (t1_in (List.mem_of_getElem? (i := 13) rfl)) rfl, ⟨by decide, by decide, by decide +kernel⟩, by decide⟩
set_option maxRecDepth 20000 in
theorem inX12_findOrder : Cond.instanceMethod (mY (mdX12_findOrder)) ∈ tblG := tb_in (t8_in (List.mem_of_getElem? (i := 236) rfl)) rfl
set_option maxRecDepth 20000 in
theorem viX12_findOrder : MVi (mdX12_findOrder) := ⟨inX12_findOrder, tp_in (List.mem_of_getElem? (i := 126) rfl) rfl⟩
def mdX12_see : MD := (yX12_see, cX12_see, 3, some .long, 12, 0, 0)
set_option maxRecDepth 20000 in
theorem okX12_see : MOk (mdX12_see) 2 := ⟨tb_in (t8_in (List.mem_of_getElem? (i := 233) rfl)) rfl, tb_in (t1_in (List.mem_of_getElem? (i := 13) rfl)) rfl, ⟨by decide, by decide, by decide +kernel⟩, by decide⟩
set_option maxRecDepth 20000 in
theorem inX12_see : Cond.instanceMethod (mY (mdX12_see)) ∈ tblG := tb_in (t8_in (List.mem_of_getElem? (i := 231) rfl)) rfl
set_option maxRecDepth 20000 in
theorem viX12_see : MVi (mdX12_see) := ⟨inX12_see, tb_in (t8_in (List.mem_of_getElem? (i := 232) rfl)) rfl⟩
def mdX12_timeByAsking : MD := (yX12_timeByAsking, cX12_timeByAsking, 8, some .long, 5, 0, 0)
set_option maxRecDepth 20000 in
theorem okX12_timeByAsking : MOk (mdX12_timeByAsking) 1 := ⟨tb_in (t9_in (List.mem_of_getElem? (i := 13) rfl)) rfl, tb_in (t1_in (List.mem_of_getElem? (i := 13) rfl)) rfl, ⟨by decide, by decide, by decide +kernel⟩, by decide⟩
set_option maxRecDepth 20000 in
theorem inX12_timeByAsking : Cond.instanceMethod (mY (mdX12_timeByAsking)) ∈ tblG := tb_in (t9_in (List.mem_of_getElem? (i := 12) rfl)) rfl
set_option maxRecDepth 20000 in
theorem viX12_timeByAsking : MVi (mdX12_timeByAsking) := ⟨inX12_timeByAsking, tp_in (List.mem_of_getElem? (i := 129) rfl) rfl⟩
def mdX12_orAsk : MD := (yX12_orAsk, cX12_orAsk, 8, some .int, 12, 0, 0)
set_option maxRecDepth 20000 in
theorem okX12_orAsk : MOk (mdX12_orAsk) 1 := ⟨tb_in (t9_in (List.mem_of_getElem? (i := 9) rfl)) rfl, tb_in (t1_in (List.mem_of_getElem? (i := 13) rfl)) rfl, ⟨by decide, by decide, by decide +kernel⟩, by decide⟩
set_option maxRecDepth 20000 in
theorem inX12_orAsk : Cond.instanceMethod (mY (mdX12_orAsk)) ∈ tblG := tb_in (t9_in (List.mem_of_getElem? (i := 7) rfl)) rfl
set_option maxRecDepth 20000 in
theorem viX12_orAsk : MVi (mdX12_orAsk) := ⟨inX12_orAsk, tb_in (t9_in (List.mem_of_getElem? (i := 8) rfl)) rfl⟩
def mdX12_stateOf : MD := (yX12_stateOf, cX12_stateOf, 5, some .int, 7, 0, 0)
set_option maxRecDepth 20000 in
theorem okX12_stateOf : MOk (mdX12_stateOf) 3 := ⟨tb_in (t9_in (List.mem_of_getElem? (i := 25) rfl)) rfl, tb_in (t1_in (List.mem_of_getElem? (i := 13) rfl)) rfl, ⟨by decide, by decide, by decide +kernel⟩, by decide⟩
set_option maxRecDepth 20000 in
theorem inX12_stateOf : Cond.instanceMethod (mY (mdX12_stateOf)) ∈ tblG := tb_in (t9_in (List.mem_of_getElem? (i := 24) rfl)) rfl
set_option maxRecDepth 20000 in
theorem viX12_stateOf : MVi (mdX12_stateOf) := ⟨inX12_stateOf, tp_in (List.mem_of_getElem? (i := 131) rfl) rfl⟩
def mdX12_safeOf : MD := (yX12_safeOf, cX12_safeOf, 6, some .int, 8, 0, 0)
set_option maxRecDepth 20000 in
theorem okX12_safeOf : MOk (mdX12_safeOf) 2 := ⟨tb_in (t9_in (List.mem_of_getElem? (i := 21) rfl)) rfl, tb_in (t1_in (List.mem_of_getElem? (i := 13) rfl)) rfl, ⟨by decide, by decide, by decide +kernel⟩, by decide⟩
set_option maxRecDepth 20000 in
theorem inX12_safeOf : Cond.instanceMethod (mY (mdX12_safeOf)) ∈ tblG := tb_in (t9_in (List.mem_of_getElem? (i := 20) rfl)) rfl
set_option maxRecDepth 20000 in
theorem viX12_safeOf : MVi (mdX12_safeOf) := ⟨inX12_safeOf, tp_in (List.mem_of_getElem? (i := 130) rfl) rfl⟩
def mdX12_safeSoFar : MD := (yX12_safeSoFar, cX12_safeSoFar, 4, some .int, 9, 0, 0)
set_option maxRecDepth 20000 in
theorem okX12_safeSoFar : MOk (mdX12_safeSoFar) 3 := ⟨tb_in (t9_in (List.mem_of_getElem? (i := 17) rfl)) rfl, tb_in (t1_in (List.mem_of_getElem? (i := 13) rfl)) rfl, ⟨by decide, by decide, by decide +kernel⟩, by decide⟩
set_option maxRecDepth 20000 in
theorem inX12_safeSoFar : Cond.instanceMethod (mY (mdX12_safeSoFar)) ∈ tblG := tb_in (t9_in (List.mem_of_getElem? (i := 15) rfl)) rfl
set_option maxRecDepth 20000 in
theorem viX12_safeSoFar : MVi (mdX12_safeSoFar) := ⟨inX12_safeSoFar, tb_in (t9_in (List.mem_of_getElem? (i := 16) rfl)) rfl⟩
def mdX12_howFar : MD := (yX12_howFar, cX12_howFar, 4, some .int, 9, 0, 0)
set_option maxRecDepth 20000 in
theorem okX12_howFar : MOk (mdX12_howFar) 2 := ⟨tb_in (t9_in (List.mem_of_getElem? (i := 30) rfl)) rfl, tb_in (t1_in (List.mem_of_getElem? (i := 13) rfl)) rfl, ⟨by decide, by decide, by decide +kernel⟩, by decide⟩
set_option maxRecDepth 20000 in
theorem inX12_howFar : Cond.instanceMethod (mY (mdX12_howFar)) ∈ tblG := tb_in (t9_in (List.mem_of_getElem? (i := 28) rfl)) rfl
set_option maxRecDepth 20000 in
theorem viX12_howFar : MVi (mdX12_howFar) := ⟨inX12_howFar, tb_in (t9_in (List.mem_of_getElem? (i := 29) rfl)) rfl⟩
def mdX12_lost : MD := (yX12_lost, cX12_lost, 4, some .int, 8, 0, 0)
set_option maxRecDepth 20000 in
theorem okX12_lost : MOk (mdX12_lost) 2 := ⟨tb_in (t9_in (List.mem_of_getElem? (i := 34) rfl)) rfl, tb_in (t1_in (List.mem_of_getElem? (i := 13) rfl)) rfl, ⟨by decide, by decide, by decide +kernel⟩, by decide⟩
set_option maxRecDepth 20000 in
theorem inX12_lost : Cond.instanceMethod (mY (mdX12_lost)) ∈ tblG := tb_in (t9_in (List.mem_of_getElem? (i := 32) rfl)) rfl
set_option maxRecDepth 20000 in
theorem viX12_lost : MVi (mdX12_lost) := ⟨inX12_lost, tb_in (t9_in (List.mem_of_getElem? (i := 33) rfl)) rfl⟩
def mdX12_power : MD := (yX12_power, cX12_power, 6, some .long, 0, 0, 0)
set_option maxRecDepth 20000 in
theorem okX12_power : MOk (mdX12_power) 2 := ⟨tb_in (t9_in (List.mem_of_getElem? (i := 41) rfl)) rfl, tb_in (t1_in (List.mem_of_getElem? (i := 13) rfl)) rfl, ⟨by decide, by decide, by decide +kernel⟩, by decide⟩
set_option maxRecDepth 20000 in
theorem stX12_power : MSt (mdX12_power) := tb_in (t9_in (List.mem_of_getElem? (i := 40) rfl)) rfl
def mdX12_listen : MD := (yX12_listen, cX12_listen, 12, some .long, 2, 0, 0)
set_option maxRecDepth 20000 in
theorem okX12_listen : MOk (mdX12_listen) 5 := ⟨tb_in (t9_in (List.mem_of_getElem? (i := 38) rfl)) rfl, tb_in (t1_in (List.mem_of_getElem? (i := 13) rfl)) rfl, ⟨by decide, by decide, by decide +kernel⟩, by decide⟩
set_option maxRecDepth 20000 in
theorem inX12_listen : Cond.instanceMethod (mY (mdX12_listen)) ∈ tblG := tb_in (t9_in (List.mem_of_getElem? (i := 36) rfl)) rfl
set_option maxRecDepth 20000 in
theorem viX12_listen : MVi (mdX12_listen) := ⟨inX12_listen, tb_in (t9_in (List.mem_of_getElem? (i := 37) rfl)) rfl⟩
def mdX12_turnOf : MD := (yX12_turnOf, cX12_turnOf, 1, some .int, 0, 0, 0)
set_option maxRecDepth 20000 in
theorem okX12_turnOf : MOk (mdX12_turnOf) 1 := ⟨tb_in (t9_in (List.mem_of_getElem? (i := 53) rfl)) rfl, tb_in (t1_in (List.mem_of_getElem? (i := 13) rfl)) rfl, ⟨by decide, by decide, by decide +kernel⟩, by decide⟩
set_option maxRecDepth 20000 in
theorem stX12_turnOf : MSt (mdX12_turnOf) := tb_in (t9_in (List.mem_of_getElem? (i := 52) rfl)) rfl
def mdX12_leadsToGoal : MD := (yX12_leadsToGoal, cX12_leadsToGoal, 5, some .boolean, 8, 0, 0)
set_option maxRecDepth 20000 in
theorem okX12_leadsToGoal : MOk (mdX12_leadsToGoal) 3 := ⟨tb_in (t9_in (List.mem_of_getElem? (i := 57) rfl)) rfl, tb_in (t1_in (List.mem_of_getElem? (i := 13) rfl)) rfl, ⟨by decide, by decide, by decide +kernel⟩, by decide⟩
set_option maxRecDepth 20000 in
theorem inX12_leadsToGoal : Cond.instanceMethod (mY (mdX12_leadsToGoal)) ∈ tblG := tb_in (t9_in (List.mem_of_getElem? (i := 56) rfl)) rfl
set_option maxRecDepth 20000 in
theorem viX12_leadsToGoal : MVi (mdX12_leadsToGoal) := ⟨inX12_leadsToGoal, tp_in (List.mem_of_getElem? (i := 133) rfl) rfl⟩
def mdX12_findTelling : MD := (yX12_findTelling, cX12_findTelling, 9, some .boolean, 9, 0, 0)
set_option maxRecDepth 20000 in
theorem okX12_findTelling : MOk (mdX12_findTelling) 3 := ⟨tb_in (t9_in (List.mem_of_getElem? (i := 50) rfl)) rfl, tb_in (t1_in (List.mem_of_getElem? (i := 13) rfl)) rfl, ⟨by decide, by decide, by decide +kernel⟩, by decide⟩
set_option maxRecDepth 20000 in
theorem inX12_findTelling : Cond.instanceMethod (mY (mdX12_findTelling)) ∈ tblG := tb_in (t9_in (List.mem_of_getElem? (i := 49) rfl)) rfl
set_option maxRecDepth 20000 in
theorem viX12_findTelling : MVi (mdX12_findTelling) := ⟨inX12_findTelling, tp_in (List.mem_of_getElem? (i := 132) rfl) rfl⟩
def mdX12_tell : MD := (yX12_tell, cX12_tell, 5, some .int, 10, 0, 0)
set_option maxRecDepth 20000 in
theorem okX12_tell : MOk (mdX12_tell) 4 := ⟨tb_in (t9_in (List.mem_of_getElem? (i := 46) rfl)) rfl, tb_in (t1_in (List.mem_of_getElem? (i := 13) rfl)) rfl, ⟨by decide, by decide, by decide +kernel⟩, by decide⟩
set_option maxRecDepth 20000 in
theorem inX12_tell : Cond.instanceMethod (mY (mdX12_tell)) ∈ tblG := tb_in (t9_in (List.mem_of_getElem? (i := 44) rfl)) rfl
set_option maxRecDepth 20000 in
theorem viX12_tell : MVi (mdX12_tell) := ⟨inX12_tell, tb_in (t9_in (List.mem_of_getElem? (i := 45) rfl)) rfl⟩
def mdX12_where : MD := (yX12_where, cX12_where, 3, some .int, 9, 0, 0)
set_option maxRecDepth 20000 in
theorem okX12_where : MOk (mdX12_where) 2 := ⟨tb_in (t9_in (List.mem_of_getElem? (i := 61) rfl)) rfl, tb_in (t1_in (List.mem_of_getElem? (i := 13) rfl)) rfl, ⟨by decide, by decide, by decide +kernel⟩, by decide⟩
set_option maxRecDepth 20000 in
theorem inX12_where : Cond.instanceMethod (mY (mdX12_where)) ∈ tblG := tb_in (t9_in (List.mem_of_getElem? (i := 59) rfl)) rfl
set_option maxRecDepth 20000 in
theorem viX12_where : MVi (mdX12_where) := ⟨inX12_where, tb_in (t9_in (List.mem_of_getElem? (i := 60) rfl)) rfl⟩
def mdX12_map : MD := (yX12_map, cX12_map, 8, some .int, 2, 0, 0)
set_option maxRecDepth 20000 in
theorem okX12_map : MOk (mdX12_map) 3 := ⟨tb_in (t9_in (List.mem_of_getElem? (i := 65) rfl)) rfl, tb_in (t1_in (List.mem_of_getElem? (i := 13) rfl)) rfl, ⟨by decide, by decide, by decide +kernel⟩, by decide⟩
set_option maxRecDepth 20000 in
theorem inX12_map : Cond.instanceMethod (mY (mdX12_map)) ∈ tblG := tb_in (t9_in (List.mem_of_getElem? (i := 63) rfl)) rfl
set_option maxRecDepth 20000 in
theorem viX12_map : MVi (mdX12_map) := ⟨inX12_map, tb_in (t9_in (List.mem_of_getElem? (i := 64) rfl)) rfl⟩
def mdX12_findShown : MD := (yX12_findShown, cX12_findShown, 4, none, 1, 0, 0)
set_option maxRecDepth 20000 in
theorem okX12_findShown : MOk (mdX12_findShown) 0 := ⟨tb_in (t9_in (List.mem_of_getElem? (i := 73) rfl)) rfl, tb_in (t1_in (List.mem_of_getElem? (i := 13) rfl)) rfl, ⟨by decide, by decide, by decide +kernel⟩, by decide⟩
set_option maxRecDepth 20000 in
theorem inX12_findShown : Cond.instanceMethod (mY (mdX12_findShown)) ∈ tblG := tb_in (t9_in (List.mem_of_getElem? (i := 72) rfl)) rfl
set_option maxRecDepth 20000 in
theorem viX12_findShown : MVi (mdX12_findShown) := ⟨inX12_findShown, tp_in (List.mem_of_getElem? (i := 134) rfl) rfl⟩
def mdX12_directionFrom : MD := (yX12_directionFrom, cX12_directionFrom, 4, some .int, 1, 0, 0)
set_option maxRecDepth 20000 in
theorem okX12_directionFrom : MOk (mdX12_directionFrom) 3 := ⟨tb_in (t9_in (List.mem_of_getElem? (i := 85) rfl)) rfl, tb_in (t1_in (List.mem_of_getElem? (i := 13) rfl)) rfl, ⟨by decide, by decide, by decide +kernel⟩, by decide⟩
set_option maxRecDepth 20000 in
theorem inX12_directionFrom : Cond.instanceMethod (mY (mdX12_directionFrom)) ∈ tblG := tb_in (t9_in (List.mem_of_getElem? (i := 84) rfl)) rfl
set_option maxRecDepth 20000 in
theorem viX12_directionFrom : MVi (mdX12_directionFrom) := ⟨inX12_directionFrom, tp_in (List.mem_of_getElem? (i := 137) rfl) rfl⟩
def mdX12_comesToGoal : MD := (yX12_comesToGoal, cX12_comesToGoal, 8, some .boolean, 2, 0, 0)
set_option maxRecDepth 20000 in
theorem okX12_comesToGoal : MOk (mdX12_comesToGoal) 3 := ⟨tb_in (t9_in (List.mem_of_getElem? (i := 81) rfl)) rfl, tb_in (t1_in (List.mem_of_getElem? (i := 13) rfl)) rfl, ⟨by decide, by decide, by decide +kernel⟩, by decide⟩
set_option maxRecDepth 20000 in
theorem inX12_comesToGoal : Cond.instanceMethod (mY (mdX12_comesToGoal)) ∈ tblG := tb_in (t9_in (List.mem_of_getElem? (i := 80) rfl)) rfl
set_option maxRecDepth 20000 in
theorem viX12_comesToGoal : MVi (mdX12_comesToGoal) := ⟨inX12_comesToGoal, tp_in (List.mem_of_getElem? (i := 136) rfl) rfl⟩
def mdX12_areEnough : MD := (yX12_areEnough, cX12_areEnough, 4, some .boolean, 3, 0, 0)
set_option maxRecDepth 20000 in
theorem okX12_areEnough : MOk (mdX12_areEnough) 1 := ⟨tb_in (t9_in (List.mem_of_getElem? (i := 77) rfl)) rfl, tb_in (t1_in (List.mem_of_getElem? (i := 13) rfl)) rfl, ⟨by decide, by decide, by decide +kernel⟩, by decide⟩
set_option maxRecDepth 20000 in
theorem inX12_areEnough : Cond.instanceMethod (mY (mdX12_areEnough)) ∈ tblG := tb_in (t9_in (List.mem_of_getElem? (i := 76) rfl)) rfl
set_option maxRecDepth 20000 in
theorem viX12_areEnough : MVi (mdX12_areEnough) := ⟨inX12_areEnough, tp_in (List.mem_of_getElem? (i := 135) rfl) rfl⟩
def mdX12_signs : MD := (yX12_signs, cX12_signs, 3, some .int, 4, 0, 0)
set_option maxRecDepth 20000 in
theorem okX12_signs : MOk (mdX12_signs) 0 := ⟨tb_in (t9_in (List.mem_of_getElem? (i := 69) rfl)) rfl, tb_in (t1_in (List.mem_of_getElem? (i := 13) rfl)) rfl, ⟨by decide, by decide, by decide +kernel⟩, by decide⟩
set_option maxRecDepth 20000 in
theorem inX12_signs : Cond.instanceMethod (mY (mdX12_signs)) ∈ tblG := tb_in (t9_in (List.mem_of_getElem? (i := 67) rfl)) rfl
set_option maxRecDepth 20000 in
theorem viX12_signs : MVi (mdX12_signs) := ⟨inX12_signs, tb_in (t9_in (List.mem_of_getElem? (i := 68) rfl)) rfl⟩
def mdX12_image : MD := (yX12_image, cX12_image, 1, some .int, 1, 0, 0)
set_option maxRecDepth 20000 in
theorem okX12_image : MOk (mdX12_image) 0 := ⟨tb_in (t9_in (List.mem_of_getElem? (i := 89) rfl)) rfl, tb_in (t1_in (List.mem_of_getElem? (i := 13) rfl)) rfl, ⟨by decide, by decide, by decide +kernel⟩, by decide⟩
set_option maxRecDepth 20000 in
theorem inX12_image : Cond.instanceMethod (mY (mdX12_image)) ∈ tblG := tb_in (t9_in (List.mem_of_getElem? (i := 87) rfl)) rfl
set_option maxRecDepth 20000 in
theorem viX12_image : MVi (mdX12_image) := ⟨inX12_image, tb_in (t9_in (List.mem_of_getElem? (i := 88) rfl)) rfl⟩
def mdX12_back : MD := (yX12_back, cX12_back, 1, some .int, 1, 0, 0)
set_option maxRecDepth 20000 in
theorem okX12_back : MOk (mdX12_back) 0 := ⟨tb_in (t9_in (List.mem_of_getElem? (i := 93) rfl)) rfl, tb_in (t1_in (List.mem_of_getElem? (i := 13) rfl)) rfl, ⟨by decide, by decide, by decide +kernel⟩, by decide⟩
set_option maxRecDepth 20000 in
theorem inX12_back : Cond.instanceMethod (mY (mdX12_back)) ∈ tblG := tb_in (t9_in (List.mem_of_getElem? (i := 91) rfl)) rfl
set_option maxRecDepth 20000 in
theorem viX12_back : MVi (mdX12_back) := ⟨inX12_back, tb_in (t9_in (List.mem_of_getElem? (i := 92) rfl)) rfl⟩
def mdX12_about : MD := (yX12_about, cX12_about, 2, some .int, 1, 0, 0)
set_option maxRecDepth 20000 in
theorem okX12_about : MOk (mdX12_about) 1 := ⟨tb_in (t9_in (List.mem_of_getElem? (i := 97) rfl)) rfl, tb_in (t1_in (List.mem_of_getElem? (i := 13) rfl)) rfl, ⟨by decide, by decide, by decide +kernel⟩, by decide⟩
set_option maxRecDepth 20000 in
theorem inX12_about : Cond.instanceMethod (mY (mdX12_about)) ∈ tblG := tb_in (t9_in (List.mem_of_getElem? (i := 95) rfl)) rfl
set_option maxRecDepth 20000 in
theorem viX12_about : MVi (mdX12_about) := ⟨inX12_about, tb_in (t9_in (List.mem_of_getElem? (i := 96) rfl)) rfl⟩
def mdJ6_bitCount_0f7a4 : MD := (yJ6_bitCount_0f7a4, cJ6_bitCount_0f7a4, 1, some .int, 0, 0, 0)
set_option maxRecDepth 20000 in
theorem okJ6_bitCount_0f7a4 : MOk (mdJ6_bitCount_0f7a4) 1 := ⟨tb_in (t5_in (List.mem_of_getElem? (i := 61) rfl)) rfl, tb_in (t1_in (List.mem_of_getElem? (i := 21) rfl)) rfl, ⟨by decide, by decide, by decide +kernel⟩, by decide⟩
set_option maxRecDepth 20000 in
theorem stJ6_bitCount_0f7a4 : MSt (mdJ6_bitCount_0f7a4) := tb_in (t5_in (List.mem_of_getElem? (i := 60) rfl)) rfl
def mdJ9_max_7cf53 : MD := (yJ9_max_7cf53, cJ9_max_7cf53, 2, some .int, 0, 0, 0)
set_option maxRecDepth 20000 in
theorem okJ9_max_7cf53 : MOk (mdJ9_max_7cf53) 2 := ⟨tb_in (t4_in (List.mem_of_getElem? (i := 83) rfl)) rfl, tb_in (t1_in (List.mem_of_getElem? (i := 14) rfl)) rfl, ⟨by decide, by decide, by decide +kernel⟩, by decide⟩
set_option maxRecDepth 20000 in
theorem stJ9_max_7cf53 : MSt (mdJ9_max_7cf53) := tb_in (t4_in (List.mem_of_getElem? (i := 82) rfl)) rfl
def mdJ9_max_f86c9 : MD := (yJ9_max_f86c9, cJ9_max_f86c9, 4, some .long, 0, 0, 0)
set_option maxRecDepth 20000 in
theorem okJ9_max_f86c9 : MOk (mdJ9_max_f86c9) 2 := ⟨tb_in (t4_in (List.mem_of_getElem? (i := 74) rfl)) rfl, tb_in (t1_in (List.mem_of_getElem? (i := 14) rfl)) rfl, ⟨by decide, by decide, by decide +kernel⟩, by decide⟩
set_option maxRecDepth 20000 in
theorem stJ9_max_f86c9 : MSt (mdJ9_max_f86c9) := tb_in (t4_in (List.mem_of_getElem? (i := 73) rfl)) rfl
def mdJ9_min_7cf53 : MD := (yJ9_min_7cf53, cJ9_min_7cf53, 2, some .int, 0, 0, 0)
set_option maxRecDepth 20000 in
theorem okJ9_min_7cf53 : MOk (mdJ9_min_7cf53) 2 := ⟨tb_in (t3_in (List.mem_of_getElem? (i := 26) rfl)) rfl, tb_in (t1_in (List.mem_of_getElem? (i := 14) rfl)) rfl, ⟨by decide, by decide, by decide +kernel⟩, by decide⟩
set_option maxRecDepth 20000 in
theorem stJ9_min_7cf53 : MSt (mdJ9_min_7cf53) := tb_in (t3_in (List.mem_of_getElem? (i := 25) rfl)) rfl
def mdJ9_min_f86c9 : MD := (yJ9_min_f86c9, cJ9_min_f86c9, 4, some .long, 0, 0, 0)
set_option maxRecDepth 20000 in
theorem okJ9_min_f86c9 : MOk (mdJ9_min_f86c9) 2 := ⟨tb_in (t4_in (List.mem_of_getElem? (i := 71) rfl)) rfl, tb_in (t1_in (List.mem_of_getElem? (i := 14) rfl)) rfl, ⟨by decide, by decide, by decide +kernel⟩, by decide⟩
set_option maxRecDepth 20000 in
theorem stJ9_min_f86c9 : MSt (mdJ9_min_f86c9) := tb_in (t4_in (List.mem_of_getElem? (i := 70) rfl)) rfl
def mdJ0_length_8abf5 : MD := (yJ0_length_8abf5, cJ0_length_8abf5, 1, some .int, 1, 0, 0)
set_option maxRecDepth 20000 in
theorem okJ0_length_8abf5 : MOk (mdJ0_length_8abf5) 0 := ⟨tb_in (t3_in (List.mem_of_getElem? (i := 56) rfl)) rfl, tb_in (t1_in (List.mem_of_getElem? (i := 15) rfl)) rfl, ⟨by decide, by decide, by decide +kernel⟩, by decide⟩
set_option maxRecDepth 20000 in
theorem inJ0_length_8abf5 : Cond.instanceMethod (mY (mdJ0_length_8abf5)) ∈ tblG := tb_in (t3_in (List.mem_of_getElem? (i := 54) rfl)) rfl
set_option maxRecDepth 20000 in
theorem viJ0_length_8abf5 : MVi (mdJ0_length_8abf5) := ⟨inJ0_length_8abf5, tb_in (t3_in (List.mem_of_getElem? (i := 55) rfl)) rfl⟩
def mdJ0_charAt_5068e : MD := (yJ0_charAt_5068e, cJ0_charAt_5068e, 2, some .char, 4, 0, 0)
set_option maxRecDepth 20000 in
theorem okJ0_charAt_5068e : MOk (mdJ0_charAt_5068e) 1 := ⟨tb_in (t3_in (List.mem_of_getElem? (i := 66) rfl)) rfl, tb_in (t1_in (List.mem_of_getElem? (i := 15) rfl)) rfl, ⟨by decide, by decide, by decide +kernel⟩, by decide⟩
set_option maxRecDepth 20000 in
theorem inJ0_charAt_5068e : Cond.instanceMethod (mY (mdJ0_charAt_5068e)) ∈ tblG := tb_in (t3_in (List.mem_of_getElem? (i := 64) rfl)) rfl
set_option maxRecDepth 20000 in
theorem viJ0_charAt_5068e : MVi (mdJ0_charAt_5068e) := ⟨inJ0_charAt_5068e, tb_in (t3_in (List.mem_of_getElem? (i := 65) rfl)) rfl⟩
def mdJ0_coder_7d493 : MD := (yJ0_coder_7d493, cJ0_coder_7d493, 1, some .byte, 0, 0, 0)
set_option maxRecDepth 20000 in
theorem okJ0_coder_7d493 : MOk (mdJ0_coder_7d493) 0 := ⟨tb_in (t3_in (List.mem_of_getElem? (i := 60) rfl)) rfl, tb_in (t1_in (List.mem_of_getElem? (i := 15) rfl)) rfl, ⟨by decide, by decide, by decide +kernel⟩, by decide⟩
set_option maxRecDepth 20000 in
theorem inJ0_coder_7d493 : Cond.instanceMethod (mY (mdJ0_coder_7d493)) ∈ tblG := tb_in (t3_in (List.mem_of_getElem? (i := 58) rfl)) rfl
set_option maxRecDepth 20000 in
theorem viJ0_coder_7d493 : MVi (mdJ0_coder_7d493) := ⟨inJ0_coder_7d493, tb_in (t3_in (List.mem_of_getElem? (i := 59) rfl)) rfl⟩
def mdJ0_isLatin1_aae02 : MD := (yJ0_isLatin1_aae02, cJ0_isLatin1_aae02, 1, some .boolean, 0, 0, 0)
set_option maxRecDepth 20000 in
theorem okJ0_isLatin1_aae02 : MOk (mdJ0_isLatin1_aae02) 0 := ⟨tb_in (t3_in (List.mem_of_getElem? (i := 70) rfl)) rfl, tb_in (t1_in (List.mem_of_getElem? (i := 15) rfl)) rfl, ⟨by decide, by decide, by decide +kernel⟩, by decide⟩
set_option maxRecDepth 20000 in
theorem inJ0_isLatin1_aae02 : Cond.instanceMethod (mY (mdJ0_isLatin1_aae02)) ∈ tblG := tb_in (t3_in (List.mem_of_getElem? (i := 68) rfl)) rfl
set_option maxRecDepth 20000 in
theorem viJ0_isLatin1_aae02 : MVi (mdJ0_isLatin1_aae02) := ⟨inJ0_isLatin1_aae02, tb_in (t3_in (List.mem_of_getElem? (i := 69) rfl)) rfl⟩
def mdJ0_checkIndex_df160 : MD := (yJ0_checkIndex_df160, cJ0_checkIndex_df160, 2, none, 1, 0, 0)
set_option maxRecDepth 20000 in
theorem okJ0_checkIndex_df160 : MOk (mdJ0_checkIndex_df160) 2 := ⟨tb_in (t3_in (List.mem_of_getElem? (i := 76) rfl)) rfl, tb_in (t1_in (List.mem_of_getElem? (i := 15) rfl)) rfl, ⟨by decide, by decide, by decide +kernel⟩, by decide⟩
set_option maxRecDepth 20000 in
theorem stJ0_checkIndex_df160 : MSt (mdJ0_checkIndex_df160) := tb_in (t3_in (List.mem_of_getElem? (i := 75) rfl)) rfl
def mdJ1_charAt_3b067 : MD := (yJ1_charAt_3b067, cJ1_charAt_3b067, 2, some .char, 2, 0, 0)
set_option maxRecDepth 20000 in
theorem okJ1_charAt_3b067 : MOk (mdJ1_charAt_3b067) 2 := ⟨tb_in (t3_in (List.mem_of_getElem? (i := 73) rfl)) rfl, tb_in (t1_in (List.mem_of_getElem? (i := 16) rfl)) rfl, ⟨by decide, by decide, by decide +kernel⟩, by decide⟩
set_option maxRecDepth 20000 in
theorem stJ1_charAt_3b067 : MSt (mdJ1_charAt_3b067) := tb_in (t3_in (List.mem_of_getElem? (i := 72) rfl)) rfl
def mdJ2_getChar_3b067 : MD := (yJ2_getChar_3b067, cJ2_getChar_3b067, 2, some .char, 1, 0, 0)
def mdJ2_length_9d52b : MD := (yJ2_length_9d52b, cJ2_length_9d52b, 1, some .int, 0, 0, 0)
def mdJ2_charAt_3b067 : MD := (yJ2_charAt_3b067, cJ2_charAt_3b067, 2, some .char, 3, 0, 0)
def mdJ2_checkIndex_2214a : MD := (yJ2_checkIndex_2214a, cJ2_checkIndex_2214a, 2, none, 2, 0, 0)
def mdJ7_fill_d0a16 : MD := (yJ7_fill_d0a16, cJ7_fill_d0a16, 5, none, 0, 0, 0)
set_option maxRecDepth 20000 in
theorem okJ7_fill_d0a16 : MOk (mdJ7_fill_d0a16) 2 := ⟨tb_in (t5_in (List.mem_of_getElem? (i := 72) rfl)) rfl, tb_in (t1_in (List.mem_of_getElem? (i := 3) rfl)) rfl, ⟨by decide, by decide, by decide +kernel⟩, by decide⟩
set_option maxRecDepth 20000 in
theorem stJ7_fill_d0a16 : MSt (mdJ7_fill_d0a16) := tb_in (t5_in (List.mem_of_getElem? (i := 71) rfl)) rfl
def mdJ7_fill_53178 : MD := (yJ7_fill_53178, cJ7_fill_53178, 4, none, 0, 0, 0)
set_option maxRecDepth 20000 in
theorem okJ7_fill_53178 : MOk (mdJ7_fill_53178) 2 := ⟨tb_in (t1_in (List.mem_of_getElem? (i := 40) rfl)) rfl, tb_in (t1_in (List.mem_of_getElem? (i := 3) rfl)) rfl, ⟨by decide, by decide, by decide +kernel⟩, by decide⟩
set_option maxRecDepth 20000 in
theorem stJ7_fill_53178 : MSt (mdJ7_fill_53178) := tb_in (t1_in (List.mem_of_getElem? (i := 39) rfl)) rfl
def mdJ7_copyOf_59c91 : MD := (yJ7_copyOf_59c91, cJ7_copyOf_59c91, 3, some (.array .int), 1, 1, 300)
set_option maxRecDepth 20000 in
theorem okJ7_copyOf_59c91 : MOk (mdJ7_copyOf_59c91) 2 := ⟨tb_in (t3_in (List.mem_of_getElem? (i := 194) rfl)) rfl, tb_in (t1_in (List.mem_of_getElem? (i := 3) rfl)) rfl, ⟨by decide, by decide, by decide +kernel⟩, by decide⟩
set_option maxRecDepth 20000 in
theorem stJ7_copyOf_59c91 : MSt (mdJ7_copyOf_59c91) := tb_in (t3_in (List.mem_of_getElem? (i := 193) rfl)) rfl
def mdJ3_checkIndex_8e157 : MD := (yJ3_checkIndex_8e157, cJ3_checkIndex_8e157, 3, some .int, 0, 0, 0)
set_option maxRecDepth 20000 in
theorem okJ3_checkIndex_8e157 : MOk (mdJ3_checkIndex_8e157) 3 := ⟨tb_in (t3_in (List.mem_of_getElem? (i := 81) rfl)) rfl, tb_in (t1_in (List.mem_of_getElem? (i := 17) rfl)) rfl, ⟨by decide, by decide, by decide +kernel⟩, by decide⟩
set_option maxRecDepth 20000 in
theorem stJ3_checkIndex_8e157 : MSt (mdJ3_checkIndex_8e157) := tb_in (t3_in (List.mem_of_getElem? (i := 80) rfl)) rfl
set_option maxRecDepth 20000 in
theorem flX6_9 : FLk RX6 9 6 0 := ⟨RX6, TX6, 12, rfl, by decide, rfl, tb_in (t1_in (List.mem_of_getElem? (i := 41) rfl)) rfl⟩
set_option maxRecDepth 20000 in
theorem plX6_9 (D : MD) (h : (mY D).cls = RX6) (h2 : (mY D).name = "<init>") : PLk D 9 6 0 := ⟨RX6, TX6, 12, rfl, by decide, rfl, by rw [h]; exact tb_in (t1_in (List.mem_of_getElem? (i := 41) rfl)) rfl, Or.inr ⟨rfl, h2, h.symm⟩⟩
set_option maxRecDepth 20000 in
theorem flX6_15 : FLk RX6 15 6 1 := ⟨RX6, TX6, 12, rfl, by decide, rfl, tb_in (t1_in (List.mem_of_getElem? (i := 42) rfl)) rfl⟩
set_option maxRecDepth 20000 in
theorem plX6_15 (D : MD) (h : (mY D).cls = RX6) (h2 : (mY D).name = "<init>") : PLk D 15 6 1 := ⟨RX6, TX6, 12, rfl, by decide, rfl, by rw [h]; exact tb_in (t1_in (List.mem_of_getElem? (i := 42) rfl)) rfl, Or.inr ⟨rfl, h2, h.symm⟩⟩
set_option maxRecDepth 20000 in
theorem flX6_18 : FLk RX6 18 6 2 := ⟨RX6, TX6, 12, rfl, by decide, rfl, tb_in (t1_in (List.mem_of_getElem? (i := 43) rfl)) rfl⟩
set_option maxRecDepth 20000 in
theorem plX6_18 (D : MD) (h : (mY D).cls = RX6) (h2 : (mY D).name = "<init>") : PLk D 18 6 2 := ⟨RX6, TX6, 12, rfl, by decide, rfl, by rw [h]; exact tb_in (t1_in (List.mem_of_getElem? (i := 43) rfl)) rfl, Or.inr ⟨rfl, h2, h.symm⟩⟩
set_option maxRecDepth 20000 in
theorem flX6_21 : FLk RX6 21 6 3 := ⟨RX6, TX6, 12, rfl, by decide, rfl, tb_in (t1_in (List.mem_of_getElem? (i := 44) rfl)) rfl⟩
set_option maxRecDepth 20000 in
theorem plX6_21 (D : MD) (h : (mY D).cls = RX6) (h2 : (mY D).name = "<init>") : PLk D 21 6 3 := ⟨RX6, TX6, 12, rfl, by decide, rfl, by rw [h]; exact tb_in (t1_in (List.mem_of_getElem? (i := 44) rfl)) rfl, Or.inr ⟨rfl, h2, h.symm⟩⟩
set_option maxRecDepth 20000 in
theorem flX6_24 : FLk RX6 24 6 4 := ⟨RX6, TX6, 12, rfl, by decide, rfl, tb_in (t1_in (List.mem_of_getElem? (i := 45) rfl)) rfl⟩
set_option maxRecDepth 20000 in
theorem plX6_24 (D : MD) (h : (mY D).cls = RX6) (h2 : (mY D).name = "<init>") : PLk D 24 6 4 := ⟨RX6, TX6, 12, rfl, by decide, rfl, by rw [h]; exact tb_in (t1_in (List.mem_of_getElem? (i := 45) rfl)) rfl, Or.inr ⟨rfl, h2, h.symm⟩⟩
set_option maxRecDepth 20000 in
theorem flX6_29 : FLk RX6 29 6 5 := ⟨RX6, TX6, 12, rfl, by decide, rfl, tb_in (t1_in (List.mem_of_getElem? (i := 46) rfl)) rfl⟩
set_option maxRecDepth 20000 in
theorem plX6_29 (D : MD) (h : (mY D).cls = RX6) (h2 : (mY D).name = "<init>") : PLk D 29 6 5 := ⟨RX6, TX6, 12, rfl, by decide, rfl, by rw [h]; exact tb_in (t1_in (List.mem_of_getElem? (i := 46) rfl)) rfl, Or.inr ⟨rfl, h2, h.symm⟩⟩
set_option maxRecDepth 20000 in
theorem flX7_43 : FLk RX7 43 6 6 := ⟨RX6, TX6, 12, rfl, by decide, rfl, tb_in (t1_in (List.mem_of_getElem? (i := 47) rfl)) rfl⟩
set_option maxRecDepth 20000 in
theorem flX6_52 : FLk RX6 52 6 6 := ⟨RX6, TX6, 12, rfl, by decide, rfl, tb_in (t1_in (List.mem_of_getElem? (i := 48) rfl)) rfl⟩
set_option maxRecDepth 20000 in
theorem plX6_52 (D : MD) (h : (mY D).cls = RX6) : PLk D 52 6 6 := ⟨RX6, TX6, 12, rfl, by decide, rfl, by rw [h]; exact tb_in (t1_in (List.mem_of_getElem? (i := 48) rfl)) rfl, Or.inl rfl⟩
set_option maxRecDepth 20000 in
theorem flX3_60 : FLk RX3 60 6 6 := ⟨RX6, TX6, 12, rfl, by decide, rfl, tb_in (t1_in (List.mem_of_getElem? (i := 49) rfl)) rfl⟩
set_option maxRecDepth 20000 in
theorem flX10_66 : FLk RX10 66 6 6 := ⟨RX6, TX6, 12, rfl, by decide, rfl, tb_in (t1_in (List.mem_of_getElem? (i := 50) rfl)) rfl⟩
set_option maxRecDepth 20000 in
theorem flX9_114 : FLk RX9 114 6 6 := ⟨RX6, TX6, 12, rfl, by decide, rfl, tb_in (t1_in (List.mem_of_getElem? (i := 51) rfl)) rfl⟩
set_option maxRecDepth 20000 in
theorem flX11_265 : FLk RX11 265 6 6 := ⟨RX6, TX6, 12, rfl, by decide, rfl, tb_in (t1_in (List.mem_of_getElem? (i := 52) rfl)) rfl⟩
set_option maxRecDepth 20000 in
theorem flX6_39 : FLk RX6 39 6 7 := ⟨RX6, TX6, 12, rfl, by decide, rfl, tb_in (t1_in (List.mem_of_getElem? (i := 53) rfl)) rfl⟩
set_option maxRecDepth 20000 in
theorem plX6_39 (D : MD) (h : (mY D).cls = RX6) : PLk D 39 6 7 := ⟨RX6, TX6, 12, rfl, by decide, rfl, by rw [h]; exact tb_in (t1_in (List.mem_of_getElem? (i := 53) rfl)) rfl, Or.inl rfl⟩
set_option maxRecDepth 20000 in
theorem flX3_25 : FLk RX3 25 6 7 := ⟨RX6, TX6, 12, rfl, by decide, rfl, tb_in (t1_in (List.mem_of_getElem? (i := 54) rfl)) rfl⟩
set_option maxRecDepth 20000 in
theorem flX0_82 : FLk RX0 82 6 7 := ⟨RX6, TX6, 12, rfl, by decide, rfl, tb_in (t1_in (List.mem_of_getElem? (i := 55) rfl)) rfl⟩
set_option maxRecDepth 20000 in
theorem flX11_325 : FLk RX11 325 6 7 := ⟨RX6, TX6, 12, rfl, by decide, rfl, tb_in (t1_in (List.mem_of_getElem? (i := 56) rfl)) rfl⟩
set_option maxRecDepth 20000 in
theorem flX6_55 : FLk RX6 55 6 8 := ⟨RX6, TX6, 12, rfl, by decide, rfl, tb_in (t1_in (List.mem_of_getElem? (i := 57) rfl)) rfl⟩
set_option maxRecDepth 20000 in
theorem plX6_55 (D : MD) (h : (mY D).cls = RX6) : PLk D 55 6 8 := ⟨RX6, TX6, 12, rfl, by decide, rfl, by rw [h]; exact tb_in (t1_in (List.mem_of_getElem? (i := 57) rfl)) rfl, Or.inl rfl⟩
set_option maxRecDepth 20000 in
theorem flX7_116 : FLk RX7 116 6 8 := ⟨RX6, TX6, 12, rfl, by decide, rfl, tb_in (t1_in (List.mem_of_getElem? (i := 58) rfl)) rfl⟩
set_option maxRecDepth 20000 in
theorem flX9_126 : FLk RX9 126 6 8 := ⟨RX6, TX6, 12, rfl, by decide, rfl, tb_in (t1_in (List.mem_of_getElem? (i := 59) rfl)) rfl⟩
set_option maxRecDepth 20000 in
theorem flX11_353 : FLk RX11 353 6 8 := ⟨RX6, TX6, 12, rfl, by decide, rfl, tb_in (t1_in (List.mem_of_getElem? (i := 60) rfl)) rfl⟩
set_option maxRecDepth 20000 in
theorem flX6_58 : FLk RX6 58 6 9 := ⟨RX6, TX6, 12, rfl, by decide, rfl, tb_in (t1_in (List.mem_of_getElem? (i := 61) rfl)) rfl⟩
set_option maxRecDepth 20000 in
theorem plX6_58 (D : MD) (h : (mY D).cls = RX6) : PLk D 58 6 9 := ⟨RX6, TX6, 12, rfl, by decide, rfl, by rw [h]; exact tb_in (t1_in (List.mem_of_getElem? (i := 61) rfl)) rfl, Or.inl rfl⟩
set_option maxRecDepth 20000 in
theorem flX10_70 : FLk RX10 70 6 9 := ⟨RX6, TX6, 12, rfl, by decide, rfl, tb_in (t1_in (List.mem_of_getElem? (i := 62) rfl)) rfl⟩
set_option maxRecDepth 20000 in
theorem flX11_259 : FLk RX11 259 6 9 := ⟨RX6, TX6, 12, rfl, by decide, rfl, tb_in (t1_in (List.mem_of_getElem? (i := 63) rfl)) rfl⟩
set_option maxRecDepth 20000 in
theorem flX6_61 : FLk RX6 61 6 10 := ⟨RX6, TX6, 12, rfl, by decide, rfl, tb_in (t1_in (List.mem_of_getElem? (i := 64) rfl)) rfl⟩
set_option maxRecDepth 20000 in
theorem plX6_61 (D : MD) (h : (mY D).cls = RX6) : PLk D 61 6 10 := ⟨RX6, TX6, 12, rfl, by decide, rfl, by rw [h]; exact tb_in (t1_in (List.mem_of_getElem? (i := 64) rfl)) rfl, Or.inl rfl⟩
set_option maxRecDepth 20000 in
theorem flX11_136 : FLk RX11 136 6 10 := ⟨RX6, TX6, 12, rfl, by decide, rfl, tb_in (t1_in (List.mem_of_getElem? (i := 65) rfl)) rfl⟩
set_option maxRecDepth 20000 in
theorem flX6_43 : FLk RX6 43 6 11 := ⟨RX6, TX6, 12, rfl, by decide, rfl, tb_in (t1_in (List.mem_of_getElem? (i := 66) rfl)) rfl⟩
set_option maxRecDepth 20000 in
theorem plX6_43 (D : MD) (h : (mY D).cls = RX6) : PLk D 43 6 11 := ⟨RX6, TX6, 12, rfl, by decide, rfl, by rw [h]; exact tb_in (t1_in (List.mem_of_getElem? (i := 66) rfl)) rfl, Or.inl rfl⟩
set_option maxRecDepth 20000 in
theorem flX2_35 : FLk RX2 35 6 11 := ⟨RX6, TX6, 12, rfl, by decide, rfl, tb_in (t1_in (List.mem_of_getElem? (i := 67) rfl)) rfl⟩
set_option maxRecDepth 20000 in
theorem flX11_156 : FLk RX11 156 6 11 := ⟨RX6, TX6, 12, rfl, by decide, rfl, tb_in (t1_in (List.mem_of_getElem? (i := 68) rfl)) rfl⟩
set_option maxRecDepth 20000 in
theorem plX11_156 (D : MD) (h : (mY D).cls = RX11) : PLk D 156 6 11 := ⟨RX6, TX6, 12, rfl, by decide, rfl, by rw [h]; exact tb_in (t1_in (List.mem_of_getElem? (i := 68) rfl)) rfl, Or.inl rfl⟩
set_option maxRecDepth 20000 in
theorem flX8_9 : FLk RX8 9 8 0 := ⟨RX8, TX8, 4, rfl, by decide, rfl, tb_in (t1_in (List.mem_of_getElem? (i := 101) rfl)) rfl⟩
set_option maxRecDepth 20000 in
theorem plX8_9 (D : MD) (h : (mY D).cls = RX8) (h2 : (mY D).name = "<init>") : PLk D 9 8 0 := ⟨RX8, TX8, 4, rfl, by decide, rfl, by rw [h]; exact tb_in (t1_in (List.mem_of_getElem? (i := 101) rfl)) rfl, Or.inr ⟨rfl, h2, h.symm⟩⟩
set_option maxRecDepth 20000 in
theorem flX9_27 : FLk RX9 27 8 0 := ⟨RX8, TX8, 4, rfl, by decide, rfl, tb_in (t1_in (List.mem_of_getElem? (i := 102) rfl)) rfl⟩
set_option maxRecDepth 20000 in
theorem flX2_74 : FLk RX2 74 8 0 := ⟨RX8, TX8, 4, rfl, by decide, rfl, tb_in (t1_in (List.mem_of_getElem? (i := 103) rfl)) rfl⟩
set_option maxRecDepth 20000 in
theorem flX7_72 : FLk RX7 72 8 0 := ⟨RX8, TX8, 4, rfl, by decide, rfl, tb_in (t1_in (List.mem_of_getElem? (i := 104) rfl)) rfl⟩
set_option maxRecDepth 20000 in
theorem flX11_169 : FLk RX11 169 8 0 := ⟨RX8, TX8, 4, rfl, by decide, rfl, tb_in (t1_in (List.mem_of_getElem? (i := 105) rfl)) rfl⟩
set_option maxRecDepth 20000 in
theorem flX8_15 : FLk RX8 15 8 1 := ⟨RX8, TX8, 4, rfl, by decide, rfl, tb_in (t1_in (List.mem_of_getElem? (i := 106) rfl)) rfl⟩
set_option maxRecDepth 20000 in
theorem plX8_15 (D : MD) (h : (mY D).cls = RX8) (h2 : (mY D).name = "<init>") : PLk D 15 8 1 := ⟨RX8, TX8, 4, rfl, by decide, rfl, by rw [h]; exact tb_in (t1_in (List.mem_of_getElem? (i := 106) rfl)) rfl, Or.inr ⟨rfl, h2, h.symm⟩⟩
set_option maxRecDepth 20000 in
theorem flX8_24 : FLk RX8 24 8 2 := ⟨RX8, TX8, 4, rfl, by decide, rfl, tb_in (t1_in (List.mem_of_getElem? (i := 107) rfl)) rfl⟩
set_option maxRecDepth 20000 in
theorem plX8_24 (D : MD) (h : (mY D).cls = RX8) : PLk D 24 8 2 := ⟨RX8, TX8, 4, rfl, by decide, rfl, by rw [h]; exact tb_in (t1_in (List.mem_of_getElem? (i := 107) rfl)) rfl, Or.inl rfl⟩
set_option maxRecDepth 20000 in
theorem flX11_356 : FLk RX11 356 8 2 := ⟨RX8, TX8, 4, rfl, by decide, rfl, tb_in (t1_in (List.mem_of_getElem? (i := 108) rfl)) rfl⟩
set_option maxRecDepth 20000 in
theorem flX8_28 : FLk RX8 28 8 3 := ⟨RX8, TX8, 4, rfl, by decide, rfl, tb_in (t1_in (List.mem_of_getElem? (i := 109) rfl)) rfl⟩
set_option maxRecDepth 20000 in
theorem plX8_28 (D : MD) (h : (mY D).cls = RX8) : PLk D 28 8 3 := ⟨RX8, TX8, 4, rfl, by decide, rfl, by rw [h]; exact tb_in (t1_in (List.mem_of_getElem? (i := 109) rfl)) rfl, Or.inl rfl⟩
set_option maxRecDepth 20000 in
theorem flX4_9 : FLk RX4 9 4 0 := ⟨RX4, TX4, 15, rfl, by decide, rfl, tb_in (t1_in (List.mem_of_getElem? (i := 125) rfl)) rfl⟩
set_option maxRecDepth 20000 in
theorem plX4_9 (D : MD) (h : (mY D).cls = RX4) (h2 : (mY D).name = "<init>") : PLk D 9 4 0 := ⟨RX4, TX4, 15, rfl, by decide, rfl, by rw [h]; exact tb_in (t1_in (List.mem_of_getElem? (i := 125) rfl)) rfl, Or.inr ⟨rfl, h2, h.symm⟩⟩
set_option maxRecDepth 20000 in
theorem flX4_15 : FLk RX4 15 4 1 := ⟨RX4, TX4, 15, rfl, by decide, rfl, tb_in (t1_in (List.mem_of_getElem? (i := 126) rfl)) rfl⟩
set_option maxRecDepth 20000 in
theorem plX4_15 (D : MD) (h : (mY D).cls = RX4) (h2 : (mY D).name = "<init>") : PLk D 15 4 1 := ⟨RX4, TX4, 15, rfl, by decide, rfl, by rw [h]; exact tb_in (t1_in (List.mem_of_getElem? (i := 126) rfl)) rfl, Or.inr ⟨rfl, h2, h.symm⟩⟩
set_option maxRecDepth 20000 in
theorem flX4_18 : FLk RX4 18 4 2 := ⟨RX4, TX4, 15, rfl, by decide, rfl, tb_in (t1_in (List.mem_of_getElem? (i := 127) rfl)) rfl⟩
set_option maxRecDepth 20000 in
theorem plX4_18 (D : MD) (h : (mY D).cls = RX4) (h2 : (mY D).name = "<init>") : PLk D 18 4 2 := ⟨RX4, TX4, 15, rfl, by decide, rfl, by rw [h]; exact tb_in (t1_in (List.mem_of_getElem? (i := 127) rfl)) rfl, Or.inr ⟨rfl, h2, h.symm⟩⟩
set_option maxRecDepth 20000 in
theorem flX4_21 : FLk RX4 21 4 3 := ⟨RX4, TX4, 15, rfl, by decide, rfl, tb_in (t1_in (List.mem_of_getElem? (i := 128) rfl)) rfl⟩
set_option maxRecDepth 20000 in
theorem plX4_21 (D : MD) (h : (mY D).cls = RX4) (h2 : (mY D).name = "<init>") : PLk D 21 4 3 := ⟨RX4, TX4, 15, rfl, by decide, rfl, by rw [h]; exact tb_in (t1_in (List.mem_of_getElem? (i := 128) rfl)) rfl, Or.inr ⟨rfl, h2, h.symm⟩⟩
set_option maxRecDepth 20000 in
theorem flX4_24 : FLk RX4 24 4 4 := ⟨RX4, TX4, 15, rfl, by decide, rfl, tb_in (t1_in (List.mem_of_getElem? (i := 129) rfl)) rfl⟩
set_option maxRecDepth 20000 in
theorem plX4_24 (D : MD) (h : (mY D).cls = RX4) (h2 : (mY D).name = "<init>") : PLk D 24 4 4 := ⟨RX4, TX4, 15, rfl, by decide, rfl, by rw [h]; exact tb_in (t1_in (List.mem_of_getElem? (i := 129) rfl)) rfl, Or.inr ⟨rfl, h2, h.symm⟩⟩
set_option maxRecDepth 20000 in
theorem flX4_27 : FLk RX4 27 4 5 := ⟨RX4, TX4, 15, rfl, by decide, rfl, tb_in (t1_in (List.mem_of_getElem? (i := 130) rfl)) rfl⟩
set_option maxRecDepth 20000 in
theorem plX4_27 (D : MD) (h : (mY D).cls = RX4) (h2 : (mY D).name = "<init>") : PLk D 27 4 5 := ⟨RX4, TX4, 15, rfl, by decide, rfl, by rw [h]; exact tb_in (t1_in (List.mem_of_getElem? (i := 130) rfl)) rfl, Or.inr ⟨rfl, h2, h.symm⟩⟩
set_option maxRecDepth 20000 in
theorem flX4_30 : FLk RX4 30 4 6 := ⟨RX4, TX4, 15, rfl, by decide, rfl, tb_in (t1_in (List.mem_of_getElem? (i := 131) rfl)) rfl⟩
set_option maxRecDepth 20000 in
theorem plX4_30 (D : MD) (h : (mY D).cls = RX4) (h2 : (mY D).name = "<init>") : PLk D 30 4 6 := ⟨RX4, TX4, 15, rfl, by decide, rfl, by rw [h]; exact tb_in (t1_in (List.mem_of_getElem? (i := 131) rfl)) rfl, Or.inr ⟨rfl, h2, h.symm⟩⟩
set_option maxRecDepth 20000 in
theorem plX4_43 (D : MD) (h : (mY D).cls = RX4) : PLk D 43 4 7 := ⟨RX4, TX4, 15, rfl, by decide, rfl, by rw [h]; exact tb_in (t1_in (List.mem_of_getElem? (i := 132) rfl)) rfl, Or.inl rfl⟩
set_option maxRecDepth 20000 in
theorem flX11_142 : FLk RX11 142 4 7 := ⟨RX4, TX4, 15, rfl, by decide, rfl, tb_in (t1_in (List.mem_of_getElem? (i := 133) rfl)) rfl⟩
set_option maxRecDepth 20000 in
theorem plX4_47 (D : MD) (h : (mY D).cls = RX4) : PLk D 47 4 8 := ⟨RX4, TX4, 15, rfl, by decide, rfl, by rw [h]; exact tb_in (t1_in (List.mem_of_getElem? (i := 134) rfl)) rfl, Or.inl rfl⟩
set_option maxRecDepth 20000 in
theorem flX11_145 : FLk RX11 145 4 8 := ⟨RX4, TX4, 15, rfl, by decide, rfl, tb_in (t1_in (List.mem_of_getElem? (i := 135) rfl)) rfl⟩
set_option maxRecDepth 20000 in
theorem flX4_62 : FLk RX4 62 4 9 := ⟨RX4, TX4, 15, rfl, by decide, rfl, tb_in (t1_in (List.mem_of_getElem? (i := 136) rfl)) rfl⟩
set_option maxRecDepth 20000 in
theorem plX4_62 (D : MD) (h : (mY D).cls = RX4) : PLk D 62 4 9 := ⟨RX4, TX4, 15, rfl, by decide, rfl, by rw [h]; exact tb_in (t1_in (List.mem_of_getElem? (i := 136) rfl)) rfl, Or.inl rfl⟩
set_option maxRecDepth 20000 in
theorem flX4_69 : FLk RX4 69 4 10 := ⟨RX4, TX4, 15, rfl, by decide, rfl, tb_in (t1_in (List.mem_of_getElem? (i := 137) rfl)) rfl⟩
set_option maxRecDepth 20000 in
theorem plX4_69 (D : MD) (h : (mY D).cls = RX4) : PLk D 69 4 10 := ⟨RX4, TX4, 15, rfl, by decide, rfl, by rw [h]; exact tb_in (t1_in (List.mem_of_getElem? (i := 137) rfl)) rfl, Or.inl rfl⟩
set_option maxRecDepth 20000 in
theorem flX4_119 : FLk RX4 119 4 11 := ⟨RX4, TX4, 15, rfl, by decide, rfl, tb_in (t1_in (List.mem_of_getElem? (i := 138) rfl)) rfl⟩
set_option maxRecDepth 20000 in
theorem plX4_119 (D : MD) (h : (mY D).cls = RX4) : PLk D 119 4 11 := ⟨RX4, TX4, 15, rfl, by decide, rfl, by rw [h]; exact tb_in (t1_in (List.mem_of_getElem? (i := 138) rfl)) rfl, Or.inl rfl⟩
set_option maxRecDepth 20000 in
theorem flX4_50 : FLk RX4 50 4 12 := ⟨RX4, TX4, 15, rfl, by decide, rfl, tb_in (t1_in (List.mem_of_getElem? (i := 139) rfl)) rfl⟩
set_option maxRecDepth 20000 in
theorem plX4_50 (D : MD) (h : (mY D).cls = RX4) : PLk D 50 4 12 := ⟨RX4, TX4, 15, rfl, by decide, rfl, by rw [h]; exact tb_in (t1_in (List.mem_of_getElem? (i := 139) rfl)) rfl, Or.inl rfl⟩
set_option maxRecDepth 20000 in
theorem flX4_53 : FLk RX4 53 4 13 := ⟨RX4, TX4, 15, rfl, by decide, rfl, tb_in (t1_in (List.mem_of_getElem? (i := 140) rfl)) rfl⟩
set_option maxRecDepth 20000 in
theorem plX4_53 (D : MD) (h : (mY D).cls = RX4) : PLk D 53 4 13 := ⟨RX4, TX4, 15, rfl, by decide, rfl, by rw [h]; exact tb_in (t1_in (List.mem_of_getElem? (i := 140) rfl)) rfl, Or.inl rfl⟩
set_option maxRecDepth 20000 in
theorem flX4_170 : FLk RX4 170 4 14 := ⟨RX4, TX4, 15, rfl, by decide, rfl, tb_in (t1_in (List.mem_of_getElem? (i := 141) rfl)) rfl⟩
set_option maxRecDepth 20000 in
theorem plX4_170 (D : MD) (h : (mY D).cls = RX4) : PLk D 170 4 14 := ⟨RX4, TX4, 15, rfl, by decide, rfl, by rw [h]; exact tb_in (t1_in (List.mem_of_getElem? (i := 141) rfl)) rfl, Or.inl rfl⟩
set_option maxRecDepth 20000 in
theorem flX2_9 : FLk RX2 9 2 0 := ⟨RX2, TX2, 4, rfl, by decide, rfl, tb_in (t1_in (List.mem_of_getElem? (i := 179) rfl)) rfl⟩
set_option maxRecDepth 20000 in
theorem plX2_9 (D : MD) (h : (mY D).cls = RX2) (h2 : (mY D).name = "<init>") : PLk D 9 2 0 := ⟨RX2, TX2, 4, rfl, by decide, rfl, by rw [h]; exact tb_in (t1_in (List.mem_of_getElem? (i := 179) rfl)) rfl, Or.inr ⟨rfl, h2, h.symm⟩⟩
set_option maxRecDepth 20000 in
theorem flX2_15 : FLk RX2 15 2 1 := ⟨RX2, TX2, 4, rfl, by decide, rfl, tb_in (t1_in (List.mem_of_getElem? (i := 180) rfl)) rfl⟩
set_option maxRecDepth 20000 in
theorem plX2_15 (D : MD) (h : (mY D).cls = RX2) (h2 : (mY D).name = "<init>") : PLk D 15 2 1 := ⟨RX2, TX2, 4, rfl, by decide, rfl, by rw [h]; exact tb_in (t1_in (List.mem_of_getElem? (i := 180) rfl)) rfl, Or.inr ⟨rfl, h2, h.symm⟩⟩
set_option maxRecDepth 20000 in
theorem flX2_19 : FLk RX2 19 2 2 := ⟨RX2, TX2, 4, rfl, by decide, rfl, tb_in (t1_in (List.mem_of_getElem? (i := 181) rfl)) rfl⟩
set_option maxRecDepth 20000 in
theorem plX2_19 (D : MD) (h : (mY D).cls = RX2) (h2 : (mY D).name = "<init>") : PLk D 19 2 2 := ⟨RX2, TX2, 4, rfl, by decide, rfl, by rw [h]; exact tb_in (t1_in (List.mem_of_getElem? (i := 181) rfl)) rfl, Or.inr ⟨rfl, h2, h.symm⟩⟩
set_option maxRecDepth 20000 in
theorem flX2_23 : FLk RX2 23 2 3 := ⟨RX2, TX2, 4, rfl, by decide, rfl, tb_in (t1_in (List.mem_of_getElem? (i := 182) rfl)) rfl⟩
set_option maxRecDepth 20000 in
theorem plX2_23 (D : MD) (h : (mY D).cls = RX2) (h2 : (mY D).name = "<init>") : PLk D 23 2 3 := ⟨RX2, TX2, 4, rfl, by decide, rfl, by rw [h]; exact tb_in (t1_in (List.mem_of_getElem? (i := 182) rfl)) rfl, Or.inr ⟨rfl, h2, h.symm⟩⟩
set_option maxRecDepth 20000 in
theorem flX1_9 : FLk RX1 9 1 0 := ⟨RX1, TX1, 5, rfl, by decide, rfl, tb_in (t1_in (List.mem_of_getElem? (i := 198) rfl)) rfl⟩
set_option maxRecDepth 20000 in
theorem plX1_9 (D : MD) (h : (mY D).cls = RX1) (h2 : (mY D).name = "<init>") : PLk D 9 1 0 := ⟨RX1, TX1, 5, rfl, by decide, rfl, by rw [h]; exact tb_in (t1_in (List.mem_of_getElem? (i := 198) rfl)) rfl, Or.inr ⟨rfl, h2, h.symm⟩⟩
set_option maxRecDepth 20000 in
theorem flX1_15 : FLk RX1 15 1 1 := ⟨RX1, TX1, 5, rfl, by decide, rfl, tb_in (t1_in (List.mem_of_getElem? (i := 199) rfl)) rfl⟩
set_option maxRecDepth 20000 in
theorem plX1_15 (D : MD) (h : (mY D).cls = RX1) (h2 : (mY D).name = "<init>") : PLk D 15 1 1 := ⟨RX1, TX1, 5, rfl, by decide, rfl, by rw [h]; exact tb_in (t1_in (List.mem_of_getElem? (i := 199) rfl)) rfl, Or.inr ⟨rfl, h2, h.symm⟩⟩
set_option maxRecDepth 20000 in
theorem flX9_105 : FLk RX9 105 1 1 := ⟨RX1, TX1, 5, rfl, by decide, rfl, tb_in (t1_in (List.mem_of_getElem? (i := 200) rfl)) rfl⟩
set_option maxRecDepth 20000 in
theorem flX11_337 : FLk RX11 337 1 1 := ⟨RX1, TX1, 5, rfl, by decide, rfl, tb_in (t1_in (List.mem_of_getElem? (i := 201) rfl)) rfl⟩
set_option maxRecDepth 20000 in
theorem flX1_19 : FLk RX1 19 1 2 := ⟨RX1, TX1, 5, rfl, by decide, rfl, tb_in (t1_in (List.mem_of_getElem? (i := 202) rfl)) rfl⟩
set_option maxRecDepth 20000 in
theorem plX1_19 (D : MD) (h : (mY D).cls = RX1) : PLk D 19 1 2 := ⟨RX1, TX1, 5, rfl, by decide, rfl, by rw [h]; exact tb_in (t1_in (List.mem_of_getElem? (i := 202) rfl)) rfl, Or.inl rfl⟩
set_option maxRecDepth 20000 in
theorem flX10_56 : FLk RX10 56 1 2 := ⟨RX1, TX1, 5, rfl, by decide, rfl, tb_in (t1_in (List.mem_of_getElem? (i := 203) rfl)) rfl⟩
set_option maxRecDepth 20000 in
theorem flX0_76 : FLk RX0 76 1 2 := ⟨RX1, TX1, 5, rfl, by decide, rfl, tb_in (t1_in (List.mem_of_getElem? (i := 204) rfl)) rfl⟩
set_option maxRecDepth 20000 in
theorem flX9_108 : FLk RX9 108 1 2 := ⟨RX1, TX1, 5, rfl, by decide, rfl, tb_in (t1_in (List.mem_of_getElem? (i := 205) rfl)) rfl⟩
set_option maxRecDepth 20000 in
theorem flX1_23 : FLk RX1 23 1 3 := ⟨RX1, TX1, 5, rfl, by decide, rfl, tb_in (t1_in (List.mem_of_getElem? (i := 206) rfl)) rfl⟩
set_option maxRecDepth 20000 in
theorem plX1_23 (D : MD) (h : (mY D).cls = RX1) : PLk D 23 1 3 := ⟨RX1, TX1, 5, rfl, by decide, rfl, by rw [h]; exact tb_in (t1_in (List.mem_of_getElem? (i := 206) rfl)) rfl, Or.inl rfl⟩
set_option maxRecDepth 20000 in
theorem flX0_79 : FLk RX0 79 1 3 := ⟨RX1, TX1, 5, rfl, by decide, rfl, tb_in (t1_in (List.mem_of_getElem? (i := 207) rfl)) rfl⟩
set_option maxRecDepth 20000 in
theorem flX10_86 : FLk RX10 86 1 3 := ⟨RX1, TX1, 5, rfl, by decide, rfl, tb_in (t1_in (List.mem_of_getElem? (i := 208) rfl)) rfl⟩
set_option maxRecDepth 20000 in
theorem flX9_111 : FLk RX9 111 1 3 := ⟨RX1, TX1, 5, rfl, by decide, rfl, tb_in (t1_in (List.mem_of_getElem? (i := 209) rfl)) rfl⟩
set_option maxRecDepth 20000 in
theorem flX1_26 : FLk RX1 26 1 4 := ⟨RX1, TX1, 5, rfl, by decide, rfl, tb_in (t1_in (List.mem_of_getElem? (i := 210) rfl)) rfl⟩
set_option maxRecDepth 20000 in
theorem plX1_26 (D : MD) (h : (mY D).cls = RX1) : PLk D 26 1 4 := ⟨RX1, TX1, 5, rfl, by decide, rfl, by rw [h]; exact tb_in (t1_in (List.mem_of_getElem? (i := 210) rfl)) rfl, Or.inl rfl⟩
set_option maxRecDepth 20000 in
theorem flX0_72 : FLk RX0 72 1 4 := ⟨RX1, TX1, 5, rfl, by decide, rfl, tb_in (t1_in (List.mem_of_getElem? (i := 211) rfl)) rfl⟩
set_option maxRecDepth 20000 in
theorem flX9_101 : FLk RX9 101 1 4 := ⟨RX1, TX1, 5, rfl, by decide, rfl, tb_in (t1_in (List.mem_of_getElem? (i := 212) rfl)) rfl⟩
set_option maxRecDepth 20000 in
theorem flX11_334 : FLk RX11 334 1 4 := ⟨RX1, TX1, 5, rfl, by decide, rfl, tb_in (t1_in (List.mem_of_getElem? (i := 213) rfl)) rfl⟩
set_option maxRecDepth 20000 in
theorem flX9_9 : FLk RX9 9 9 0 := ⟨RX9, TX9, 4, rfl, by decide, rfl, tb_in (t1_in (List.mem_of_getElem? (i := 231) rfl)) rfl⟩
set_option maxRecDepth 20000 in
theorem plX9_9 (D : MD) (h : (mY D).cls = RX9) (h2 : (mY D).name = "<init>") : PLk D 9 9 0 := ⟨RX9, TX9, 4, rfl, by decide, rfl, by rw [h]; exact tb_in (t1_in (List.mem_of_getElem? (i := 231) rfl)) rfl, Or.inr ⟨rfl, h2, h.symm⟩⟩
set_option maxRecDepth 20000 in
theorem flX9_15 : FLk RX9 15 9 1 := ⟨RX9, TX9, 4, rfl, by decide, rfl, tb_in (t1_in (List.mem_of_getElem? (i := 232) rfl)) rfl⟩
set_option maxRecDepth 20000 in
theorem plX9_15 (D : MD) (h : (mY D).cls = RX9) (h2 : (mY D).name = "<init>") : PLk D 15 9 1 := ⟨RX9, TX9, 4, rfl, by decide, rfl, by rw [h]; exact tb_in (t1_in (List.mem_of_getElem? (i := 232) rfl)) rfl, Or.inr ⟨rfl, h2, h.symm⟩⟩
set_option maxRecDepth 20000 in
theorem flX9_19 : FLk RX9 19 9 2 := ⟨RX9, TX9, 4, rfl, by decide, rfl, tb_in (t1_in (List.mem_of_getElem? (i := 233) rfl)) rfl⟩
set_option maxRecDepth 20000 in
theorem plX9_19 (D : MD) (h : (mY D).cls = RX9) (h2 : (mY D).name = "<init>") : PLk D 19 9 2 := ⟨RX9, TX9, 4, rfl, by decide, rfl, by rw [h]; exact tb_in (t1_in (List.mem_of_getElem? (i := 233) rfl)) rfl, Or.inr ⟨rfl, h2, h.symm⟩⟩
set_option maxRecDepth 20000 in
theorem flX9_23 : FLk RX9 23 9 3 := ⟨RX9, TX9, 4, rfl, by decide, rfl, tb_in (t1_in (List.mem_of_getElem? (i := 234) rfl)) rfl⟩
set_option maxRecDepth 20000 in
theorem plX9_23 (D : MD) (h : (mY D).cls = RX9) (h2 : (mY D).name = "<init>") : PLk D 23 9 3 := ⟨RX9, TX9, 4, rfl, by decide, rfl, by rw [h]; exact tb_in (t1_in (List.mem_of_getElem? (i := 234) rfl)) rfl, Or.inr ⟨rfl, h2, h.symm⟩⟩
set_option maxRecDepth 20000 in
theorem flX10_9 : FLk RX10 9 10 0 := ⟨RX10, TX10, 8, rfl, by decide, rfl, tb_in (t2_in (List.mem_of_getElem? (i := 10) rfl)) rfl⟩
set_option maxRecDepth 20000 in
theorem plX10_9 (D : MD) (h : (mY D).cls = RX10) (h2 : (mY D).name = "<init>") : PLk D 9 10 0 := ⟨RX10, TX10, 8, rfl, by decide, rfl, by rw [h]; exact tb_in (t2_in (List.mem_of_getElem? (i := 10) rfl)) rfl, Or.inr ⟨rfl, h2, h.symm⟩⟩
set_option maxRecDepth 20000 in
theorem flX10_15 : FLk RX10 15 10 1 := ⟨RX10, TX10, 8, rfl, by decide, rfl, tb_in (t2_in (List.mem_of_getElem? (i := 11) rfl)) rfl⟩
set_option maxRecDepth 20000 in
theorem plX10_15 (D : MD) (h : (mY D).cls = RX10) (h2 : (mY D).name = "<init>") : PLk D 15 10 1 := ⟨RX10, TX10, 8, rfl, by decide, rfl, by rw [h]; exact tb_in (t2_in (List.mem_of_getElem? (i := 11) rfl)) rfl, Or.inr ⟨rfl, h2, h.symm⟩⟩
set_option maxRecDepth 20000 in
theorem flX10_19 : FLk RX10 19 10 2 := ⟨RX10, TX10, 8, rfl, by decide, rfl, tb_in (t2_in (List.mem_of_getElem? (i := 12) rfl)) rfl⟩
set_option maxRecDepth 20000 in
theorem plX10_19 (D : MD) (h : (mY D).cls = RX10) (h2 : (mY D).name = "<init>") : PLk D 19 10 2 := ⟨RX10, TX10, 8, rfl, by decide, rfl, by rw [h]; exact tb_in (t2_in (List.mem_of_getElem? (i := 12) rfl)) rfl, Or.inr ⟨rfl, h2, h.symm⟩⟩
set_option maxRecDepth 20000 in
theorem flX10_23 : FLk RX10 23 10 3 := ⟨RX10, TX10, 8, rfl, by decide, rfl, tb_in (t2_in (List.mem_of_getElem? (i := 13) rfl)) rfl⟩
set_option maxRecDepth 20000 in
theorem plX10_23 (D : MD) (h : (mY D).cls = RX10) (h2 : (mY D).name = "<init>") : PLk D 23 10 3 := ⟨RX10, TX10, 8, rfl, by decide, rfl, by rw [h]; exact tb_in (t2_in (List.mem_of_getElem? (i := 13) rfl)) rfl, Or.inr ⟨rfl, h2, h.symm⟩⟩
set_option maxRecDepth 20000 in
theorem flX10_27 : FLk RX10 27 10 4 := ⟨RX10, TX10, 8, rfl, by decide, rfl, tb_in (t2_in (List.mem_of_getElem? (i := 14) rfl)) rfl⟩
set_option maxRecDepth 20000 in
theorem plX10_27 (D : MD) (h : (mY D).cls = RX10) (h2 : (mY D).name = "<init>") : PLk D 27 10 4 := ⟨RX10, TX10, 8, rfl, by decide, rfl, by rw [h]; exact tb_in (t2_in (List.mem_of_getElem? (i := 14) rfl)) rfl, Or.inr ⟨rfl, h2, h.symm⟩⟩
set_option maxRecDepth 20000 in
theorem flX10_30 : FLk RX10 30 10 5 := ⟨RX10, TX10, 8, rfl, by decide, rfl, tb_in (t2_in (List.mem_of_getElem? (i := 15) rfl)) rfl⟩
set_option maxRecDepth 20000 in
theorem plX10_30 (D : MD) (h : (mY D).cls = RX10) (h2 : (mY D).name = "<init>") : PLk D 30 10 5 := ⟨RX10, TX10, 8, rfl, by decide, rfl, by rw [h]; exact tb_in (t2_in (List.mem_of_getElem? (i := 15) rfl)) rfl, Or.inr ⟨rfl, h2, h.symm⟩⟩
set_option maxRecDepth 20000 in
theorem flX11_262 : FLk RX11 262 10 5 := ⟨RX10, TX10, 8, rfl, by decide, rfl, tb_in (t2_in (List.mem_of_getElem? (i := 16) rfl)) rfl⟩
set_option maxRecDepth 20000 in
theorem flX10_33 : FLk RX10 33 10 6 := ⟨RX10, TX10, 8, rfl, by decide, rfl, tb_in (t2_in (List.mem_of_getElem? (i := 17) rfl)) rfl⟩
set_option maxRecDepth 20000 in
theorem plX10_33 (D : MD) (h : (mY D).cls = RX10) (h2 : (mY D).name = "<init>") : PLk D 33 10 6 := ⟨RX10, TX10, 8, rfl, by decide, rfl, by rw [h]; exact tb_in (t2_in (List.mem_of_getElem? (i := 17) rfl)) rfl, Or.inr ⟨rfl, h2, h.symm⟩⟩
set_option maxRecDepth 20000 in
theorem flX7_106 : FLk RX7 106 10 6 := ⟨RX10, TX10, 8, rfl, by decide, rfl, tb_in (t2_in (List.mem_of_getElem? (i := 18) rfl)) rfl⟩
set_option maxRecDepth 20000 in
theorem flX11_244 : FLk RX11 244 10 6 := ⟨RX10, TX10, 8, rfl, by decide, rfl, tb_in (t2_in (List.mem_of_getElem? (i := 19) rfl)) rfl⟩
set_option maxRecDepth 20000 in
theorem flX10_79 : FLk RX10 79 10 7 := ⟨RX10, TX10, 8, rfl, by decide, rfl, tb_in (t2_in (List.mem_of_getElem? (i := 20) rfl)) rfl⟩
set_option maxRecDepth 20000 in
theorem plX10_79 (D : MD) (h : (mY D).cls = RX10) : PLk D 79 10 7 := ⟨RX10, TX10, 8, rfl, by decide, rfl, by rw [h]; exact tb_in (t2_in (List.mem_of_getElem? (i := 20) rfl)) rfl, Or.inl rfl⟩
set_option maxRecDepth 20000 in
theorem flX7_126 : FLk RX7 126 10 7 := ⟨RX10, TX10, 8, rfl, by decide, rfl, tb_in (t2_in (List.mem_of_getElem? (i := 21) rfl)) rfl⟩
set_option maxRecDepth 20000 in
theorem flX11_248 : FLk RX11 248 10 7 := ⟨RX10, TX10, 8, rfl, by decide, rfl, tb_in (t2_in (List.mem_of_getElem? (i := 22) rfl)) rfl⟩
set_option maxRecDepth 20000 in
theorem flX7_9 : FLk RX7 9 7 0 := ⟨RX7, TX7, 11, rfl, by decide, rfl, tb_in (t2_in (List.mem_of_getElem? (i := 47) rfl)) rfl⟩
set_option maxRecDepth 20000 in
theorem plX7_9 (D : MD) (h : (mY D).cls = RX7) (h2 : (mY D).name = "<init>") : PLk D 9 7 0 := ⟨RX7, TX7, 11, rfl, by decide, rfl, by rw [h]; exact tb_in (t2_in (List.mem_of_getElem? (i := 47) rfl)) rfl, Or.inr ⟨rfl, h2, h.symm⟩⟩
set_option maxRecDepth 20000 in
theorem flX7_15 : FLk RX7 15 7 1 := ⟨RX7, TX7, 11, rfl, by decide, rfl, tb_in (t2_in (List.mem_of_getElem? (i := 48) rfl)) rfl⟩
set_option maxRecDepth 20000 in
theorem plX7_15 (D : MD) (h : (mY D).cls = RX7) (h2 : (mY D).name = "<init>") : PLk D 15 7 1 := ⟨RX7, TX7, 11, rfl, by decide, rfl, by rw [h]; exact tb_in (t2_in (List.mem_of_getElem? (i := 48) rfl)) rfl, Or.inr ⟨rfl, h2, h.symm⟩⟩
set_option maxRecDepth 20000 in
theorem flX7_19 : FLk RX7 19 7 2 := ⟨RX7, TX7, 11, rfl, by decide, rfl, tb_in (t2_in (List.mem_of_getElem? (i := 49) rfl)) rfl⟩
set_option maxRecDepth 20000 in
theorem plX7_19 (D : MD) (h : (mY D).cls = RX7) (h2 : (mY D).name = "<init>") : PLk D 19 7 2 := ⟨RX7, TX7, 11, rfl, by decide, rfl, by rw [h]; exact tb_in (t2_in (List.mem_of_getElem? (i := 49) rfl)) rfl, Or.inr ⟨rfl, h2, h.symm⟩⟩
set_option maxRecDepth 20000 in
theorem flX7_23 : FLk RX7 23 7 3 := ⟨RX7, TX7, 11, rfl, by decide, rfl, tb_in (t2_in (List.mem_of_getElem? (i := 50) rfl)) rfl⟩
set_option maxRecDepth 20000 in
theorem plX7_23 (D : MD) (h : (mY D).cls = RX7) (h2 : (mY D).name = "<init>") : PLk D 23 7 3 := ⟨RX7, TX7, 11, rfl, by decide, rfl, by rw [h]; exact tb_in (t2_in (List.mem_of_getElem? (i := 50) rfl)) rfl, Or.inr ⟨rfl, h2, h.symm⟩⟩
set_option maxRecDepth 20000 in
theorem flX7_27 : FLk RX7 27 7 4 := ⟨RX7, TX7, 11, rfl, by decide, rfl, tb_in (t2_in (List.mem_of_getElem? (i := 51) rfl)) rfl⟩
set_option maxRecDepth 20000 in
theorem plX7_27 (D : MD) (h : (mY D).cls = RX7) (h2 : (mY D).name = "<init>") : PLk D 27 7 4 := ⟨RX7, TX7, 11, rfl, by decide, rfl, by rw [h]; exact tb_in (t2_in (List.mem_of_getElem? (i := 51) rfl)) rfl, Or.inr ⟨rfl, h2, h.symm⟩⟩
set_option maxRecDepth 20000 in
theorem flX7_31 : FLk RX7 31 7 5 := ⟨RX7, TX7, 11, rfl, by decide, rfl, tb_in (t2_in (List.mem_of_getElem? (i := 52) rfl)) rfl⟩
set_option maxRecDepth 20000 in
theorem plX7_31 (D : MD) (h : (mY D).cls = RX7) (h2 : (mY D).name = "<init>") : PLk D 31 7 5 := ⟨RX7, TX7, 11, rfl, by decide, rfl, by rw [h]; exact tb_in (t2_in (List.mem_of_getElem? (i := 52) rfl)) rfl, Or.inr ⟨rfl, h2, h.symm⟩⟩
set_option maxRecDepth 20000 in
theorem flX7_34 : FLk RX7 34 7 6 := ⟨RX7, TX7, 11, rfl, by decide, rfl, tb_in (t2_in (List.mem_of_getElem? (i := 53) rfl)) rfl⟩
set_option maxRecDepth 20000 in
theorem plX7_34 (D : MD) (h : (mY D).cls = RX7) (h2 : (mY D).name = "<init>") : PLk D 34 7 6 := ⟨RX7, TX7, 11, rfl, by decide, rfl, by rw [h]; exact tb_in (t2_in (List.mem_of_getElem? (i := 53) rfl)) rfl, Or.inr ⟨rfl, h2, h.symm⟩⟩
set_option maxRecDepth 20000 in
theorem flX7_37 : FLk RX7 37 7 7 := ⟨RX7, TX7, 11, rfl, by decide, rfl, tb_in (t2_in (List.mem_of_getElem? (i := 54) rfl)) rfl⟩
set_option maxRecDepth 20000 in
theorem plX7_37 (D : MD) (h : (mY D).cls = RX7) (h2 : (mY D).name = "<init>") : PLk D 37 7 7 := ⟨RX7, TX7, 11, rfl, by decide, rfl, by rw [h]; exact tb_in (t2_in (List.mem_of_getElem? (i := 54) rfl)) rfl, Or.inr ⟨rfl, h2, h.symm⟩⟩
set_option maxRecDepth 20000 in
theorem flX7_40 : FLk RX7 40 7 8 := ⟨RX7, TX7, 11, rfl, by decide, rfl, tb_in (t2_in (List.mem_of_getElem? (i := 55) rfl)) rfl⟩
set_option maxRecDepth 20000 in
theorem plX7_40 (D : MD) (h : (mY D).cls = RX7) (h2 : (mY D).name = "<init>") : PLk D 40 7 8 := ⟨RX7, TX7, 11, rfl, by decide, rfl, by rw [h]; exact tb_in (t2_in (List.mem_of_getElem? (i := 55) rfl)) rfl, Or.inr ⟨rfl, h2, h.symm⟩⟩
set_option maxRecDepth 20000 in
theorem flX11_296 : FLk RX11 296 7 8 := ⟨RX7, TX7, 11, rfl, by decide, rfl, tb_in (t2_in (List.mem_of_getElem? (i := 56) rfl)) rfl⟩
set_option maxRecDepth 20000 in
theorem flX7_93 : FLk RX7 93 7 9 := ⟨RX7, TX7, 11, rfl, by decide, rfl, tb_in (t2_in (List.mem_of_getElem? (i := 57) rfl)) rfl⟩
set_option maxRecDepth 20000 in
theorem plX7_93 (D : MD) (h : (mY D).cls = RX7) : PLk D 93 7 9 := ⟨RX7, TX7, 11, rfl, by decide, rfl, by rw [h]; exact tb_in (t2_in (List.mem_of_getElem? (i := 57) rfl)) rfl, Or.inl rfl⟩
set_option maxRecDepth 20000 in
theorem flX11_293 : FLk RX11 293 7 9 := ⟨RX7, TX7, 11, rfl, by decide, rfl, tb_in (t2_in (List.mem_of_getElem? (i := 58) rfl)) rfl⟩
set_option maxRecDepth 20000 in
theorem flX7_98 : FLk RX7 98 7 10 := ⟨RX7, TX7, 11, rfl, by decide, rfl, tb_in (t2_in (List.mem_of_getElem? (i := 59) rfl)) rfl⟩
set_option maxRecDepth 20000 in
theorem plX7_98 (D : MD) (h : (mY D).cls = RX7) : PLk D 98 7 10 := ⟨RX7, TX7, 11, rfl, by decide, rfl, by rw [h]; exact tb_in (t2_in (List.mem_of_getElem? (i := 59) rfl)) rfl, Or.inl rfl⟩
set_option maxRecDepth 20000 in
theorem flX11_290 : FLk RX11 290 7 10 := ⟨RX7, TX7, 11, rfl, by decide, rfl, tb_in (t2_in (List.mem_of_getElem? (i := 60) rfl)) rfl⟩
set_option maxRecDepth 20000 in
theorem flX0_9 : FLk RX0 9 0 0 := ⟨RX0, TX0, 5, rfl, by decide, rfl, tb_in (t2_in (List.mem_of_getElem? (i := 90) rfl)) rfl⟩
set_option maxRecDepth 20000 in
theorem plX0_9 (D : MD) (h : (mY D).cls = RX0) (h2 : (mY D).name = "<init>") : PLk D 9 0 0 := ⟨RX0, TX0, 5, rfl, by decide, rfl, by rw [h]; exact tb_in (t2_in (List.mem_of_getElem? (i := 90) rfl)) rfl, Or.inr ⟨rfl, h2, h.symm⟩⟩
set_option maxRecDepth 20000 in
theorem flX0_15 : FLk RX0 15 0 1 := ⟨RX0, TX0, 5, rfl, by decide, rfl, tb_in (t2_in (List.mem_of_getElem? (i := 91) rfl)) rfl⟩
set_option maxRecDepth 20000 in
theorem plX0_15 (D : MD) (h : (mY D).cls = RX0) (h2 : (mY D).name = "<init>") : PLk D 15 0 1 := ⟨RX0, TX0, 5, rfl, by decide, rfl, by rw [h]; exact tb_in (t2_in (List.mem_of_getElem? (i := 91) rfl)) rfl, Or.inr ⟨rfl, h2, h.symm⟩⟩
set_option maxRecDepth 20000 in
theorem flX0_19 : FLk RX0 19 0 2 := ⟨RX0, TX0, 5, rfl, by decide, rfl, tb_in (t2_in (List.mem_of_getElem? (i := 92) rfl)) rfl⟩
set_option maxRecDepth 20000 in
theorem plX0_19 (D : MD) (h : (mY D).cls = RX0) (h2 : (mY D).name = "<init>") : PLk D 19 0 2 := ⟨RX0, TX0, 5, rfl, by decide, rfl, by rw [h]; exact tb_in (t2_in (List.mem_of_getElem? (i := 92) rfl)) rfl, Or.inr ⟨rfl, h2, h.symm⟩⟩
set_option maxRecDepth 20000 in
theorem flX0_23 : FLk RX0 23 0 3 := ⟨RX0, TX0, 5, rfl, by decide, rfl, tb_in (t2_in (List.mem_of_getElem? (i := 93) rfl)) rfl⟩
set_option maxRecDepth 20000 in
theorem plX0_23 (D : MD) (h : (mY D).cls = RX0) (h2 : (mY D).name = "<init>") : PLk D 23 0 3 := ⟨RX0, TX0, 5, rfl, by decide, rfl, by rw [h]; exact tb_in (t2_in (List.mem_of_getElem? (i := 93) rfl)) rfl, Or.inr ⟨rfl, h2, h.symm⟩⟩
set_option maxRecDepth 20000 in
theorem flX0_26 : FLk RX0 26 0 4 := ⟨RX0, TX0, 5, rfl, by decide, rfl, tb_in (t2_in (List.mem_of_getElem? (i := 94) rfl)) rfl⟩
set_option maxRecDepth 20000 in
theorem plX0_26 (D : MD) (h : (mY D).cls = RX0) (h2 : (mY D).name = "<init>") : PLk D 26 0 4 := ⟨RX0, TX0, 5, rfl, by decide, rfl, by rw [h]; exact tb_in (t2_in (List.mem_of_getElem? (i := 94) rfl)) rfl, Or.inr ⟨rfl, h2, h.symm⟩⟩
set_option maxRecDepth 20000 in
theorem flX11_331 : FLk RX11 331 0 4 := ⟨RX0, TX0, 5, rfl, by decide, rfl, tb_in (t2_in (List.mem_of_getElem? (i := 95) rfl)) rfl⟩
set_option maxRecDepth 20000 in
theorem flX3_9 : FLk RX3 9 3 0 := ⟨RX3, TX3, 6, rfl, by decide, rfl, tb_in (t2_in (List.mem_of_getElem? (i := 113) rfl)) rfl⟩
set_option maxRecDepth 20000 in
theorem plX3_9 (D : MD) (h : (mY D).cls = RX3) (h2 : (mY D).name = "<init>") : PLk D 9 3 0 := ⟨RX3, TX3, 6, rfl, by decide, rfl, by rw [h]; exact tb_in (t2_in (List.mem_of_getElem? (i := 113) rfl)) rfl, Or.inr ⟨rfl, h2, h.symm⟩⟩
set_option maxRecDepth 20000 in
theorem flX3_15 : FLk RX3 15 3 1 := ⟨RX3, TX3, 6, rfl, by decide, rfl, tb_in (t2_in (List.mem_of_getElem? (i := 114) rfl)) rfl⟩
set_option maxRecDepth 20000 in
theorem plX3_15 (D : MD) (h : (mY D).cls = RX3) (h2 : (mY D).name = "<init>") : PLk D 15 3 1 := ⟨RX3, TX3, 6, rfl, by decide, rfl, by rw [h]; exact tb_in (t2_in (List.mem_of_getElem? (i := 114) rfl)) rfl, Or.inr ⟨rfl, h2, h.symm⟩⟩
set_option maxRecDepth 20000 in
theorem flX3_19 : FLk RX3 19 3 2 := ⟨RX3, TX3, 6, rfl, by decide, rfl, tb_in (t2_in (List.mem_of_getElem? (i := 115) rfl)) rfl⟩
set_option maxRecDepth 20000 in
theorem plX3_19 (D : MD) (h : (mY D).cls = RX3) (h2 : (mY D).name = "<init>") : PLk D 19 3 2 := ⟨RX3, TX3, 6, rfl, by decide, rfl, by rw [h]; exact tb_in (t2_in (List.mem_of_getElem? (i := 115) rfl)) rfl, Or.inr ⟨rfl, h2, h.symm⟩⟩
set_option maxRecDepth 20000 in
theorem flX3_22 : FLk RX3 22 3 3 := ⟨RX3, TX3, 6, rfl, by decide, rfl, tb_in (t2_in (List.mem_of_getElem? (i := 116) rfl)) rfl⟩
set_option maxRecDepth 20000 in
theorem plX3_22 (D : MD) (h : (mY D).cls = RX3) (h2 : (mY D).name = "<init>") : PLk D 22 3 3 := ⟨RX3, TX3, 6, rfl, by decide, rfl, by rw [h]; exact tb_in (t2_in (List.mem_of_getElem? (i := 116) rfl)) rfl, Or.inr ⟨rfl, h2, h.symm⟩⟩
set_option maxRecDepth 20000 in
theorem flX3_41 : FLk RX3 41 3 4 := ⟨RX3, TX3, 6, rfl, by decide, rfl, tb_in (t2_in (List.mem_of_getElem? (i := 117) rfl)) rfl⟩
set_option maxRecDepth 20000 in
theorem plX3_41 (D : MD) (h : (mY D).cls = RX3) : PLk D 41 3 4 := ⟨RX3, TX3, 6, rfl, by decide, rfl, by rw [h]; exact tb_in (t2_in (List.mem_of_getElem? (i := 117) rfl)) rfl, Or.inl rfl⟩
set_option maxRecDepth 20000 in
theorem flX3_86 : FLk RX3 86 3 5 := ⟨RX3, TX3, 6, rfl, by decide, rfl, tb_in (t2_in (List.mem_of_getElem? (i := 118) rfl)) rfl⟩
set_option maxRecDepth 20000 in
theorem plX3_86 (D : MD) (h : (mY D).cls = RX3) : PLk D 86 3 5 := ⟨RX3, TX3, 6, rfl, by decide, rfl, by rw [h]; exact tb_in (t2_in (List.mem_of_getElem? (i := 118) rfl)) rfl, Or.inl rfl⟩
set_option maxRecDepth 20000 in
theorem flX11_10 : FLk RX11 10 11 0 := ⟨RX11, TX11, 16, rfl, by decide, rfl, tb_in (t2_in (List.mem_of_getElem? (i := 132) rfl)) rfl⟩
set_option maxRecDepth 20000 in
theorem plX11_10 (D : MD) (h : (mY D).cls = RX11) (h2 : (mY D).name = "<init>") : PLk D 10 11 0 := ⟨RX11, TX11, 16, rfl, by decide, rfl, by rw [h]; exact tb_in (t2_in (List.mem_of_getElem? (i := 132) rfl)) rfl, Or.inr ⟨rfl, h2, h.symm⟩⟩
set_option maxRecDepth 20000 in
theorem flX11_16 : FLk RX11 16 11 1 := ⟨RX11, TX11, 16, rfl, by decide, rfl, tb_in (t2_in (List.mem_of_getElem? (i := 133) rfl)) rfl⟩
set_option maxRecDepth 20000 in
theorem plX11_16 (D : MD) (h : (mY D).cls = RX11) (h2 : (mY D).name = "<init>") : PLk D 16 11 1 := ⟨RX11, TX11, 16, rfl, by decide, rfl, by rw [h]; exact tb_in (t2_in (List.mem_of_getElem? (i := 133) rfl)) rfl, Or.inr ⟨rfl, h2, h.symm⟩⟩
set_option maxRecDepth 20000 in
theorem flX11_22 : FLk RX11 22 11 2 := ⟨RX11, TX11, 16, rfl, by decide, rfl, tb_in (t2_in (List.mem_of_getElem? (i := 134) rfl)) rfl⟩
set_option maxRecDepth 20000 in
theorem plX11_22 (D : MD) (h : (mY D).cls = RX11) (h2 : (mY D).name = "<init>") : PLk D 22 11 2 := ⟨RX11, TX11, 16, rfl, by decide, rfl, by rw [h]; exact tb_in (t2_in (List.mem_of_getElem? (i := 134) rfl)) rfl, Or.inr ⟨rfl, h2, h.symm⟩⟩
set_option maxRecDepth 20000 in
theorem flX11_26 : FLk RX11 26 11 3 := ⟨RX11, TX11, 16, rfl, by decide, rfl, tb_in (t2_in (List.mem_of_getElem? (i := 135) rfl)) rfl⟩
set_option maxRecDepth 20000 in
theorem plX11_26 (D : MD) (h : (mY D).cls = RX11) (h2 : (mY D).name = "<init>") : PLk D 26 11 3 := ⟨RX11, TX11, 16, rfl, by decide, rfl, by rw [h]; exact tb_in (t2_in (List.mem_of_getElem? (i := 135) rfl)) rfl, Or.inr ⟨rfl, h2, h.symm⟩⟩
set_option maxRecDepth 20000 in
theorem flX11_29 : FLk RX11 29 11 4 := ⟨RX11, TX11, 16, rfl, by decide, rfl, tb_in (t2_in (List.mem_of_getElem? (i := 136) rfl)) rfl⟩
set_option maxRecDepth 20000 in
theorem plX11_29 (D : MD) (h : (mY D).cls = RX11) (h2 : (mY D).name = "<init>") : PLk D 29 11 4 := ⟨RX11, TX11, 16, rfl, by decide, rfl, by rw [h]; exact tb_in (t2_in (List.mem_of_getElem? (i := 136) rfl)) rfl, Or.inr ⟨rfl, h2, h.symm⟩⟩
set_option maxRecDepth 20000 in
theorem flX11_38 : FLk RX11 38 11 5 := ⟨RX11, TX11, 16, rfl, by decide, rfl, tb_in (t2_in (List.mem_of_getElem? (i := 137) rfl)) rfl⟩
set_option maxRecDepth 20000 in
theorem plX11_38 (D : MD) (h : (mY D).cls = RX11) (h2 : (mY D).name = "<init>") : PLk D 38 11 5 := ⟨RX11, TX11, 16, rfl, by decide, rfl, by rw [h]; exact tb_in (t2_in (List.mem_of_getElem? (i := 137) rfl)) rfl, Or.inr ⟨rfl, h2, h.symm⟩⟩
set_option maxRecDepth 20000 in
theorem flX11_47 : FLk RX11 47 11 6 := ⟨RX11, TX11, 16, rfl, by decide, rfl, tb_in (t2_in (List.mem_of_getElem? (i := 138) rfl)) rfl⟩
set_option maxRecDepth 20000 in
theorem plX11_47 (D : MD) (h : (mY D).cls = RX11) (h2 : (mY D).name = "<init>") : PLk D 47 11 6 := ⟨RX11, TX11, 16, rfl, by decide, rfl, by rw [h]; exact tb_in (t2_in (List.mem_of_getElem? (i := 138) rfl)) rfl, Or.inr ⟨rfl, h2, h.symm⟩⟩
set_option maxRecDepth 20000 in
theorem flX11_56 : FLk RX11 56 11 7 := ⟨RX11, TX11, 16, rfl, by decide, rfl, tb_in (t2_in (List.mem_of_getElem? (i := 139) rfl)) rfl⟩
set_option maxRecDepth 20000 in
theorem plX11_56 (D : MD) (h : (mY D).cls = RX11) (h2 : (mY D).name = "<init>") : PLk D 56 11 7 := ⟨RX11, TX11, 16, rfl, by decide, rfl, by rw [h]; exact tb_in (t2_in (List.mem_of_getElem? (i := 139) rfl)) rfl, Or.inr ⟨rfl, h2, h.symm⟩⟩
set_option maxRecDepth 20000 in
theorem flX11_65 : FLk RX11 65 11 8 := ⟨RX11, TX11, 16, rfl, by decide, rfl, tb_in (t2_in (List.mem_of_getElem? (i := 140) rfl)) rfl⟩
set_option maxRecDepth 20000 in
theorem plX11_65 (D : MD) (h : (mY D).cls = RX11) (h2 : (mY D).name = "<init>") : PLk D 65 11 8 := ⟨RX11, TX11, 16, rfl, by decide, rfl, by rw [h]; exact tb_in (t2_in (List.mem_of_getElem? (i := 140) rfl)) rfl, Or.inr ⟨rfl, h2, h.symm⟩⟩
set_option maxRecDepth 20000 in
theorem flX11_74 : FLk RX11 74 11 9 := ⟨RX11, TX11, 16, rfl, by decide, rfl, tb_in (t2_in (List.mem_of_getElem? (i := 141) rfl)) rfl⟩
set_option maxRecDepth 20000 in
theorem plX11_74 (D : MD) (h : (mY D).cls = RX11) (h2 : (mY D).name = "<init>") : PLk D 74 11 9 := ⟨RX11, TX11, 16, rfl, by decide, rfl, by rw [h]; exact tb_in (t2_in (List.mem_of_getElem? (i := 141) rfl)) rfl, Or.inr ⟨rfl, h2, h.symm⟩⟩
set_option maxRecDepth 20000 in
theorem flX11_83 : FLk RX11 83 11 10 := ⟨RX11, TX11, 16, rfl, by decide, rfl, tb_in (t2_in (List.mem_of_getElem? (i := 142) rfl)) rfl⟩
set_option maxRecDepth 20000 in
theorem plX11_83 (D : MD) (h : (mY D).cls = RX11) (h2 : (mY D).name = "<init>") : PLk D 83 11 10 := ⟨RX11, TX11, 16, rfl, by decide, rfl, by rw [h]; exact tb_in (t2_in (List.mem_of_getElem? (i := 142) rfl)) rfl, Or.inr ⟨rfl, h2, h.symm⟩⟩
set_option maxRecDepth 20000 in
theorem flX11_92 : FLk RX11 92 11 11 := ⟨RX11, TX11, 16, rfl, by decide, rfl, tb_in (t2_in (List.mem_of_getElem? (i := 143) rfl)) rfl⟩
set_option maxRecDepth 20000 in
theorem plX11_92 (D : MD) (h : (mY D).cls = RX11) (h2 : (mY D).name = "<init>") : PLk D 92 11 11 := ⟨RX11, TX11, 16, rfl, by decide, rfl, by rw [h]; exact tb_in (t2_in (List.mem_of_getElem? (i := 143) rfl)) rfl, Or.inr ⟨rfl, h2, h.symm⟩⟩
set_option maxRecDepth 20000 in
theorem flX11_99 : FLk RX11 99 11 12 := ⟨RX11, TX11, 16, rfl, by decide, rfl, tb_in (t2_in (List.mem_of_getElem? (i := 144) rfl)) rfl⟩
set_option maxRecDepth 20000 in
theorem plX11_99 (D : MD) (h : (mY D).cls = RX11) (h2 : (mY D).name = "<init>") : PLk D 99 11 12 := ⟨RX11, TX11, 16, rfl, by decide, rfl, by rw [h]; exact tb_in (t2_in (List.mem_of_getElem? (i := 144) rfl)) rfl, Or.inr ⟨rfl, h2, h.symm⟩⟩
set_option maxRecDepth 20000 in
theorem flX11_103 : FLk RX11 103 11 13 := ⟨RX11, TX11, 16, rfl, by decide, rfl, tb_in (t2_in (List.mem_of_getElem? (i := 145) rfl)) rfl⟩
set_option maxRecDepth 20000 in
theorem plX11_103 (D : MD) (h : (mY D).cls = RX11) : PLk D 103 11 13 := ⟨RX11, TX11, 16, rfl, by decide, rfl, by rw [h]; exact tb_in (t2_in (List.mem_of_getElem? (i := 145) rfl)) rfl, Or.inl rfl⟩
set_option maxRecDepth 20000 in
theorem flX11_107 : FLk RX11 107 11 14 := ⟨RX11, TX11, 16, rfl, by decide, rfl, tb_in (t2_in (List.mem_of_getElem? (i := 146) rfl)) rfl⟩
set_option maxRecDepth 20000 in
theorem plX11_107 (D : MD) (h : (mY D).cls = RX11) : PLk D 107 11 14 := ⟨RX11, TX11, 16, rfl, by decide, rfl, by rw [h]; exact tb_in (t2_in (List.mem_of_getElem? (i := 146) rfl)) rfl, Or.inl rfl⟩
set_option maxRecDepth 20000 in
theorem flX11_110 : FLk RX11 110 11 15 := ⟨RX11, TX11, 16, rfl, by decide, rfl, tb_in (t2_in (List.mem_of_getElem? (i := 147) rfl)) rfl⟩
set_option maxRecDepth 20000 in
theorem plX11_110 (D : MD) (h : (mY D).cls = RX11) : PLk D 110 11 15 := ⟨RX11, TX11, 16, rfl, by decide, rfl, by rw [h]; exact tb_in (t2_in (List.mem_of_getElem? (i := 147) rfl)) rfl, Or.inl rfl⟩
set_option maxRecDepth 20000 in
theorem flX5_9 : FLk RX5 9 5 0 := ⟨RX5, TX5, 4, rfl, by decide, rfl, tb_in (t3_in (List.mem_of_getElem? (i := 210) rfl)) rfl⟩
set_option maxRecDepth 20000 in
theorem plX5_9 (D : MD) (h : (mY D).cls = RX5) (h2 : (mY D).name = "<init>") : PLk D 9 5 0 := ⟨RX5, TX5, 4, rfl, by decide, rfl, by rw [h]; exact tb_in (t3_in (List.mem_of_getElem? (i := 210) rfl)) rfl, Or.inr ⟨rfl, h2, h.symm⟩⟩
set_option maxRecDepth 20000 in
theorem flX5_15 : FLk RX5 15 5 1 := ⟨RX5, TX5, 4, rfl, by decide, rfl, tb_in (t3_in (List.mem_of_getElem? (i := 211) rfl)) rfl⟩
set_option maxRecDepth 20000 in
theorem plX5_15 (D : MD) (h : (mY D).cls = RX5) (h2 : (mY D).name = "<init>") : PLk D 15 5 1 := ⟨RX5, TX5, 4, rfl, by decide, rfl, by rw [h]; exact tb_in (t3_in (List.mem_of_getElem? (i := 211) rfl)) rfl, Or.inr ⟨rfl, h2, h.symm⟩⟩
set_option maxRecDepth 20000 in
theorem plX5_18 (D : MD) (h : (mY D).cls = RX5) (h2 : (mY D).name = "<init>") : PLk D 18 5 2 := ⟨RX5, TX5, 4, rfl, by decide, rfl, by rw [h]; exact tb_in (t3_in (List.mem_of_getElem? (i := 212) rfl)) rfl, Or.inr ⟨rfl, h2, h.symm⟩⟩
set_option maxRecDepth 20000 in
theorem flX9_134 : FLk RX9 134 5 2 := ⟨RX5, TX5, 4, rfl, by decide, rfl, tb_in (t3_in (List.mem_of_getElem? (i := 213) rfl)) rfl⟩
set_option maxRecDepth 20000 in
theorem plX5_21 (D : MD) (h : (mY D).cls = RX5) (h2 : (mY D).name = "<init>") : PLk D 21 5 3 := ⟨RX5, TX5, 4, rfl, by decide, rfl, by rw [h]; exact tb_in (t3_in (List.mem_of_getElem? (i := 214) rfl)) rfl, Or.inr ⟨rfl, h2, h.symm⟩⟩
set_option maxRecDepth 20000 in
theorem flX9_129 : FLk RX9 129 5 3 := ⟨RX5, TX5, 4, rfl, by decide, rfl, tb_in (t3_in (List.mem_of_getElem? (i := 215) rfl)) rfl⟩
set_option maxRecDepth 20000 in
theorem flX12_7 : FLk RX12 7 12 0 := ⟨RX12, TX12, 47, rfl, by decide, rfl, tb_in (t6_in (List.mem_of_getElem? (i := 81) rfl)) rfl⟩
set_option maxRecDepth 20000 in
theorem plX12_7 (D : MD) (h : (mY D).cls = RX12) (h2 : (mY D).name = "<init>") : PLk D 7 12 0 := ⟨RX12, TX12, 47, rfl, by decide, rfl, by rw [h]; exact tb_in (t6_in (List.mem_of_getElem? (i := 81) rfl)) rfl, Or.inr ⟨rfl, h2, h.symm⟩⟩
set_option maxRecDepth 20000 in
theorem flX12_13 : FLk RX12 13 12 1 := ⟨RX12, TX12, 47, rfl, by decide, rfl, tb_in (t6_in (List.mem_of_getElem? (i := 82) rfl)) rfl⟩
set_option maxRecDepth 20000 in
theorem plX12_13 (D : MD) (h : (mY D).cls = RX12) (h2 : (mY D).name = "<init>") : PLk D 13 12 1 := ⟨RX12, TX12, 47, rfl, by decide, rfl, by rw [h]; exact tb_in (t6_in (List.mem_of_getElem? (i := 82) rfl)) rfl, Or.inr ⟨rfl, h2, h.symm⟩⟩
set_option maxRecDepth 20000 in
theorem flX12_16 : FLk RX12 16 12 2 := ⟨RX12, TX12, 47, rfl, by decide, rfl, tb_in (t6_in (List.mem_of_getElem? (i := 83) rfl)) rfl⟩
set_option maxRecDepth 20000 in
theorem plX12_16 (D : MD) (h : (mY D).cls = RX12) (h2 : (mY D).name = "<init>") : PLk D 16 12 2 := ⟨RX12, TX12, 47, rfl, by decide, rfl, by rw [h]; exact tb_in (t6_in (List.mem_of_getElem? (i := 83) rfl)) rfl, Or.inr ⟨rfl, h2, h.symm⟩⟩
set_option maxRecDepth 20000 in
theorem flX12_19 : FLk RX12 19 12 3 := ⟨RX12, TX12, 47, rfl, by decide, rfl, tb_in (t6_in (List.mem_of_getElem? (i := 84) rfl)) rfl⟩
set_option maxRecDepth 20000 in
theorem plX12_19 (D : MD) (h : (mY D).cls = RX12) (h2 : (mY D).name = "<init>") : PLk D 19 12 3 := ⟨RX12, TX12, 47, rfl, by decide, rfl, by rw [h]; exact tb_in (t6_in (List.mem_of_getElem? (i := 84) rfl)) rfl, Or.inr ⟨rfl, h2, h.symm⟩⟩
set_option maxRecDepth 20000 in
theorem flX12_97 : FLk RX12 97 12 4 := ⟨RX12, TX12, 47, rfl, by decide, rfl, tb_in (t6_in (List.mem_of_getElem? (i := 85) rfl)) rfl⟩
set_option maxRecDepth 20000 in
theorem plX12_97 (D : MD) (h : (mY D).cls = RX12) : PLk D 97 12 4 := ⟨RX12, TX12, 47, rfl, by decide, rfl, by rw [h]; exact tb_in (t6_in (List.mem_of_getElem? (i := 85) rfl)) rfl, Or.inl rfl⟩
set_option maxRecDepth 20000 in
theorem flX12_22 : FLk RX12 22 12 5 := ⟨RX12, TX12, 47, rfl, by decide, rfl, tb_in (t6_in (List.mem_of_getElem? (i := 86) rfl)) rfl⟩
set_option maxRecDepth 20000 in
theorem plX12_22 (D : MD) (h : (mY D).cls = RX12) (h2 : (mY D).name = "<init>") : PLk D 22 12 5 := ⟨RX12, TX12, 47, rfl, by decide, rfl, by rw [h]; exact tb_in (t6_in (List.mem_of_getElem? (i := 86) rfl)) rfl, Or.inr ⟨rfl, h2, h.symm⟩⟩
set_option maxRecDepth 20000 in
theorem flX12_112 : FLk RX12 112 12 6 := ⟨RX12, TX12, 47, rfl, by decide, rfl, tb_in (t6_in (List.mem_of_getElem? (i := 87) rfl)) rfl⟩
set_option maxRecDepth 20000 in
theorem plX12_112 (D : MD) (h : (mY D).cls = RX12) : PLk D 112 12 6 := ⟨RX12, TX12, 47, rfl, by decide, rfl, by rw [h]; exact tb_in (t6_in (List.mem_of_getElem? (i := 87) rfl)) rfl, Or.inl rfl⟩
set_option maxRecDepth 20000 in
theorem flX12_25 : FLk RX12 25 12 7 := ⟨RX12, TX12, 47, rfl, by decide, rfl, tb_in (t6_in (List.mem_of_getElem? (i := 88) rfl)) rfl⟩
set_option maxRecDepth 20000 in
theorem plX12_25 (D : MD) (h : (mY D).cls = RX12) : PLk D 25 12 7 := ⟨RX12, TX12, 47, rfl, by decide, rfl, by rw [h]; exact tb_in (t6_in (List.mem_of_getElem? (i := 88) rfl)) rfl, Or.inl rfl⟩
set_option maxRecDepth 20000 in
theorem flX12_29 : FLk RX12 29 12 8 := ⟨RX12, TX12, 47, rfl, by decide, rfl, tb_in (t6_in (List.mem_of_getElem? (i := 89) rfl)) rfl⟩
set_option maxRecDepth 20000 in
theorem plX12_29 (D : MD) (h : (mY D).cls = RX12) : PLk D 29 12 8 := ⟨RX12, TX12, 47, rfl, by decide, rfl, by rw [h]; exact tb_in (t6_in (List.mem_of_getElem? (i := 89) rfl)) rfl, Or.inl rfl⟩
set_option maxRecDepth 20000 in
theorem flX12_119 : FLk RX12 119 12 9 := ⟨RX12, TX12, 47, rfl, by decide, rfl, tb_in (t6_in (List.mem_of_getElem? (i := 90) rfl)) rfl⟩
set_option maxRecDepth 20000 in
theorem plX12_119 (D : MD) (h : (mY D).cls = RX12) : PLk D 119 12 9 := ⟨RX12, TX12, 47, rfl, by decide, rfl, by rw [h]; exact tb_in (t6_in (List.mem_of_getElem? (i := 90) rfl)) rfl, Or.inl rfl⟩
set_option maxRecDepth 20000 in
theorem flX12_126 : FLk RX12 126 12 10 := ⟨RX12, TX12, 47, rfl, by decide, rfl, tb_in (t6_in (List.mem_of_getElem? (i := 91) rfl)) rfl⟩
set_option maxRecDepth 20000 in
theorem plX12_126 (D : MD) (h : (mY D).cls = RX12) : PLk D 126 12 10 := ⟨RX12, TX12, 47, rfl, by decide, rfl, by rw [h]; exact tb_in (t6_in (List.mem_of_getElem? (i := 91) rfl)) rfl, Or.inl rfl⟩
set_option maxRecDepth 20000 in
theorem flX12_129 : FLk RX12 129 12 11 := ⟨RX12, TX12, 47, rfl, by decide, rfl, tb_in (t6_in (List.mem_of_getElem? (i := 92) rfl)) rfl⟩
set_option maxRecDepth 20000 in
theorem plX12_129 (D : MD) (h : (mY D).cls = RX12) : PLk D 129 12 11 := ⟨RX12, TX12, 47, rfl, by decide, rfl, by rw [h]; exact tb_in (t6_in (List.mem_of_getElem? (i := 92) rfl)) rfl, Or.inl rfl⟩
set_option maxRecDepth 20000 in
theorem flX12_135 : FLk RX12 135 12 12 := ⟨RX12, TX12, 47, rfl, by decide, rfl, tb_in (t6_in (List.mem_of_getElem? (i := 93) rfl)) rfl⟩
set_option maxRecDepth 20000 in
theorem plX12_135 (D : MD) (h : (mY D).cls = RX12) : PLk D 135 12 12 := ⟨RX12, TX12, 47, rfl, by decide, rfl, by rw [h]; exact tb_in (t6_in (List.mem_of_getElem? (i := 93) rfl)) rfl, Or.inl rfl⟩
set_option maxRecDepth 20000 in
theorem flX12_142 : FLk RX12 142 12 13 := ⟨RX12, TX12, 47, rfl, by decide, rfl, tb_in (t6_in (List.mem_of_getElem? (i := 94) rfl)) rfl⟩
set_option maxRecDepth 20000 in
theorem plX12_142 (D : MD) (h : (mY D).cls = RX12) : PLk D 142 12 13 := ⟨RX12, TX12, 47, rfl, by decide, rfl, by rw [h]; exact tb_in (t6_in (List.mem_of_getElem? (i := 94) rfl)) rfl, Or.inl rfl⟩
set_option maxRecDepth 20000 in
theorem flX12_167 : FLk RX12 167 12 14 := ⟨RX12, TX12, 47, rfl, by decide, rfl, tb_in (t6_in (List.mem_of_getElem? (i := 95) rfl)) rfl⟩
set_option maxRecDepth 20000 in
theorem plX12_167 (D : MD) (h : (mY D).cls = RX12) : PLk D 167 12 14 := ⟨RX12, TX12, 47, rfl, by decide, rfl, by rw [h]; exact tb_in (t6_in (List.mem_of_getElem? (i := 95) rfl)) rfl, Or.inl rfl⟩
set_option maxRecDepth 20000 in
theorem flX12_170 : FLk RX12 170 12 15 := ⟨RX12, TX12, 47, rfl, by decide, rfl, tb_in (t6_in (List.mem_of_getElem? (i := 96) rfl)) rfl⟩
set_option maxRecDepth 20000 in
theorem plX12_170 (D : MD) (h : (mY D).cls = RX12) : PLk D 170 12 15 := ⟨RX12, TX12, 47, rfl, by decide, rfl, by rw [h]; exact tb_in (t6_in (List.mem_of_getElem? (i := 96) rfl)) rfl, Or.inl rfl⟩
set_option maxRecDepth 20000 in
theorem flX12_177 : FLk RX12 177 12 16 := ⟨RX12, TX12, 47, rfl, by decide, rfl, tb_in (t6_in (List.mem_of_getElem? (i := 97) rfl)) rfl⟩
set_option maxRecDepth 20000 in
theorem plX12_177 (D : MD) (h : (mY D).cls = RX12) : PLk D 177 12 16 := ⟨RX12, TX12, 47, rfl, by decide, rfl, by rw [h]; exact tb_in (t6_in (List.mem_of_getElem? (i := 97) rfl)) rfl, Or.inl rfl⟩
set_option maxRecDepth 20000 in
theorem flX12_32 : FLk RX12 32 12 17 := ⟨RX12, TX12, 47, rfl, by decide, rfl, tb_in (t6_in (List.mem_of_getElem? (i := 98) rfl)) rfl⟩
set_option maxRecDepth 20000 in
theorem plX12_32 (D : MD) (h : (mY D).cls = RX12) (h2 : (mY D).name = "<init>") : PLk D 32 12 17 := ⟨RX12, TX12, 47, rfl, by decide, rfl, by rw [h]; exact tb_in (t6_in (List.mem_of_getElem? (i := 98) rfl)) rfl, Or.inr ⟨rfl, h2, h.symm⟩⟩
set_option maxRecDepth 20000 in
theorem flX12_180 : FLk RX12 180 12 18 := ⟨RX12, TX12, 47, rfl, by decide, rfl, tb_in (t6_in (List.mem_of_getElem? (i := 99) rfl)) rfl⟩
set_option maxRecDepth 20000 in
theorem plX12_180 (D : MD) (h : (mY D).cls = RX12) : PLk D 180 12 18 := ⟨RX12, TX12, 47, rfl, by decide, rfl, by rw [h]; exact tb_in (t6_in (List.mem_of_getElem? (i := 99) rfl)) rfl, Or.inl rfl⟩
set_option maxRecDepth 20000 in
theorem flX12_190 : FLk RX12 190 12 19 := ⟨RX12, TX12, 47, rfl, by decide, rfl, tb_in (t6_in (List.mem_of_getElem? (i := 100) rfl)) rfl⟩
set_option maxRecDepth 20000 in
theorem plX12_190 (D : MD) (h : (mY D).cls = RX12) : PLk D 190 12 19 := ⟨RX12, TX12, 47, rfl, by decide, rfl, by rw [h]; exact tb_in (t6_in (List.mem_of_getElem? (i := 100) rfl)) rfl, Or.inl rfl⟩
set_option maxRecDepth 20000 in
theorem flX12_207 : FLk RX12 207 12 20 := ⟨RX12, TX12, 47, rfl, by decide, rfl, tb_in (t6_in (List.mem_of_getElem? (i := 101) rfl)) rfl⟩
set_option maxRecDepth 20000 in
theorem plX12_207 (D : MD) (h : (mY D).cls = RX12) : PLk D 207 12 20 := ⟨RX12, TX12, 47, rfl, by decide, rfl, by rw [h]; exact tb_in (t6_in (List.mem_of_getElem? (i := 101) rfl)) rfl, Or.inl rfl⟩
set_option maxRecDepth 20000 in
theorem flX12_265 : FLk RX12 265 12 21 := ⟨RX12, TX12, 47, rfl, by decide, rfl, tb_in (t6_in (List.mem_of_getElem? (i := 102) rfl)) rfl⟩
set_option maxRecDepth 20000 in
theorem plX12_265 (D : MD) (h : (mY D).cls = RX12) : PLk D 265 12 21 := ⟨RX12, TX12, 47, rfl, by decide, rfl, by rw [h]; exact tb_in (t6_in (List.mem_of_getElem? (i := 102) rfl)) rfl, Or.inl rfl⟩
set_option maxRecDepth 20000 in
theorem flX12_35 : FLk RX12 35 12 22 := ⟨RX12, TX12, 47, rfl, by decide, rfl, tb_in (t6_in (List.mem_of_getElem? (i := 103) rfl)) rfl⟩
set_option maxRecDepth 20000 in
theorem plX12_35 (D : MD) (h : (mY D).cls = RX12) (h2 : (mY D).name = "<init>") : PLk D 35 12 22 := ⟨RX12, TX12, 47, rfl, by decide, rfl, by rw [h]; exact tb_in (t6_in (List.mem_of_getElem? (i := 103) rfl)) rfl, Or.inr ⟨rfl, h2, h.symm⟩⟩
set_option maxRecDepth 20000 in
theorem flX12_38 : FLk RX12 38 12 23 := ⟨RX12, TX12, 47, rfl, by decide, rfl, tb_in (t6_in (List.mem_of_getElem? (i := 104) rfl)) rfl⟩
set_option maxRecDepth 20000 in
theorem plX12_38 (D : MD) (h : (mY D).cls = RX12) (h2 : (mY D).name = "<init>") : PLk D 38 12 23 := ⟨RX12, TX12, 47, rfl, by decide, rfl, by rw [h]; exact tb_in (t6_in (List.mem_of_getElem? (i := 104) rfl)) rfl, Or.inr ⟨rfl, h2, h.symm⟩⟩
set_option maxRecDepth 20000 in
theorem flX12_321 : FLk RX12 321 12 24 := ⟨RX12, TX12, 47, rfl, by decide, rfl, tb_in (t6_in (List.mem_of_getElem? (i := 105) rfl)) rfl⟩
set_option maxRecDepth 20000 in
theorem plX12_321 (D : MD) (h : (mY D).cls = RX12) : PLk D 321 12 24 := ⟨RX12, TX12, 47, rfl, by decide, rfl, by rw [h]; exact tb_in (t6_in (List.mem_of_getElem? (i := 105) rfl)) rfl, Or.inl rfl⟩
set_option maxRecDepth 20000 in
theorem flX12_324 : FLk RX12 324 12 25 := ⟨RX12, TX12, 47, rfl, by decide, rfl, tb_in (t6_in (List.mem_of_getElem? (i := 106) rfl)) rfl⟩
set_option maxRecDepth 20000 in
theorem plX12_324 (D : MD) (h : (mY D).cls = RX12) : PLk D 324 12 25 := ⟨RX12, TX12, 47, rfl, by decide, rfl, by rw [h]; exact tb_in (t6_in (List.mem_of_getElem? (i := 106) rfl)) rfl, Or.inl rfl⟩
set_option maxRecDepth 20000 in
theorem flX12_327 : FLk RX12 327 12 26 := ⟨RX12, TX12, 47, rfl, by decide, rfl, tb_in (t6_in (List.mem_of_getElem? (i := 107) rfl)) rfl⟩
set_option maxRecDepth 20000 in
theorem plX12_327 (D : MD) (h : (mY D).cls = RX12) : PLk D 327 12 26 := ⟨RX12, TX12, 47, rfl, by decide, rfl, by rw [h]; exact tb_in (t6_in (List.mem_of_getElem? (i := 107) rfl)) rfl, Or.inl rfl⟩
set_option maxRecDepth 20000 in
theorem flX12_330 : FLk RX12 330 12 27 := ⟨RX12, TX12, 47, rfl, by decide, rfl, tb_in (t6_in (List.mem_of_getElem? (i := 108) rfl)) rfl⟩
set_option maxRecDepth 20000 in
theorem plX12_330 (D : MD) (h : (mY D).cls = RX12) : PLk D 330 12 27 := ⟨RX12, TX12, 47, rfl, by decide, rfl, by rw [h]; exact tb_in (t6_in (List.mem_of_getElem? (i := 108) rfl)) rfl, Or.inl rfl⟩
set_option maxRecDepth 20000 in
theorem flX12_333 : FLk RX12 333 12 28 := ⟨RX12, TX12, 47, rfl, by decide, rfl, tb_in (t6_in (List.mem_of_getElem? (i := 109) rfl)) rfl⟩
set_option maxRecDepth 20000 in
theorem plX12_333 (D : MD) (h : (mY D).cls = RX12) : PLk D 333 12 28 := ⟨RX12, TX12, 47, rfl, by decide, rfl, by rw [h]; exact tb_in (t6_in (List.mem_of_getElem? (i := 109) rfl)) rfl, Or.inl rfl⟩
set_option maxRecDepth 20000 in
theorem flX12_336 : FLk RX12 336 12 29 := ⟨RX12, TX12, 47, rfl, by decide, rfl, tb_in (t6_in (List.mem_of_getElem? (i := 110) rfl)) rfl⟩
set_option maxRecDepth 20000 in
theorem plX12_336 (D : MD) (h : (mY D).cls = RX12) : PLk D 336 12 29 := ⟨RX12, TX12, 47, rfl, by decide, rfl, by rw [h]; exact tb_in (t6_in (List.mem_of_getElem? (i := 110) rfl)) rfl, Or.inl rfl⟩
set_option maxRecDepth 20000 in
theorem flX12_339 : FLk RX12 339 12 30 := ⟨RX12, TX12, 47, rfl, by decide, rfl, tb_in (t6_in (List.mem_of_getElem? (i := 111) rfl)) rfl⟩
set_option maxRecDepth 20000 in
theorem plX12_339 (D : MD) (h : (mY D).cls = RX12) : PLk D 339 12 30 := ⟨RX12, TX12, 47, rfl, by decide, rfl, by rw [h]; exact tb_in (t6_in (List.mem_of_getElem? (i := 111) rfl)) rfl, Or.inl rfl⟩
set_option maxRecDepth 20000 in
theorem flX12_42 : FLk RX12 42 12 31 := ⟨RX12, TX12, 47, rfl, by decide, rfl, tb_in (t6_in (List.mem_of_getElem? (i := 112) rfl)) rfl⟩
set_option maxRecDepth 20000 in
theorem plX12_42 (D : MD) (h : (mY D).cls = RX12) (h2 : (mY D).name = "<init>") : PLk D 42 12 31 := ⟨RX12, TX12, 47, rfl, by decide, rfl, by rw [h]; exact tb_in (t6_in (List.mem_of_getElem? (i := 112) rfl)) rfl, Or.inr ⟨rfl, h2, h.symm⟩⟩
set_option maxRecDepth 20000 in
theorem flX12_355 : FLk RX12 355 12 32 := ⟨RX12, TX12, 47, rfl, by decide, rfl, tb_in (t6_in (List.mem_of_getElem? (i := 113) rfl)) rfl⟩
set_option maxRecDepth 20000 in
theorem plX12_355 (D : MD) (h : (mY D).cls = RX12) : PLk D 355 12 32 := ⟨RX12, TX12, 47, rfl, by decide, rfl, by rw [h]; exact tb_in (t6_in (List.mem_of_getElem? (i := 113) rfl)) rfl, Or.inl rfl⟩
set_option maxRecDepth 20000 in
theorem flX12_45 : FLk RX12 45 12 33 := ⟨RX12, TX12, 47, rfl, by decide, rfl, tb_in (t6_in (List.mem_of_getElem? (i := 114) rfl)) rfl⟩
set_option maxRecDepth 20000 in
theorem plX12_45 (D : MD) (h : (mY D).cls = RX12) (h2 : (mY D).name = "<init>") : PLk D 45 12 33 := ⟨RX12, TX12, 47, rfl, by decide, rfl, by rw [h]; exact tb_in (t6_in (List.mem_of_getElem? (i := 114) rfl)) rfl, Or.inr ⟨rfl, h2, h.symm⟩⟩
set_option maxRecDepth 20000 in
theorem flX12_48 : FLk RX12 48 12 34 := ⟨RX12, TX12, 47, rfl, by decide, rfl, tb_in (t6_in (List.mem_of_getElem? (i := 115) rfl)) rfl⟩
set_option maxRecDepth 20000 in
theorem plX12_48 (D : MD) (h : (mY D).cls = RX12) (h2 : (mY D).name = "<init>") : PLk D 48 12 34 := ⟨RX12, TX12, 47, rfl, by decide, rfl, by rw [h]; exact tb_in (t6_in (List.mem_of_getElem? (i := 115) rfl)) rfl, Or.inr ⟨rfl, h2, h.symm⟩⟩
set_option maxRecDepth 20000 in
theorem flX12_51 : FLk RX12 51 12 35 := ⟨RX12, TX12, 47, rfl, by decide, rfl, tb_in (t6_in (List.mem_of_getElem? (i := 116) rfl)) rfl⟩
set_option maxRecDepth 20000 in
theorem plX12_51 (D : MD) (h : (mY D).cls = RX12) (h2 : (mY D).name = "<init>") : PLk D 51 12 35 := ⟨RX12, TX12, 47, rfl, by decide, rfl, by rw [h]; exact tb_in (t6_in (List.mem_of_getElem? (i := 116) rfl)) rfl, Or.inr ⟨rfl, h2, h.symm⟩⟩
set_option maxRecDepth 20000 in
theorem flX12_468 : FLk RX12 468 12 36 := ⟨RX12, TX12, 47, rfl, by decide, rfl, tb_in (t6_in (List.mem_of_getElem? (i := 117) rfl)) rfl⟩
set_option maxRecDepth 20000 in
theorem plX12_468 (D : MD) (h : (mY D).cls = RX12) : PLk D 468 12 36 := ⟨RX12, TX12, 47, rfl, by decide, rfl, by rw [h]; exact tb_in (t6_in (List.mem_of_getElem? (i := 117) rfl)) rfl, Or.inl rfl⟩
set_option maxRecDepth 20000 in
theorem flX12_54 : FLk RX12 54 12 37 := ⟨RX12, TX12, 47, rfl, by decide, rfl, tb_in (t6_in (List.mem_of_getElem? (i := 118) rfl)) rfl⟩
set_option maxRecDepth 20000 in
theorem plX12_54 (D : MD) (h : (mY D).cls = RX12) (h2 : (mY D).name = "<init>") : PLk D 54 12 37 := ⟨RX12, TX12, 47, rfl, by decide, rfl, by rw [h]; exact tb_in (t6_in (List.mem_of_getElem? (i := 118) rfl)) rfl, Or.inr ⟨rfl, h2, h.symm⟩⟩
set_option maxRecDepth 20000 in
theorem flX12_57 : FLk RX12 57 12 38 := ⟨RX12, TX12, 47, rfl, by decide, rfl, tb_in (t6_in (List.mem_of_getElem? (i := 119) rfl)) rfl⟩
set_option maxRecDepth 20000 in
theorem plX12_57 (D : MD) (h : (mY D).cls = RX12) (h2 : (mY D).name = "<init>") : PLk D 57 12 38 := ⟨RX12, TX12, 47, rfl, by decide, rfl, by rw [h]; exact tb_in (t6_in (List.mem_of_getElem? (i := 119) rfl)) rfl, Or.inr ⟨rfl, h2, h.symm⟩⟩
set_option maxRecDepth 20000 in
theorem flX12_60 : FLk RX12 60 12 39 := ⟨RX12, TX12, 47, rfl, by decide, rfl, tb_in (t6_in (List.mem_of_getElem? (i := 120) rfl)) rfl⟩
set_option maxRecDepth 20000 in
theorem plX12_60 (D : MD) (h : (mY D).cls = RX12) (h2 : (mY D).name = "<init>") : PLk D 60 12 39 := ⟨RX12, TX12, 47, rfl, by decide, rfl, by rw [h]; exact tb_in (t6_in (List.mem_of_getElem? (i := 120) rfl)) rfl, Or.inr ⟨rfl, h2, h.symm⟩⟩
set_option maxRecDepth 20000 in
theorem flX12_64 : FLk RX12 64 12 40 := ⟨RX12, TX12, 47, rfl, by decide, rfl, tb_in (t6_in (List.mem_of_getElem? (i := 121) rfl)) rfl⟩
set_option maxRecDepth 20000 in
theorem plX12_64 (D : MD) (h : (mY D).cls = RX12) (h2 : (mY D).name = "<init>") : PLk D 64 12 40 := ⟨RX12, TX12, 47, rfl, by decide, rfl, by rw [h]; exact tb_in (t6_in (List.mem_of_getElem? (i := 121) rfl)) rfl, Or.inr ⟨rfl, h2, h.symm⟩⟩
set_option maxRecDepth 20000 in
theorem flX12_67 : FLk RX12 67 12 41 := ⟨RX12, TX12, 47, rfl, by decide, rfl, tb_in (t6_in (List.mem_of_getElem? (i := 122) rfl)) rfl⟩
set_option maxRecDepth 20000 in
theorem plX12_67 (D : MD) (h : (mY D).cls = RX12) (h2 : (mY D).name = "<init>") : PLk D 67 12 41 := ⟨RX12, TX12, 47, rfl, by decide, rfl, by rw [h]; exact tb_in (t6_in (List.mem_of_getElem? (i := 122) rfl)) rfl, Or.inr ⟨rfl, h2, h.symm⟩⟩
set_option maxRecDepth 20000 in
theorem flX12_70 : FLk RX12 70 12 42 := ⟨RX12, TX12, 47, rfl, by decide, rfl, tb_in (t6_in (List.mem_of_getElem? (i := 123) rfl)) rfl⟩
set_option maxRecDepth 20000 in
theorem plX12_70 (D : MD) (h : (mY D).cls = RX12) (h2 : (mY D).name = "<init>") : PLk D 70 12 42 := ⟨RX12, TX12, 47, rfl, by decide, rfl, by rw [h]; exact tb_in (t6_in (List.mem_of_getElem? (i := 123) rfl)) rfl, Or.inr ⟨rfl, h2, h.symm⟩⟩
set_option maxRecDepth 20000 in
theorem flX12_490 : FLk RX12 490 12 43 := ⟨RX12, TX12, 47, rfl, by decide, rfl, tb_in (t6_in (List.mem_of_getElem? (i := 124) rfl)) rfl⟩
set_option maxRecDepth 20000 in
theorem plX12_490 (D : MD) (h : (mY D).cls = RX12) : PLk D 490 12 43 := ⟨RX12, TX12, 47, rfl, by decide, rfl, by rw [h]; exact tb_in (t6_in (List.mem_of_getElem? (i := 124) rfl)) rfl, Or.inl rfl⟩
set_option maxRecDepth 20000 in
theorem flX12_493 : FLk RX12 493 12 44 := ⟨RX12, TX12, 47, rfl, by decide, rfl, tb_in (t6_in (List.mem_of_getElem? (i := 125) rfl)) rfl⟩
set_option maxRecDepth 20000 in
theorem plX12_493 (D : MD) (h : (mY D).cls = RX12) : PLk D 493 12 44 := ⟨RX12, TX12, 47, rfl, by decide, rfl, by rw [h]; exact tb_in (t6_in (List.mem_of_getElem? (i := 125) rfl)) rfl, Or.inl rfl⟩
set_option maxRecDepth 20000 in
theorem flX12_73 : FLk RX12 73 12 45 := ⟨RX12, TX12, 47, rfl, by decide, rfl, tb_in (t6_in (List.mem_of_getElem? (i := 126) rfl)) rfl⟩
set_option maxRecDepth 20000 in
theorem plX12_73 (D : MD) (h : (mY D).cls = RX12) (h2 : (mY D).name = "<init>") : PLk D 73 12 45 := ⟨RX12, TX12, 47, rfl, by decide, rfl, by rw [h]; exact tb_in (t6_in (List.mem_of_getElem? (i := 126) rfl)) rfl, Or.inr ⟨rfl, h2, h.symm⟩⟩
set_option maxRecDepth 20000 in
theorem flX12_76 : FLk RX12 76 12 46 := ⟨RX12, TX12, 47, rfl, by decide, rfl, tb_in (t6_in (List.mem_of_getElem? (i := 127) rfl)) rfl⟩
set_option maxRecDepth 20000 in
theorem plX12_76 (D : MD) (h : (mY D).cls = RX12) (h2 : (mY D).name = "<init>") : PLk D 76 12 46 := ⟨RX12, TX12, 47, rfl, by decide, rfl, by rw [h]; exact tb_in (t6_in (List.mem_of_getElem? (i := 127) rfl)) rfl, Or.inr ⟨rfl, h2, h.symm⟩⟩
set_option maxRecDepth 20000 in
theorem lkL_9 : LkM RL 9 (mdX11_init) := tb_in (t1_in (List.mem_of_getElem? (i := 24) rfl)) rfl
set_option maxRecDepth 20000 in
theorem lkX11_9 : LkM RX11 9 (mdX6_init) := tb_in (t1_in (List.mem_of_getElem? (i := 32) rfl)) rfl
set_option maxRecDepth 20000 in
theorem lkX6_33 : LkM RX6 33 (mdJ7_fill_53178) := tb_in (t1_in (List.mem_of_getElem? (i := 38) rfl)) rfl
set_option maxRecDepth 20000 in
theorem lkX11_21 : LkM RX11 21 (mdX8_init) := tb_in (t1_in (List.mem_of_getElem? (i := 97) rfl)) rfl
set_option maxRecDepth 20000 in
theorem lkX11_35 : LkM RX11 35 (mdX4_init) := tb_in (t1_in (List.mem_of_getElem? (i := 121) rfl)) rfl
set_option maxRecDepth 20000 in
theorem lkX11_44 : LkM RX11 44 (mdX2_init) := tb_in (t1_in (List.mem_of_getElem? (i := 175) rfl)) rfl
set_option maxRecDepth 20000 in
theorem lkX11_53 : LkM RX11 53 (mdX1_init) := tb_in (t1_in (List.mem_of_getElem? (i := 194) rfl)) rfl
set_option maxRecDepth 20000 in
theorem lkX11_62 : LkM RX11 62 (mdX9_init) := tb_in (t1_in (List.mem_of_getElem? (i := 227) rfl)) rfl
set_option maxRecDepth 20000 in
theorem lkX11_71 : LkM RX11 71 (mdX10_init) := tb_in (t2_in (List.mem_of_getElem? (i := 6) rfl)) rfl
set_option maxRecDepth 20000 in
theorem lkX11_80 : LkM RX11 80 (mdX7_init) := tb_in (t2_in (List.mem_of_getElem? (i := 43) rfl)) rfl
set_option maxRecDepth 20000 in
theorem lkX11_89 : LkM RX11 89 (mdX0_init) := tb_in (t2_in (List.mem_of_getElem? (i := 86) rfl)) rfl
set_option maxRecDepth 20000 in
theorem lkX11_98 : LkM RX11 98 (mdX3_init) := tb_in (t2_in (List.mem_of_getElem? (i := 109) rfl)) rfl
set_option maxRecDepth 20000 in
theorem lkL_13 : LkM RL 13 (mdX11_corner) := tb_in (t2_in (List.mem_of_getElem? (i := 181) rfl)) rfl
set_option maxRecDepth 20000 in
theorem lkX11_113 : LkM RX11 113 (mdX6_addCorner) := tb_in (t2_in (List.mem_of_getElem? (i := 185) rfl)) rfl
set_option maxRecDepth 20000 in
theorem lkL_18 : LkM RL 18 (mdX11_street) := tb_in (t2_in (List.mem_of_getElem? (i := 189) rfl)) rfl
set_option maxRecDepth 20000 in
theorem lkX11_117 : LkM RX11 117 (mdX6_addStreet) := tb_in (t2_in (List.mem_of_getElem? (i := 193) rfl)) rfl
set_option maxRecDepth 20000 in
theorem lkX6_77 : LkM RX6 77 (mdX6_hasCorner) := tb_in (t2_in (List.mem_of_getElem? (i := 197) rfl)) rfl
set_option maxRecDepth 20000 in
theorem lkL_23 : LkM RL 23 (mdX11_goal) := tb_in (t2_in (List.mem_of_getElem? (i := 204) rfl)) rfl
set_option maxRecDepth 20000 in
theorem lkX11_121 : LkM RX11 121 (mdX6_setGoal) := tb_in (t2_in (List.mem_of_getElem? (i := 208) rfl)) rfl
set_option maxRecDepth 20000 in
theorem lkL_28 : LkM RL 28 (mdX11_teller) := tb_in (t2_in (List.mem_of_getElem? (i := 212) rfl)) rfl
set_option maxRecDepth 20000 in
theorem lkX11_125 : LkM RX11 125 (mdX6_addTeller) := tb_in (t2_in (List.mem_of_getElem? (i := 216) rfl)) rfl
set_option maxRecDepth 20000 in
theorem lkL_33 : LkM RL 33 (mdX11_telling) := tb_in (t2_in (List.mem_of_getElem? (i := 223) rfl)) rfl
set_option maxRecDepth 20000 in
theorem lkX11_129 : LkM RX11 129 (mdX6_addTelling) := tb_in (t2_in (List.mem_of_getElem? (i := 227) rfl)) rfl
set_option maxRecDepth 20000 in
theorem lkX6_87 : LkM RX6 87 (mdX6_hasTeller) := tb_in (t2_in (List.mem_of_getElem? (i := 231) rfl)) rfl
set_option maxRecDepth 20000 in
theorem lkX6_90 : LkM RX6 90 (mdX6_putTurns) := tb_in (t2_in (List.mem_of_getElem? (i := 235) rfl)) rfl
set_option maxRecDepth 20000 in
theorem lkX6_95 : LkM RX6 95 (mdX6_isTurn) := tb_in (t3_in (List.mem_of_getElem? (i := 1) rfl)) rfl
set_option maxRecDepth 20000 in
theorem lkL_37 : LkM RL 37 (mdX11_feed) := tb_in (t3_in (List.mem_of_getElem? (i := 4) rfl)) rfl
set_option maxRecDepth 20000 in
theorem lkX11_132 : LkM RX11 132 (mdX11_putBytes) := tb_in (t3_in (List.mem_of_getElem? (i := 8) rfl)) rfl
set_option maxRecDepth 20000 in
theorem lkL_42 : LkM RL 42 (mdX11_end) := tb_in (t3_in (List.mem_of_getElem? (i := 12) rfl)) rfl
set_option maxRecDepth 20000 in
theorem lkL_46 : LkM RL 46 (mdX11_text) := tb_in (t3_in (List.mem_of_getElem? (i := 16) rfl)) rfl
set_option maxRecDepth 20000 in
theorem lkX11_139 : LkM RX11 139 (mdX4_reads) := tb_in (t3_in (List.mem_of_getElem? (i := 20) rfl)) rfl
set_option maxRecDepth 20000 in
theorem lkX4_33 : LkM RX4 33 (mdJ9_min_7cf53) := tb_in (t3_in (List.mem_of_getElem? (i := 24) rfl)) rfl
set_option maxRecDepth 20000 in
theorem lkX4_39 : LkM RX4 39 (mdX4_part) := tb_in (t3_in (List.mem_of_getElem? (i := 27) rfl)) rfl
set_option maxRecDepth 20000 in
theorem lkX4_84 : LkM RX4 84 (mdX4_endOfToken) := tb_in (t3_in (List.mem_of_getElem? (i := 31) rfl)) rfl
set_option maxRecDepth 20000 in
theorem lkX4_95 : LkM RX4 95 (mdX4_isLetter) := tb_in (t3_in (List.mem_of_getElem? (i := 35) rfl)) rfl
set_option maxRecDepth 20000 in
theorem lkX4_98 : LkM RX4 98 (mdX4_isDigit) := tb_in (t3_in (List.mem_of_getElem? (i := 38) rfl)) rfl
set_option maxRecDepth 20000 in
theorem lkX4_87 : LkM RX4 87 (mdX4_isBlank) := tb_in (t3_in (List.mem_of_getElem? (i := 41) rfl)) rfl
set_option maxRecDepth 20000 in
theorem lkX4_91 : LkM RX4 91 (mdX4_setToken) := tb_in (t3_in (List.mem_of_getElem? (i := 44) rfl)) rfl
set_option maxRecDepth 20000 in
theorem lkX4_101 : LkM RX4 101 (mdX4_wordOf) := tb_in (t3_in (List.mem_of_getElem? (i := 48) rfl)) rfl
set_option maxRecDepth 20000 in
theorem lkX4_109 : LkM RX4 109 (mdJ0_length_8abf5) := tb_in (t3_in (List.mem_of_getElem? (i := 53) rfl)) rfl
set_option maxRecDepth 20000 in
theorem lkJ0_335 : LkM RJ0 335 (mdJ0_coder_7d493) := tb_in (t3_in (List.mem_of_getElem? (i := 57) rfl)) rfl
set_option maxRecDepth 20000 in
theorem lkX4_115 : LkM RX4 115 (mdJ0_charAt_5068e) := tb_in (t3_in (List.mem_of_getElem? (i := 63) rfl)) rfl
set_option maxRecDepth 20000 in
theorem lkJ0_492 : LkM RJ0 492 (mdJ0_isLatin1_aae02) := tb_in (t3_in (List.mem_of_getElem? (i := 67) rfl)) rfl
set_option maxRecDepth 20000 in
theorem lkJ0_495 : LkM RJ0 495 (mdJ1_charAt_3b067) := tb_in (t3_in (List.mem_of_getElem? (i := 71) rfl)) rfl
set_option maxRecDepth 20000 in
theorem lkJ1_9 : LkM RJ1 9 (mdJ0_checkIndex_df160) := tb_in (t3_in (List.mem_of_getElem? (i := 74) rfl)) rfl
set_option maxRecDepth 20000 in
theorem lkJ0_1059 : LkM RJ0 1059 (mdJ3_checkIndex_8e157) := tb_in (t3_in (List.mem_of_getElem? (i := 79) rfl)) rfl
set_option maxRecDepth 20000 in
theorem lkX4_104 : LkM RX4 104 (mdX4_numberOf) := tb_in (t3_in (List.mem_of_getElem? (i := 101) rfl)) rfl
set_option maxRecDepth 20000 in
theorem lkX4_56 : LkM RX4 56 (mdJ7_fill_53178) := tb_in (t3_in (List.mem_of_getElem? (i := 105) rfl)) rfl
set_option maxRecDepth 20000 in
theorem lkX4_65 : LkM RX4 65 (mdX4_takeToken) := tb_in (t3_in (List.mem_of_getElem? (i := 106) rfl)) rfl
set_option maxRecDepth 20000 in
theorem lkX4_72 : LkM RX4 72 (mdX4_readClause) := tb_in (t3_in (List.mem_of_getElem? (i := 110) rfl)) rfl
set_option maxRecDepth 20000 in
theorem lkX4_122 : LkM RX4 122 (mdX4_failed) := tb_in (t3_in (List.mem_of_getElem? (i := 114) rfl)) rfl
set_option maxRecDepth 20000 in
theorem lkX4_125 : LkM RX4 125 (mdX4_keep) := tb_in (t3_in (List.mem_of_getElem? (i := 118) rfl)) rfl
set_option maxRecDepth 20000 in
theorem lkX4_129 : LkM RX4 129 (mdX4_beginLaw) := tb_in (t3_in (List.mem_of_getElem? (i := 122) rfl)) rfl
set_option maxRecDepth 20000 in
theorem lkX4_132 (v : Nat) : LkM RX4 132 (mdX4_readSum v) := tb_in (t3_in (List.mem_of_getElem? (i := 126) rfl)) rfl
set_option maxRecDepth 20000 in
theorem lkX4_173 (v : Nat) : LkM RX4 173 (mdX4_readProduct v) := tb_in (t3_in (List.mem_of_getElem? (i := 130) rfl)) rfl
set_option maxRecDepth 20000 in
theorem lkX4_179 (v : Nat) : LkM RX4 179 (mdX4_readOne v) := tb_in (t3_in (List.mem_of_getElem? (i := 134) rfl)) rfl
set_option maxRecDepth 20000 in
theorem lkX4_176 : LkM RX4 176 (mdX4_emit) := tb_in (t3_in (List.mem_of_getElem? (i := 138) rfl)) rfl
set_option maxRecDepth 20000 in
theorem lkX4_163 : LkM RX4 163 (mdX4_isSign) := tb_in (t3_in (List.mem_of_getElem? (i := 142) rfl)) rfl
set_option maxRecDepth 20000 in
theorem lkX4_151 : LkM RX4 151 (mdX4_readWord) := tb_in (t3_in (List.mem_of_getElem? (i := 146) rfl)) rfl
set_option maxRecDepth 20000 in
theorem lkX4_141 : LkM RX4 141 (mdX4_readSign) := tb_in (t3_in (List.mem_of_getElem? (i := 150) rfl)) rfl
set_option maxRecDepth 20000 in
theorem lkX4_135 : LkM RX4 135 (mdX4_endLaw) := tb_in (t3_in (List.mem_of_getElem? (i := 154) rfl)) rfl
set_option maxRecDepth 20000 in
theorem lkX4_138 : LkM RX4 138 (mdX4_readDeed) := tb_in (t3_in (List.mem_of_getElem? (i := 158) rfl)) rfl
set_option maxRecDepth 20000 in
theorem lkX4_144 : LkM RX4 144 (mdX4_readNumber) := tb_in (t3_in (List.mem_of_getElem? (i := 162) rfl)) rfl
set_option maxRecDepth 20000 in
theorem lkX4_148 : LkM RX4 148 (mdX4_readCorner) := tb_in (t3_in (List.mem_of_getElem? (i := 166) rfl)) rfl
set_option maxRecDepth 20000 in
theorem lkX4_154 : LkM RX4 154 (mdX4_readFacing) := tb_in (t3_in (List.mem_of_getElem? (i := 170) rfl)) rfl
set_option maxRecDepth 20000 in
theorem lkX4_157 : LkM RX4 157 (mdX4_readTurns) := tb_in (t3_in (List.mem_of_getElem? (i := 174) rfl)) rfl
set_option maxRecDepth 20000 in
theorem lkX4_166 : LkM RX4 166 (mdX4_readTurn) := tb_in (t3_in (List.mem_of_getElem? (i := 178) rfl)) rfl
set_option maxRecDepth 20000 in
theorem lkX4_160 : LkM RX4 160 (mdX4_readSideTo) := tb_in (t3_in (List.mem_of_getElem? (i := 182) rfl)) rfl
set_option maxRecDepth 20000 in
theorem lkX11_148 : LkM RX11 148 (mdX4_asRead) := tb_in (t3_in (List.mem_of_getElem? (i := 186) rfl)) rfl
set_option maxRecDepth 20000 in
theorem lkX4_77 : LkM RX4 77 (mdJ7_copyOf_59c91) := tb_in (t3_in (List.mem_of_getElem? (i := 192) rfl)) rfl
set_option maxRecDepth 20000 in
theorem lkJ7_304 : LkM RJ7 304 (mdJ9_min_7cf53) := tb_in (t3_in (List.mem_of_getElem? (i := 202) rfl)) rfl
set_option maxRecDepth 20000 in
theorem lkX4_81 : LkM RX4 81 (mdX5_init) := tb_in (t3_in (List.mem_of_getElem? (i := 206) rfl)) rfl
set_option maxRecDepth 20000 in
theorem lkX11_152 : LkM RX11 152 (mdX6_addText) := tb_in (t3_in (List.mem_of_getElem? (i := 226) rfl)) rfl
set_option maxRecDepth 20000 in
theorem lkL_51 : LkM RL 51 (mdX11_fault) := tb_in (t3_in (List.mem_of_getElem? (i := 230) rfl)) rfl
set_option maxRecDepth 20000 in
theorem lkL_55 : LkM RL 55 (mdX11_by) := tb_in (t3_in (List.mem_of_getElem? (i := 234) rfl)) rfl
set_option maxRecDepth 20000 in
theorem lkL_59 : LkM RL 59 (mdX11_start) := tb_in (t3_in (List.mem_of_getElem? (i := 238) rfl)) rfl
set_option maxRecDepth 20000 in
theorem lkX11_159 : LkM RX11 159 (mdX9_begins) := tb_in (t4_in (List.mem_of_getElem? (i := 2) rfl)) rfl
set_option maxRecDepth 20000 in
theorem lkX9_33 : LkM RX9 33 (mdX6_hasCorner) := tb_in (t4_in (List.mem_of_getElem? (i := 6) rfl)) rfl
set_option maxRecDepth 20000 in
theorem lkX9_42 : LkM RX9 42 (mdX8_keepStep) := tb_in (t4_in (List.mem_of_getElem? (i := 8) rfl)) rfl
set_option maxRecDepth 20000 in
theorem lkX8_31 : LkM RX8 31 (mdJ9_min_7cf53) := tb_in (t4_in (List.mem_of_getElem? (i := 13) rfl)) rfl
set_option maxRecDepth 20000 in
theorem lkX9_45 : LkM RX9 45 (mdX9_place) := tb_in (t4_in (List.mem_of_getElem? (i := 14) rfl)) rfl
set_option maxRecDepth 20000 in
theorem lkL_64 : LkM RL 64 (mdX11_walk) := tb_in (t4_in (List.mem_of_getElem? (i := 18) rfl)) rfl
set_option maxRecDepth 20000 in
theorem lkX11_163 : LkM RX11 163 (mdX9_canGo) := tb_in (t4_in (List.mem_of_getElem? (i := 22) rfl)) rfl
set_option maxRecDepth 20000 in
theorem lkX9_49 : LkM RX9 49 (mdX6_ahead) := tb_in (t4_in (List.mem_of_getElem? (i := 26) rfl)) rfl
set_option maxRecDepth 20000 in
theorem lkX11_166 : LkM RX11 166 (mdX9_goes) := tb_in (t4_in (List.mem_of_getElem? (i := 30) rfl)) rfl
set_option maxRecDepth 20000 in
theorem lkX9_53 : LkM RX9 53 (mdX9_canGo) := tb_in (t4_in (List.mem_of_getElem? (i := 34) rfl)) rfl
set_option maxRecDepth 20000 in
theorem lkX9_56 : LkM RX9 56 (mdX9_goAhead) := tb_in (t4_in (List.mem_of_getElem? (i := 35) rfl)) rfl
set_option maxRecDepth 20000 in
theorem lkX9_59 : LkM RX9 59 (mdX2_pace) := tb_in (t4_in (List.mem_of_getElem? (i := 39) rfl)) rfl
set_option maxRecDepth 20000 in
theorem lkX2_39 : LkM RX2 39 (mdX6_textOf) := tb_in (t4_in (List.mem_of_getElem? (i := 43) rfl)) rfl
set_option maxRecDepth 20000 in
theorem lkX2_43 : LkM RX2 43 (mdX5_rules) := tb_in (t4_in (List.mem_of_getElem? (i := 47) rfl)) rfl
set_option maxRecDepth 20000 in
theorem lkX2_61 : LkM RX2 61 (mdX6_laneAt) := tb_in (t4_in (List.mem_of_getElem? (i := 51) rfl)) rfl
set_option maxRecDepth 20000 in
theorem lkX2_64 : LkM RX2 64 (mdX6_ahead) := tb_in (t4_in (List.mem_of_getElem? (i := 55) rfl)) rfl
set_option maxRecDepth 20000 in
theorem lkX2_67 : LkM RX2 67 (mdX6_sightOf) := tb_in (t4_in (List.mem_of_getElem? (i := 56) rfl)) rfl
set_option maxRecDepth 20000 in
theorem lkX2_53 : LkM RX2 53 (mdX5_value) := tb_in (t4_in (List.mem_of_getElem? (i := 60) rfl)) rfl
set_option maxRecDepth 20000 in
theorem lkX5_25 : LkM RX5 25 (mdX5_rules) := tb_in (t4_in (List.mem_of_getElem? (i := 64) rfl)) rfl
set_option maxRecDepth 20000 in
theorem lkX5_29 : LkM RX5 29 (mdJ9_min_7cf53) := tb_in (t4_in (List.mem_of_getElem? (i := 65) rfl)) rfl
set_option maxRecDepth 20000 in
theorem lkX5_35 : LkM RX5 35 (mdX5_ofTwo) := tb_in (t4_in (List.mem_of_getElem? (i := 66) rfl)) rfl
set_option maxRecDepth 20000 in
theorem lkX5_39 : LkM RX5 39 (mdJ9_min_f86c9) := tb_in (t4_in (List.mem_of_getElem? (i := 69) rfl)) rfl
set_option maxRecDepth 20000 in
theorem lkX5_42 : LkM RX5 42 (mdJ9_max_f86c9) := tb_in (t4_in (List.mem_of_getElem? (i := 72) rfl)) rfl
set_option maxRecDepth 20000 in
theorem lkX11_359 : LkM RX11 359 (mdJ9_min_7cf53) := tb_in (t4_in (List.mem_of_getElem? (i := 80) rfl)) rfl
set_option maxRecDepth 20000 in
theorem lkX11_362 : LkM RX11 362 (mdJ9_max_7cf53) := tb_in (t4_in (List.mem_of_getElem? (i := 81) rfl)) rfl
set_option maxRecDepth 20000 in
theorem lkL_68 : LkM RL 68 (mdX11_turn) := tb_in (t4_in (List.mem_of_getElem? (i := 84) rfl)) rfl
set_option maxRecDepth 20000 in
theorem lkX11_172 : LkM RX11 172 (mdX9_turns) := tb_in (t4_in (List.mem_of_getElem? (i := 88) rfl)) rfl
set_option maxRecDepth 20000 in
theorem lkX9_64 : LkM RX9 64 (mdX9_isThere) := tb_in (t4_in (List.mem_of_getElem? (i := 92) rfl)) rfl
set_option maxRecDepth 20000 in
theorem lkX9_68 : LkM RX9 68 (mdX9_faceTo) := tb_in (t4_in (List.mem_of_getElem? (i := 96) rfl)) rfl
set_option maxRecDepth 20000 in
theorem lkX9_72 : LkM RX9 72 (mdX1_sideOf) := tb_in (t4_in (List.mem_of_getElem? (i := 100) rfl)) rfl
set_option maxRecDepth 20000 in
theorem lkL_72 : LkM RL 72 (mdX11_ask) := tb_in (t4_in (List.mem_of_getElem? (i := 103) rfl)) rfl
set_option maxRecDepth 20000 in
theorem lkX11_175 : LkM RX11 175 (mdX9_asks) := tb_in (t4_in (List.mem_of_getElem? (i := 107) rfl)) rfl
set_option maxRecDepth 20000 in
theorem lkX9_77 : LkM RX9 77 (mdX6_hasTeller) := tb_in (t4_in (List.mem_of_getElem? (i := 111) rfl)) rfl
set_option maxRecDepth 20000 in
theorem lkX9_80 : LkM RX9 80 (mdX6_tellerCell) := tb_in (t4_in (List.mem_of_getElem? (i := 112) rfl)) rfl
set_option maxRecDepth 20000 in
theorem lkX9_83 : LkM RX9 83 (mdX9_hear) := tb_in (t4_in (List.mem_of_getElem? (i := 116) rfl)) rfl
set_option maxRecDepth 20000 in
theorem lkX9_86 : LkM RX9 86 (mdX2_asking) := tb_in (t4_in (List.mem_of_getElem? (i := 120) rfl)) rfl
set_option maxRecDepth 20000 in
theorem lkX2_49 : LkM RX2 49 (mdX2_nameTeller) := tb_in (t4_in (List.mem_of_getElem? (i := 124) rfl)) rfl
set_option maxRecDepth 20000 in
theorem lkX2_32 : LkM RX2 32 (mdX6_tellerCell) := tb_in (t4_in (List.mem_of_getElem? (i := 128) rfl)) rfl
set_option maxRecDepth 20000 in
theorem lkX2_71 : LkM RX2 71 (mdX6_hasTeller) := tb_in (t4_in (List.mem_of_getElem? (i := 129) rfl)) rfl
set_option maxRecDepth 20000 in
theorem lkL_76 : LkM RL 76 (mdX11_follow) := tb_in (t4_in (List.mem_of_getElem? (i := 130) rfl)) rfl
set_option maxRecDepth 20000 in
theorem lkX11_178 : LkM RX11 178 (mdX9_follows) := tb_in (t4_in (List.mem_of_getElem? (i := 134) rfl)) rfl
set_option maxRecDepth 20000 in
theorem lkX9_90 : LkM RX9 90 (mdX6_hasTelling) := tb_in (t4_in (List.mem_of_getElem? (i := 138) rfl)) rfl
set_option maxRecDepth 20000 in
theorem lkX9_93 : LkM RX9 93 (mdX1_setOut) := tb_in (t4_in (List.mem_of_getElem? (i := 142) rfl)) rfl
set_option maxRecDepth 20000 in
theorem lkX9_97 : LkM RX9 97 (mdX1_goesAll) := tb_in (t4_in (List.mem_of_getElem? (i := 146) rfl)) rfl
set_option maxRecDepth 20000 in
theorem lkX1_29 : LkM RX1 29 (mdX6_tellingCell) := tb_in (t4_in (List.mem_of_getElem? (i := 150) rfl)) rfl
set_option maxRecDepth 20000 in
theorem lkX1_50 : LkM RX1 50 (mdX6_turnOf) := tb_in (t4_in (List.mem_of_getElem? (i := 154) rfl)) rfl
set_option maxRecDepth 20000 in
theorem lkX6_74 : LkM RX6 74 (mdX6_tellingCell) := tb_in (t4_in (List.mem_of_getElem? (i := 158) rfl)) rfl
set_option maxRecDepth 20000 in
theorem lkX1_53 : LkM RX1 53 (mdX1_meant) := tb_in (t4_in (List.mem_of_getElem? (i := 159) rfl)) rfl
set_option maxRecDepth 20000 in
theorem lkX1_56 : LkM RX1 56 (mdX1_takes) := tb_in (t4_in (List.mem_of_getElem? (i := 162) rfl)) rfl
set_option maxRecDepth 20000 in
theorem lkX1_67 : LkM RX1 67 (mdX1_sideOf) := tb_in (t4_in (List.mem_of_getElem? (i := 166) rfl)) rfl
set_option maxRecDepth 20000 in
theorem lkX1_60 : LkM RX1 60 (mdX1_goesOn) := tb_in (t4_in (List.mem_of_getElem? (i := 167) rfl)) rfl
set_option maxRecDepth 20000 in
theorem lkX1_64 : LkM RX1 64 (mdX6_ahead) := tb_in (t4_in (List.mem_of_getElem? (i := 171) rfl)) rfl
set_option maxRecDepth 20000 in
theorem lkX1_70 : LkM RX1 70 (mdX6_sightOf) := tb_in (t4_in (List.mem_of_getElem? (i := 172) rfl)) rfl
set_option maxRecDepth 20000 in
theorem lkX1_74 : LkM RX1 74 (mdX6_counts) := tb_in (t4_in (List.mem_of_getElem? (i := 173) rfl)) rfl
set_option maxRecDepth 20000 in
theorem lkL_80 : LkM RL 80 (mdX11_played) := tb_in (t4_in (List.mem_of_getElem? (i := 177) rfl)) rfl
set_option maxRecDepth 20000 in
theorem lkX11_181 : LkM RX11 181 (mdX6_textOf) := tb_in (t4_in (List.mem_of_getElem? (i := 181) rfl)) rfl
set_option maxRecDepth 20000 in
theorem lkX11_185 : LkM RX11 185 (mdX9_plays) := tb_in (t4_in (List.mem_of_getElem? (i := 182) rfl)) rfl
set_option maxRecDepth 20000 in
theorem lkX9_137 : LkM RX9 137 (mdX9_does) := tb_in (t4_in (List.mem_of_getElem? (i := 186) rfl)) rfl
set_option maxRecDepth 20000 in
theorem lkX9_141 : LkM RX9 141 (mdX6_addCorner) := tb_in (t4_in (List.mem_of_getElem? (i := 190) rfl)) rfl
set_option maxRecDepth 20000 in
theorem lkX9_144 : LkM RX9 144 (mdX6_addStreet) := tb_in (t4_in (List.mem_of_getElem? (i := 191) rfl)) rfl
set_option maxRecDepth 20000 in
theorem lkX9_148 : LkM RX9 148 (mdX6_setGoal) := tb_in (t4_in (List.mem_of_getElem? (i := 192) rfl)) rfl
set_option maxRecDepth 20000 in
theorem lkX9_151 : LkM RX9 151 (mdX6_addTeller) := tb_in (t4_in (List.mem_of_getElem? (i := 193) rfl)) rfl
set_option maxRecDepth 20000 in
theorem lkX9_155 : LkM RX9 155 (mdX6_addTelling) := tb_in (t4_in (List.mem_of_getElem? (i := 194) rfl)) rfl
set_option maxRecDepth 20000 in
theorem lkX9_158 : LkM RX9 158 (mdX9_begins) := tb_in (t4_in (List.mem_of_getElem? (i := 195) rfl)) rfl
set_option maxRecDepth 20000 in
theorem lkX9_162 : LkM RX9 162 (mdX9_goes) := tb_in (t4_in (List.mem_of_getElem? (i := 196) rfl)) rfl
set_option maxRecDepth 20000 in
theorem lkX9_165 : LkM RX9 165 (mdX9_turns) := tb_in (t4_in (List.mem_of_getElem? (i := 197) rfl)) rfl
set_option maxRecDepth 20000 in
theorem lkX9_168 : LkM RX9 168 (mdX9_asks) := tb_in (t4_in (List.mem_of_getElem? (i := 198) rfl)) rfl
set_option maxRecDepth 20000 in
theorem lkX9_171 : LkM RX9 171 (mdX9_follows) := tb_in (t4_in (List.mem_of_getElem? (i := 199) rfl)) rfl
set_option maxRecDepth 20000 in
theorem lkL_84 : LkM RL 84 (mdX11_day) := tb_in (t4_in (List.mem_of_getElem? (i := 200) rfl)) rfl
set_option maxRecDepth 20000 in
theorem lkX11_188 : LkM RX11 188 (mdX9_spendsDay) := tb_in (t4_in (List.mem_of_getElem? (i := 204) rfl)) rfl
set_option maxRecDepth 20000 in
theorem lkX9_117 : LkM RX9 117 (mdX9_anew) := tb_in (t4_in (List.mem_of_getElem? (i := 208) rfl)) rfl
set_option maxRecDepth 20000 in
theorem lkX9_120 : LkM RX9 120 (mdX9_drawn) := tb_in (t4_in (List.mem_of_getElem? (i := 211) rfl)) rfl
set_option maxRecDepth 20000 in
theorem lkX9_123 : LkM RX9 123 (mdX9_hearLowest) := tb_in (t4_in (List.mem_of_getElem? (i := 215) rfl)) rfl
set_option maxRecDepth 20000 in
theorem lkL_89 : LkM RL 89 (mdX11_undo) := tb_in (t4_in (List.mem_of_getElem? (i := 219) rfl)) rfl
set_option maxRecDepth 20000 in
theorem lkX11_192 : LkM RX11 192 (mdX8_takeBack) := tb_in (t4_in (List.mem_of_getElem? (i := 223) rfl)) rfl
set_option maxRecDepth 20000 in
theorem lkL_93 : LkM RL 93 (mdX11_walker) := tb_in (t4_in (List.mem_of_getElem? (i := 227) rfl)) rfl
set_option maxRecDepth 20000 in
theorem lkL_97 : LkM RL 97 (mdX11_ofCorner) := tb_in (t4_in (List.mem_of_getElem? (i := 231) rfl)) rfl
set_option maxRecDepth 20000 in
theorem lkX11_196 : LkM RX11 196 (mdX6_hasCorner) := tb_in (t4_in (List.mem_of_getElem? (i := 235) rfl)) rfl
set_option maxRecDepth 20000 in
theorem lkX11_199 : LkM RX11 199 (mdX6_sightOf) := tb_in (t4_in (List.mem_of_getElem? (i := 236) rfl)) rfl
set_option maxRecDepth 20000 in
theorem lkX11_202 : LkM RX11 202 (mdX6_ahead) := tb_in (t4_in (List.mem_of_getElem? (i := 237) rfl)) rfl
set_option maxRecDepth 20000 in
theorem lkX11_205 : LkM RX11 205 (mdX6_laneAt) := tb_in (t4_in (List.mem_of_getElem? (i := 238) rfl)) rfl
set_option maxRecDepth 20000 in
theorem lkL_101 : LkM RL 101 (mdX11_ofTeller) := tb_in (t4_in (List.mem_of_getElem? (i := 239) rfl)) rfl
set_option maxRecDepth 20000 in
theorem lkX11_208 : LkM RX11 208 (mdX6_hasTeller) := tb_in (t5_in (List.mem_of_getElem? (i := 3) rfl)) rfl
set_option maxRecDepth 20000 in
theorem lkX11_211 : LkM RX11 211 (mdX6_tellerCell) := tb_in (t5_in (List.mem_of_getElem? (i := 4) rfl)) rfl
set_option maxRecDepth 20000 in
theorem lkL_105 : LkM RL 105 (mdX11_ofTelling) := tb_in (t5_in (List.mem_of_getElem? (i := 5) rfl)) rfl
set_option maxRecDepth 20000 in
theorem lkX11_214 : LkM RX11 214 (mdX6_hasTelling) := tb_in (t5_in (List.mem_of_getElem? (i := 9) rfl)) rfl
set_option maxRecDepth 20000 in
theorem lkX11_217 : LkM RX11 217 (mdX6_tellingCell) := tb_in (t5_in (List.mem_of_getElem? (i := 10) rfl)) rfl
set_option maxRecDepth 20000 in
theorem lkX11_220 : LkM RX11 220 (mdX2_slip) := tb_in (t5_in (List.mem_of_getElem? (i := 11) rfl)) rfl
set_option maxRecDepth 20000 in
theorem lkX2_26 : LkM RX2 26 (mdX6_tellingCell) := tb_in (t5_in (List.mem_of_getElem? (i := 15) rfl)) rfl
set_option maxRecDepth 20000 in
theorem lkX11_223 : LkM RX11 223 (mdX6_turnOf) := tb_in (t5_in (List.mem_of_getElem? (i := 16) rfl)) rfl
set_option maxRecDepth 20000 in
theorem lkL_109 : LkM RL 109 (mdX11_leads) := tb_in (t5_in (List.mem_of_getElem? (i := 17) rfl)) rfl
set_option maxRecDepth 20000 in
theorem lkX11_226 : LkM RX11 226 (mdX1_comesTo) := tb_in (t5_in (List.mem_of_getElem? (i := 21) rfl)) rfl
set_option maxRecDepth 20000 in
theorem lkX1_42 : LkM RX1 42 (mdX1_setOutAsTold) := tb_in (t5_in (List.mem_of_getElem? (i := 25) rfl)) rfl
set_option maxRecDepth 20000 in
theorem lkX1_35 : LkM RX1 35 (mdX6_tellerCell) := tb_in (t5_in (List.mem_of_getElem? (i := 29) rfl)) rfl
set_option maxRecDepth 20000 in
theorem lkX1_38 : LkM RX1 38 (mdX1_setOut) := tb_in (t5_in (List.mem_of_getElem? (i := 30) rfl)) rfl
set_option maxRecDepth 20000 in
theorem lkX1_46 : LkM RX1 46 (mdX1_goesAll) := tb_in (t5_in (List.mem_of_getElem? (i := 31) rfl)) rfl
set_option maxRecDepth 20000 in
theorem lkL_113 : LkM RL 113 (mdX11_likely) := tb_in (t5_in (List.mem_of_getElem? (i := 32) rfl)) rfl
set_option maxRecDepth 20000 in
theorem lkX11_230 : LkM RX11 230 (mdX10_weigh) := tb_in (t5_in (List.mem_of_getElem? (i := 36) rfl)) rfl
set_option maxRecDepth 20000 in
theorem lkX10_43 : LkM RX10 43 (mdX10_setWeights) := tb_in (t5_in (List.mem_of_getElem? (i := 40) rfl)) rfl
set_option maxRecDepth 20000 in
theorem lkX10_37 : LkM RX10 37 (mdX2_slip) := tb_in (t5_in (List.mem_of_getElem? (i := 44) rfl)) rfl
set_option maxRecDepth 20000 in
theorem lkX10_47 : LkM RX10 47 (mdX1_setOutAsTold) := tb_in (t5_in (List.mem_of_getElem? (i := 45) rfl)) rfl
set_option maxRecDepth 20000 in
theorem lkX10_52 : LkM RX10 52 (mdX1_goesAll) := tb_in (t5_in (List.mem_of_getElem? (i := 46) rfl)) rfl
set_option maxRecDepth 20000 in
theorem lkX11_233 : LkM RX11 233 (mdX10_weightTo) := tb_in (t5_in (List.mem_of_getElem? (i := 47) rfl)) rfl
set_option maxRecDepth 20000 in
theorem lkL_117 : LkM RL 117 (mdX11_byAll) := tb_in (t5_in (List.mem_of_getElem? (i := 51) rfl)) rfl
set_option maxRecDepth 20000 in
theorem lkX11_236 : LkM RX11 236 (mdX6_isSet) := tb_in (t5_in (List.mem_of_getElem? (i := 55) rfl)) rfl
set_option maxRecDepth 20000 in
theorem lkX6_64 : LkM RX6 64 (mdJ6_bitCount_0f7a4) := tb_in (t5_in (List.mem_of_getElem? (i := 59) rfl)) rfl
set_option maxRecDepth 20000 in
theorem lkX11_241 : LkM RX11 241 (mdX10_multiply) := tb_in (t5_in (List.mem_of_getElem? (i := 66) rfl)) rfl
set_option maxRecDepth 20000 in
theorem lkX10_60 : LkM RX10 60 (mdJ7_fill_d0a16) := tb_in (t5_in (List.mem_of_getElem? (i := 70) rfl)) rfl
set_option maxRecDepth 20000 in
theorem lkX10_73 : LkM RX10 73 (mdX10_weigh) := tb_in (t5_in (List.mem_of_getElem? (i := 73) rfl)) rfl
set_option maxRecDepth 20000 in
theorem lkX10_76 : LkM RX10 76 (mdX10_weightTo) := tb_in (t5_in (List.mem_of_getElem? (i := 74) rfl)) rfl
set_option maxRecDepth 20000 in
theorem lkX11_252 : LkM RX11 252 (mdX11_inLowestTerms) := tb_in (t5_in (List.mem_of_getElem? (i := 75) rfl)) rfl
set_option maxRecDepth 20000 in
theorem lkL_122 : LkM RL 122 (mdX11_clash) := tb_in (t5_in (List.mem_of_getElem? (i := 78) rfl)) rfl
set_option maxRecDepth 20000 in
theorem lkX11_256 : LkM RX11 256 (mdX10_listCorners) := tb_in (t5_in (List.mem_of_getElem? (i := 82) rfl)) rfl
set_option maxRecDepth 20000 in
theorem lkL_126 : LkM RL 126 (mdX11_wrong) := tb_in (t5_in (List.mem_of_getElem? (i := 86) rfl)) rfl
set_option maxRecDepth 20000 in
theorem lkX11_267 : LkM RX11 267 (mdX10_thatReach) := tb_in (t5_in (List.mem_of_getElem? (i := 90) rfl)) rfl
set_option maxRecDepth 20000 in
theorem lkX11_270 : LkM RX11 270 (mdX11_isLess) := tb_in (t5_in (List.mem_of_getElem? (i := 94) rfl)) rfl
set_option maxRecDepth 20000 in
theorem lkX11_273 : LkM RX11 273 (mdJ6_bitCount_0f7a4) := tb_in (t5_in (List.mem_of_getElem? (i := 97) rfl)) rfl
set_option maxRecDepth 20000 in
theorem lkL_131 : LkM RL 131 (mdX11_far) := tb_in (t5_in (List.mem_of_getElem? (i := 98) rfl)) rfl
set_option maxRecDepth 20000 in
theorem lkX11_278 : LkM RX11 278 (mdX7_setPaces) := tb_in (t5_in (List.mem_of_getElem? (i := 102) rfl)) rfl
set_option maxRecDepth 20000 in
theorem lkX7_49 : LkM RX7 49 (mdX6_ahead) := tb_in (t5_in (List.mem_of_getElem? (i := 106) rfl)) rfl
set_option maxRecDepth 20000 in
theorem lkX7_53 : LkM RX7 53 (mdX2_pace) := tb_in (t5_in (List.mem_of_getElem? (i := 107) rfl)) rfl
set_option maxRecDepth 20000 in
theorem lkX11_281 : LkM RX11 281 (mdX7_measure) := tb_in (t5_in (List.mem_of_getElem? (i := 108) rfl)) rfl
set_option maxRecDepth 20000 in
theorem lkX7_58 : LkM RX7 58 (mdX6_hasCorner) := tb_in (t5_in (List.mem_of_getElem? (i := 112) rfl)) rfl
set_option maxRecDepth 20000 in
theorem lkX7_62 : LkM RX7 62 (mdX7_nearest) := tb_in (t5_in (List.mem_of_getElem? (i := 113) rfl)) rfl
set_option maxRecDepth 20000 in
theorem lkX7_69 : LkM RX7 69 (mdX7_secondsTo) := tb_in (t5_in (List.mem_of_getElem? (i := 117) rfl)) rfl
set_option maxRecDepth 20000 in
theorem lkX7_65 : LkM RX7 65 (mdX7_lookAround) := tb_in (t5_in (List.mem_of_getElem? (i := 121) rfl)) rfl
set_option maxRecDepth 20000 in
theorem lkX11_284 : LkM RX11 284 (mdX7_secondsTo) := tb_in (t5_in (List.mem_of_getElem? (i := 125) rfl)) rfl
set_option maxRecDepth 20000 in
theorem lkL_135 : LkM RL 135 (mdX11_see) := tb_in (t5_in (List.mem_of_getElem? (i := 126) rfl)) rfl
set_option maxRecDepth 20000 in
theorem lkX11_287 : LkM RX11 287 (mdX7_plan) := tb_in (t5_in (List.mem_of_getElem? (i := 130) rfl)) rfl
set_option maxRecDepth 20000 in
theorem lkX7_77 : LkM RX7 77 (mdX10_multiply) := tb_in (t5_in (List.mem_of_getElem? (i := 134) rfl)) rfl
set_option maxRecDepth 20000 in
theorem lkX7_83 : LkM RX7 83 (mdX7_listPlaces) := tb_in (t5_in (List.mem_of_getElem? (i := 135) rfl)) rfl
set_option maxRecDepth 20000 in
theorem lkX7_87 : LkM RX7 87 (mdX7_setPaces) := tb_in (t5_in (List.mem_of_getElem? (i := 139) rfl)) rfl
set_option maxRecDepth 20000 in
theorem lkX7_90 : LkM RX7 90 (mdX7_measure) := tb_in (t5_in (List.mem_of_getElem? (i := 140) rfl)) rfl
set_option maxRecDepth 20000 in
theorem lkX7_102 (v : Nat) : LkM RX7 102 (mdX7_tryOrders v) := tb_in (t5_in (List.mem_of_getElem? (i := 142) rfl)) rfl
set_option maxRecDepth 20000 in
theorem lkL_140 : LkM RL 140 (mdX11_orAsk) := tb_in (t5_in (List.mem_of_getElem? (i := 147) rfl)) rfl
set_option maxRecDepth 20000 in
theorem lkX11_299 : LkM RX11 299 (mdX7_soonestTeller) := tb_in (t5_in (List.mem_of_getElem? (i := 151) rfl)) rfl
set_option maxRecDepth 20000 in
theorem lkX7_119 : LkM RX7 119 (mdX6_tellerCell) := tb_in (t5_in (List.mem_of_getElem? (i := 155) rfl)) rfl
set_option maxRecDepth 20000 in
theorem lkX7_122 : LkM RX7 122 (mdX2_asking) := tb_in (t5_in (List.mem_of_getElem? (i := 156) rfl)) rfl
set_option maxRecDepth 20000 in
theorem lkX7_129 : LkM RX7 129 (mdX7_sumFrom) := tb_in (t5_in (List.mem_of_getElem? (i := 157) rfl)) rfl
set_option maxRecDepth 20000 in
theorem lkL_144 : LkM RL 144 (mdX11_safeSoFar) := tb_in (t5_in (List.mem_of_getElem? (i := 161) rfl)) rfl
set_option maxRecDepth 20000 in
theorem lkX11_302 : LkM RX11 302 (mdX10_safeWeight) := tb_in (t5_in (List.mem_of_getElem? (i := 165) rfl)) rfl
set_option maxRecDepth 20000 in
theorem lkX10_83 : LkM RX10 83 (mdX1_goesFirst) := tb_in (t5_in (List.mem_of_getElem? (i := 169) rfl)) rfl
set_option maxRecDepth 20000 in
theorem lkL_149 : LkM RL 149 (mdX11_howFar) := tb_in (t5_in (List.mem_of_getElem? (i := 174) rfl)) rfl
set_option maxRecDepth 20000 in
theorem lkL_153 : LkM RL 153 (mdX11_lost) := tb_in (t5_in (List.mem_of_getElem? (i := 178) rfl)) rfl
set_option maxRecDepth 20000 in
theorem lkL_157 : LkM RL 157 (mdX11_listen) := tb_in (t5_in (List.mem_of_getElem? (i := 182) rfl)) rfl
set_option maxRecDepth 20000 in
theorem lkX11_307 : LkM RX11 307 (mdX11_isSlip) := tb_in (t5_in (List.mem_of_getElem? (i := 186) rfl)) rfl
set_option maxRecDepth 20000 in
theorem lkX11_310 : LkM RX11 310 (mdX11_power) := tb_in (t5_in (List.mem_of_getElem? (i := 187) rfl)) rfl
set_option maxRecDepth 20000 in
theorem lkX11_314 : LkM RX11 314 (mdJ9_max_f86c9) := tb_in (t5_in (List.mem_of_getElem? (i := 190) rfl)) rfl
set_option maxRecDepth 20000 in
theorem lkL_162 : LkM RL 162 (mdX11_tell) := tb_in (t5_in (List.mem_of_getElem? (i := 192) rfl)) rfl
set_option maxRecDepth 20000 in
theorem lkX11_322 : LkM RX11 322 (mdX11_isDirection) := tb_in (t5_in (List.mem_of_getElem? (i := 196) rfl)) rfl
set_option maxRecDepth 20000 in
theorem lkX11_328 : LkM RX11 328 (mdX0_find) := tb_in (t5_in (List.mem_of_getElem? (i := 197) rfl)) rfl
set_option maxRecDepth 20000 in
theorem lkX0_29 : LkM RX0 29 (mdJ7_fill_53178) := tb_in (t5_in (List.mem_of_getElem? (i := 201) rfl)) rfl
set_option maxRecDepth 20000 in
theorem lkX0_35 (v : Nat) : LkM RX0 35 (mdX0_tries v) := tb_in (t5_in (List.mem_of_getElem? (i := 202) rfl)) rfl
set_option maxRecDepth 20000 in
theorem lkX0_39 : LkM RX0 39 (mdX0_turnOfKind) := tb_in (t5_in (List.mem_of_getElem? (i := 206) rfl)) rfl
set_option maxRecDepth 20000 in
theorem lkX0_43 : LkM RX0 43 (mdX0_allGo) := tb_in (t5_in (List.mem_of_getElem? (i := 209) rfl)) rfl
set_option maxRecDepth 20000 in
theorem lkX0_47 : LkM RX0 47 (mdX1_meant) := tb_in (t5_in (List.mem_of_getElem? (i := 213) rfl)) rfl
set_option maxRecDepth 20000 in
theorem lkX0_53 : LkM RX0 53 (mdX0_after) := tb_in (t5_in (List.mem_of_getElem? (i := 214) rfl)) rfl
set_option maxRecDepth 20000 in
theorem lkX0_61 : LkM RX0 61 (mdX0_kindOfTurn) := tb_in (t5_in (List.mem_of_getElem? (i := 218) rfl)) rfl
set_option maxRecDepth 20000 in
theorem lkX0_64 : LkM RX0 64 (mdX1_setOut) := tb_in (t5_in (List.mem_of_getElem? (i := 221) rfl)) rfl
set_option maxRecDepth 20000 in
theorem lkX0_68 : LkM RX0 68 (mdX1_takes) := tb_in (t5_in (List.mem_of_getElem? (i := 222) rfl)) rfl
set_option maxRecDepth 20000 in
theorem lkX0_57 : LkM RX0 57 (mdX0_endsAtGoal) := tb_in (t5_in (List.mem_of_getElem? (i := 223) rfl)) rfl
set_option maxRecDepth 20000 in
theorem lkX0_87 : LkM RX0 87 (mdX6_ahead) := tb_in (t5_in (List.mem_of_getElem? (i := 227) rfl)) rfl
set_option maxRecDepth 20000 in
theorem lkL_166 : LkM RL 166 (mdX11_where) := tb_in (t5_in (List.mem_of_getElem? (i := 228) rfl)) rfl
set_option maxRecDepth 20000 in
theorem lkX11_340 : LkM RX11 340 (mdX6_hasOther) := tb_in (t5_in (List.mem_of_getElem? (i := 232) rfl)) rfl
set_option maxRecDepth 20000 in
theorem lkX6_70 : LkM RX6 70 (mdX6_ahead) := tb_in (t5_in (List.mem_of_getElem? (i := 236) rfl)) rfl
set_option maxRecDepth 20000 in
theorem lkL_170 : LkM RL 170 (mdX11_map) := tb_in (t5_in (List.mem_of_getElem? (i := 237) rfl)) rfl
set_option maxRecDepth 20000 in
theorem lkL_175 : LkM RL 175 (mdX11_signs) := tb_in (t6_in (List.mem_of_getElem? (i := 1) rfl)) rfl
set_option maxRecDepth 20000 in
theorem lkX11_344 : LkM RX11 344 (mdX3_fewest) := tb_in (t6_in (List.mem_of_getElem? (i := 5) rfl)) rfl
set_option maxRecDepth 20000 in
theorem lkX3_31 : LkM RX3 31 (mdX6_hasCorner) := tb_in (t6_in (List.mem_of_getElem? (i := 9) rfl)) rfl
set_option maxRecDepth 20000 in
theorem lkX3_35 : LkM RX3 35 (mdX3_countStreets) := tb_in (t6_in (List.mem_of_getElem? (i := 10) rfl)) rfl
set_option maxRecDepth 20000 in
theorem lkX3_69 : LkM RX3 69 (mdJ7_fill_53178) := tb_in (t6_in (List.mem_of_getElem? (i := 14) rfl)) rfl
set_option maxRecDepth 20000 in
theorem lkX3_75 : LkM RX3 75 (mdX3_towards) := tb_in (t6_in (List.mem_of_getElem? (i := 15) rfl)) rfl
set_option maxRecDepth 20000 in
theorem lkX3_78 : LkM RX3 78 (mdX6_ahead) := tb_in (t6_in (List.mem_of_getElem? (i := 19) rfl)) rfl
set_option maxRecDepth 20000 in
theorem lkX3_38 : LkM RX3 38 (mdX3_setOnward) := tb_in (t6_in (List.mem_of_getElem? (i := 20) rfl)) rfl
set_option maxRecDepth 20000 in
theorem lkX3_81 : LkM RX3 81 (mdX1_sideOf) := tb_in (t6_in (List.mem_of_getElem? (i := 24) rfl)) rfl
set_option maxRecDepth 20000 in
theorem lkX3_44 : LkM RX3 44 (mdJ6_bitCount_0f7a4) := tb_in (t6_in (List.mem_of_getElem? (i := 25) rfl)) rfl
set_option maxRecDepth 20000 in
theorem lkX3_50 : LkM RX3 50 (mdJ9_min_7cf53) := tb_in (t6_in (List.mem_of_getElem? (i := 26) rfl)) rfl
set_option maxRecDepth 20000 in
theorem lkX3_56 : LkM RX3 56 (mdX3_firstThatServes) := tb_in (t6_in (List.mem_of_getElem? (i := 27) rfl)) rfl
set_option maxRecDepth 20000 in
theorem lkX3_63 : LkM RX3 63 (mdX3_allCome) := tb_in (t6_in (List.mem_of_getElem? (i := 32) rfl)) rfl
set_option maxRecDepth 20000 in
theorem lkX3_90 : LkM RX3 90 (mdX3_comes) := tb_in (t6_in (List.mem_of_getElem? (i := 36) rfl)) rfl
set_option maxRecDepth 20000 in
theorem lkX3_66 : LkM RX3 66 (mdX3_nextOfSize) := tb_in (t6_in (List.mem_of_getElem? (i := 40) rfl)) rfl
set_option maxRecDepth 20000 in
theorem lkL_179 : LkM RL 179 (mdX11_whose) := tb_in (t6_in (List.mem_of_getElem? (i := 43) rfl)) rfl
set_option maxRecDepth 20000 in
theorem lkL_184 : LkM RL 184 (mdX11_heard) := tb_in (t6_in (List.mem_of_getElem? (i := 47) rfl)) rfl
set_option maxRecDepth 20000 in
theorem lkL_188 : LkM RL 188 (mdX11_image) := tb_in (t6_in (List.mem_of_getElem? (i := 51) rfl)) rfl
set_option maxRecDepth 20000 in
theorem lkX11_347 : LkM RX11 347 (mdX6_copyFrom) := tb_in (t6_in (List.mem_of_getElem? (i := 55) rfl)) rfl
set_option maxRecDepth 20000 in
theorem lkX11_350 : LkM RX11 350 (mdX8_copyFrom) := tb_in (t6_in (List.mem_of_getElem? (i := 60) rfl)) rfl
set_option maxRecDepth 20000 in
theorem lkL_192 : LkM RL 192 (mdX11_back) := tb_in (t6_in (List.mem_of_getElem? (i := 64) rfl)) rfl
set_option maxRecDepth 20000 in
theorem lkL_196 : LkM RL 196 (mdX11_about) := tb_in (t6_in (List.mem_of_getElem? (i := 68) rfl)) rfl
set_option maxRecDepth 20000 in
theorem lkL_12 : LkM RL 12 (mdX12_init) := tb_in (t6_in (List.mem_of_getElem? (i := 74) rfl)) rfl
set_option maxRecDepth 20000 in
theorem lkX12_79 : LkM RX12 79 (mdX12_copy) := tb_in (t6_in (List.mem_of_getElem? (i := 78) rfl)) rfl
set_option maxRecDepth 20000 in
theorem lkL_17 : LkM RL 17 (mdX12_corner) := tb_in (t6_in (List.mem_of_getElem? (i := 224) rfl)) rfl
set_option maxRecDepth 20000 in
theorem lkX12_83 : LkM RX12 83 (mdX12_isIn) := tb_in (t6_in (List.mem_of_getElem? (i := 228) rfl)) rfl
set_option maxRecDepth 20000 in
theorem lkL_22 : LkM RL 22 (mdX12_street) := tb_in (t6_in (List.mem_of_getElem? (i := 231) rfl)) rfl
set_option maxRecDepth 20000 in
theorem lkX12_87 : LkM RX12 87 (mdX12_isCorner) := tb_in (t6_in (List.mem_of_getElem? (i := 235) rfl)) rfl
set_option maxRecDepth 20000 in
theorem lkX12_91 : LkM RX12 91 (mdX12_streetOf) := tb_in (t6_in (List.mem_of_getElem? (i := 239) rfl)) rfl
set_option maxRecDepth 20000 in
theorem lkL_27 : LkM RL 27 (mdX12_goal) := tb_in (t7_in (List.mem_of_getElem? (i := 3) rfl)) rfl
set_option maxRecDepth 20000 in
theorem lkL_32 : LkM RL 32 (mdX12_teller) := tb_in (t7_in (List.mem_of_getElem? (i := 7) rfl)) rfl
set_option maxRecDepth 20000 in
theorem lkL_36 : LkM RL 36 (mdX12_telling) := tb_in (t7_in (List.mem_of_getElem? (i := 11) rfl)) rfl
set_option maxRecDepth 20000 in
theorem lkX12_103 : LkM RX12 103 (mdX12_isTeller) := tb_in (t7_in (List.mem_of_getElem? (i := 15) rfl)) rfl
set_option maxRecDepth 20000 in
theorem lkX12_106 : LkM RX12 106 (mdX12_take) := tb_in (t7_in (List.mem_of_getElem? (i := 19) rfl)) rfl
set_option maxRecDepth 20000 in
theorem lkX12_100 : LkM RX12 100 (mdX12_isTurn) := tb_in (t7_in (List.mem_of_getElem? (i := 25) rfl)) rfl
set_option maxRecDepth 20000 in
theorem lkX12_109 : LkM RX12 109 (mdX12_tellNow) := tb_in (t7_in (List.mem_of_getElem? (i := 28) rfl)) rfl
set_option maxRecDepth 20000 in
theorem lkL_41 : LkM RL 41 (mdX12_feed) := tb_in (t7_in (List.mem_of_getElem? (i := 32) rfl)) rfl
set_option maxRecDepth 20000 in
theorem lkX12_115 : LkM RX12 115 (mdX12_four) := tb_in (t7_in (List.mem_of_getElem? (i := 36) rfl)) rfl
set_option maxRecDepth 20000 in
theorem lkL_45 : LkM RL 45 (mdX12_end) := tb_in (t7_in (List.mem_of_getElem? (i := 40) rfl)) rfl
set_option maxRecDepth 20000 in
theorem lkL_50 : LkM RL 50 (mdX12_text) := tb_in (t7_in (List.mem_of_getElem? (i := 44) rfl)) rfl
set_option maxRecDepth 20000 in
theorem lkX12_278 : LkM RX12 278 (mdX12_readText) := tb_in (t7_in (List.mem_of_getElem? (i := 48) rfl)) rfl
set_option maxRecDepth 20000 in
theorem lkX12_193 : LkM RX12 193 (mdX12_nextToken) := tb_in (t7_in (List.mem_of_getElem? (i := 52) rfl)) rfl
set_option maxRecDepth 20000 in
theorem lkX12_122 : LkM RX12 122 (mdX12_byteAt) := tb_in (t7_in (List.mem_of_getElem? (i := 56) rfl)) rfl
set_option maxRecDepth 20000 in
theorem lkX12_132 : LkM RX12 132 (mdX12_isFigure) := tb_in (t7_in (List.mem_of_getElem? (i := 60) rfl)) rfl
set_option maxRecDepth 20000 in
theorem lkX12_139 : LkM RX12 139 (mdX12_isLetterByte) := tb_in (t7_in (List.mem_of_getElem? (i := 64) rfl)) rfl
set_option maxRecDepth 20000 in
theorem lkX12_148 : LkM RX12 148 (mdX12_isSign) := tb_in (t7_in (List.mem_of_getElem? (i := 68) rfl)) rfl
set_option maxRecDepth 20000 in
theorem lkX12_275 : LkM RX12 275 (mdX12_clause) := tb_in (t7_in (List.mem_of_getElem? (i := 71) rfl)) rfl
set_option maxRecDepth 20000 in
theorem lkX12_262 : LkM RX12 262 (mdX12_sortOf) := tb_in (t7_in (List.mem_of_getElem? (i := 75) rfl)) rfl
set_option maxRecDepth 20000 in
theorem lkX12_163 : LkM RX12 163 (mdX12_w5) := tb_in (t7_in (List.mem_of_getElem? (i := 79) rfl)) rfl
set_option maxRecDepth 20000 in
theorem lkX12_159 : LkM RX12 159 (mdX12_w4) := tb_in (t7_in (List.mem_of_getElem? (i := 82) rfl)) rfl
set_option maxRecDepth 20000 in
theorem lkX12_155 : LkM RX12 155 (mdX12_w3) := tb_in (t7_in (List.mem_of_getElem? (i := 85) rfl)) rfl
set_option maxRecDepth 20000 in
theorem lkX12_151 : LkM RX12 151 (mdX12_w2) := tb_in (t7_in (List.mem_of_getElem? (i := 88) rfl)) rfl
set_option maxRecDepth 20000 in
theorem lkX12_196 : LkM RX12 196 (mdX12_isWord) := tb_in (t7_in (List.mem_of_getElem? (i := 91) rfl)) rfl
set_option maxRecDepth 20000 in
theorem lkX12_173 : LkM RX12 173 (mdX12_w6) := tb_in (t7_in (List.mem_of_getElem? (i := 95) rfl)) rfl
set_option maxRecDepth 20000 in
theorem lkX12_268 : LkM RX12 268 (mdX12_has) := tb_in (t7_in (List.mem_of_getElem? (i := 98) rfl)) rfl
set_option maxRecDepth 20000 in
theorem lkX12_272 : LkM RX12 272 (mdX12_body) := tb_in (t7_in (List.mem_of_getElem? (i := 101) rfl)) rfl
set_option maxRecDepth 20000 in
theorem lkX12_229 : LkM RX12 229 (mdX12_figure) := tb_in (t7_in (List.mem_of_getElem? (i := 105) rfl)) rfl
set_option maxRecDepth 20000 in
theorem lkX12_247 : LkM RX12 247 (mdX12_streetClause) := tb_in (t7_in (List.mem_of_getElem? (i := 109) rfl)) rfl
set_option maxRecDepth 20000 in
theorem lkX12_233 : LkM RX12 233 (mdX12_worded) := tb_in (t7_in (List.mem_of_getElem? (i := 113) rfl)) rfl
set_option maxRecDepth 20000 in
theorem lkX12_250 : LkM RX12 250 (mdX12_tellingClause) := tb_in (t7_in (List.mem_of_getElem? (i := 117) rfl)) rfl
set_option maxRecDepth 20000 in
theorem lkX12_241 : LkM RX12 241 (mdX12_oneTurn) := tb_in (t7_in (List.mem_of_getElem? (i := 121) rfl)) rfl
set_option maxRecDepth 20000 in
theorem lkX12_237 : LkM RX12 237 (mdX12_sideOf) := tb_in (t7_in (List.mem_of_getElem? (i := 125) rfl)) rfl
set_option maxRecDepth 20000 in
theorem lkX12_253 : LkM RX12 253 (mdX12_startClause) := tb_in (t7_in (List.mem_of_getElem? (i := 129) rfl)) rfl
set_option maxRecDepth 20000 in
theorem lkX12_256 : LkM RX12 256 (mdX12_turnClause) := tb_in (t7_in (List.mem_of_getElem? (i := 133) rfl)) rfl
set_option maxRecDepth 20000 in
theorem lkX12_259 : LkM RX12 259 (mdX12_lawClause) := tb_in (t7_in (List.mem_of_getElem? (i := 137) rfl)) rfl
set_option maxRecDepth 20000 in
theorem lkX12_244 : LkM RX12 244 (mdX12_summed) := tb_in (t7_in (List.mem_of_getElem? (i := 141) rfl)) rfl
set_option maxRecDepth 20000 in
theorem lkX12_223 : LkM RX12 223 (mdX12_behindOne) := tb_in (t7_in (List.mem_of_getElem? (i := 145) rfl)) rfl
set_option maxRecDepth 20000 in
theorem lkX12_183 : LkM RX12 183 (mdX12_rank) := tb_in (t7_in (List.mem_of_getElem? (i := 149) rfl)) rfl
set_option maxRecDepth 20000 in
theorem lkX12_211 : LkM RX12 211 (mdX12_settlePile) := tb_in (t7_in (List.mem_of_getElem? (i := 152) rfl)) rfl
set_option maxRecDepth 20000 in
theorem lkX12_186 : LkM RX12 186 (mdX12_emit) := tb_in (t7_in (List.mem_of_getElem? (i := 156) rfl)) rfl
set_option maxRecDepth 20000 in
theorem lkX12_217 : LkM RX12 217 (mdX12_openAt) := tb_in (t7_in (List.mem_of_getElem? (i := 160) rfl)) rfl
set_option maxRecDepth 20000 in
theorem lkX12_220 : LkM RX12 220 (mdX12_shut) := tb_in (t7_in (List.mem_of_getElem? (i := 164) rfl)) rfl
set_option maxRecDepth 20000 in
theorem lkX12_226 : LkM RX12 226 (mdX12_beginOne) := tb_in (t7_in (List.mem_of_getElem? (i := 168) rfl)) rfl
set_option maxRecDepth 20000 in
theorem lkX12_200 : LkM RX12 200 (mdX12_nameOf) := tb_in (t7_in (List.mem_of_getElem? (i := 172) rfl)) rfl
set_option maxRecDepth 20000 in
theorem lkX12_204 : LkM RX12 204 (mdX12_isOf) := tb_in (t7_in (List.mem_of_getElem? (i := 176) rfl)) rfl
set_option maxRecDepth 20000 in
theorem lkX12_214 : LkM RX12 214 (mdX12_opened) := tb_in (t7_in (List.mem_of_getElem? (i := 180) rfl)) rfl
set_option maxRecDepth 20000 in
theorem lkL_54 : LkM RL 54 (mdX12_fault) := tb_in (t7_in (List.mem_of_getElem? (i := 184) rfl)) rfl
set_option maxRecDepth 20000 in
theorem lkL_58 : LkM RL 58 (mdX12_by) := tb_in (t7_in (List.mem_of_getElem? (i := 188) rfl)) rfl
set_option maxRecDepth 20000 in
theorem lkL_92 : LkM RL 92 (mdX12_undo) := tb_in (t7_in (List.mem_of_getElem? (i := 192) rfl)) rfl
set_option maxRecDepth 20000 in
theorem lkL_63 : LkM RL 63 (mdX12_start) := tb_in (t7_in (List.mem_of_getElem? (i := 196) rfl)) rfl
set_option maxRecDepth 20000 in
theorem lkX12_373 : LkM RX12 373 (mdX12_keep) := tb_in (t7_in (List.mem_of_getElem? (i := 200) rfl)) rfl
set_option maxRecDepth 20000 in
theorem lkX12_376 : LkM RX12 376 (mdX12_startNow) := tb_in (t7_in (List.mem_of_getElem? (i := 204) rfl)) rfl
set_option maxRecDepth 20000 in
theorem lkL_67 : LkM RL 67 (mdX12_walk) := tb_in (t7_in (List.mem_of_getElem? (i := 208) rfl)) rfl
set_option maxRecDepth 20000 in
theorem lkX12_379 : LkM RX12 379 (mdX12_isWalker) := tb_in (t7_in (List.mem_of_getElem? (i := 212) rfl)) rfl
set_option maxRecDepth 20000 in
theorem lkX12_385 : LkM RX12 385 (mdX12_walkable) := tb_in (t7_in (List.mem_of_getElem? (i := 216) rfl)) rfl
set_option maxRecDepth 20000 in
theorem lkX12_388 : LkM RX12 388 (mdX12_walkSo) := tb_in (t7_in (List.mem_of_getElem? (i := 220) rfl)) rfl
set_option maxRecDepth 20000 in
theorem lkX12_382 : LkM RX12 382 (mdX12_walkNow) := tb_in (t7_in (List.mem_of_getElem? (i := 224) rfl)) rfl
set_option maxRecDepth 20000 in
theorem lkX12_345 : LkM RX12 345 (mdX12_paceOf) := tb_in (t7_in (List.mem_of_getElem? (i := 228) rfl)) rfl
set_option maxRecDepth 20000 in
theorem lkX12_315 : LkM RX12 315 (mdX12_isLane) := tb_in (t7_in (List.mem_of_getElem? (i := 232) rfl)) rfl
set_option maxRecDepth 20000 in
theorem lkX12_318 : LkM RX12 318 (mdX12_sightOf) := tb_in (t7_in (List.mem_of_getElem? (i := 236) rfl)) rfl
set_option maxRecDepth 20000 in
theorem lkX12_311 : LkM RX12 311 (mdX12_says) := tb_in (t8_in (List.mem_of_getElem? (i := 0) rfl)) rfl
set_option maxRecDepth 20000 in
theorem lkX12_293 : LkM RX12 293 (mdX12_worked) := tb_in (t8_in (List.mem_of_getElem? (i := 4) rfl)) rfl
set_option maxRecDepth 20000 in
theorem lkX12_289 : LkM RX12 289 (mdX12_two) := tb_in (t8_in (List.mem_of_getElem? (i := 8) rfl)) rfl
set_option maxRecDepth 20000 in
theorem lkX12_285 : LkM RX12 285 (mdX12_held) := tb_in (t8_in (List.mem_of_getElem? (i := 11) rfl)) rfl
set_option maxRecDepth 20000 in
theorem lkL_71 : LkM RL 71 (mdX12_turn) := tb_in (t8_in (List.mem_of_getElem? (i := 16) rfl)) rfl
set_option maxRecDepth 20000 in
theorem lkX12_391 : LkM RX12 391 (mdX12_turned) := tb_in (t8_in (List.mem_of_getElem? (i := 20) rfl)) rfl
set_option maxRecDepth 20000 in
theorem lkL_75 : LkM RL 75 (mdX12_ask) := tb_in (t8_in (List.mem_of_getElem? (i := 23) rfl)) rfl
set_option maxRecDepth 20000 in
theorem lkX12_296 : LkM RX12 296 (mdX12_cornerOf) := tb_in (t8_in (List.mem_of_getElem? (i := 27) rfl)) rfl
set_option maxRecDepth 20000 in
theorem lkX12_397 : LkM RX12 397 (mdX12_askNow) := tb_in (t8_in (List.mem_of_getElem? (i := 31) rfl)) rfl
set_option maxRecDepth 20000 in
theorem lkX12_394 : LkM RX12 394 (mdX12_asksOf) := tb_in (t8_in (List.mem_of_getElem? (i := 35) rfl)) rfl
set_option maxRecDepth 20000 in
theorem lkX12_302 : LkM RX12 302 (mdX12_nameTeller) := tb_in (t8_in (List.mem_of_getElem? (i := 39) rfl)) rfl
set_option maxRecDepth 20000 in
theorem lkL_79 : LkM RL 79 (mdX12_follow) := tb_in (t8_in (List.mem_of_getElem? (i := 43) rfl)) rfl
set_option maxRecDepth 20000 in
theorem lkX12_400 : LkM RX12 400 (mdX12_isTelling) := tb_in (t8_in (List.mem_of_getElem? (i := 47) rfl)) rfl
set_option maxRecDepth 20000 in
theorem lkX12_364 : LkM RX12 364 (mdX12_takeTurns) := tb_in (t8_in (List.mem_of_getElem? (i := 51) rfl)) rfl
set_option maxRecDepth 20000 in
theorem lkX12_305 : LkM RX12 305 (mdX12_turnsOf) := tb_in (t8_in (List.mem_of_getElem? (i := 55) rfl)) rfl
set_option maxRecDepth 20000 in
theorem lkX12_358 : LkM RX12 358 (mdX12_turnAt) := tb_in (t8_in (List.mem_of_getElem? (i := 59) rfl)) rfl
set_option maxRecDepth 20000 in
theorem lkX12_367 : LkM RX12 367 (mdX12_begin) := tb_in (t8_in (List.mem_of_getElem? (i := 63) rfl)) rfl
set_option maxRecDepth 20000 in
theorem lkX12_370 : LkM RX12 370 (mdX12_goAll) := tb_in (t8_in (List.mem_of_getElem? (i := 67) rfl)) rfl
set_option maxRecDepth 20000 in
theorem lkX12_361 : LkM RX12 361 (mdX12_goTurn) := tb_in (t8_in (List.mem_of_getElem? (i := 71) rfl)) rfl
set_option maxRecDepth 20000 in
theorem lkX12_348 : LkM RX12 348 (mdX12_goOn) := tb_in (t8_in (List.mem_of_getElem? (i := 75) rfl)) rfl
set_option maxRecDepth 20000 in
theorem lkX12_342 : LkM RX12 342 (mdX12_isDoubt) := tb_in (t8_in (List.mem_of_getElem? (i := 79) rfl)) rfl
set_option maxRecDepth 20000 in
theorem lkX12_352 : LkM RX12 352 (mdX12_isCounted) := tb_in (t8_in (List.mem_of_getElem? (i := 83) rfl)) rfl
set_option maxRecDepth 20000 in
theorem lkL_83 : LkM RL 83 (mdX12_played) := tb_in (t8_in (List.mem_of_getElem? (i := 87) rfl)) rfl
set_option maxRecDepth 20000 in
theorem lkX12_434 : LkM RX12 434 (mdX12_isPlayed) := tb_in (t8_in (List.mem_of_getElem? (i := 91) rfl)) rfl
set_option maxRecDepth 20000 in
theorem lkX12_403 : LkM RX12 403 (mdX12_corner) := tb_in (t8_in (List.mem_of_getElem? (i := 95) rfl)) rfl
set_option maxRecDepth 20000 in
theorem lkX12_406 : LkM RX12 406 (mdX12_street) := tb_in (t8_in (List.mem_of_getElem? (i := 96) rfl)) rfl
set_option maxRecDepth 20000 in
theorem lkX12_410 : LkM RX12 410 (mdX12_goal) := tb_in (t8_in (List.mem_of_getElem? (i := 97) rfl)) rfl
set_option maxRecDepth 20000 in
theorem lkX12_413 : LkM RX12 413 (mdX12_teller) := tb_in (t8_in (List.mem_of_getElem? (i := 98) rfl)) rfl
set_option maxRecDepth 20000 in
theorem lkX12_416 : LkM RX12 416 (mdX12_isTaught) := tb_in (t8_in (List.mem_of_getElem? (i := 99) rfl)) rfl
set_option maxRecDepth 20000 in
theorem lkX12_419 : LkM RX12 419 (mdX12_start) := tb_in (t8_in (List.mem_of_getElem? (i := 103) rfl)) rfl
set_option maxRecDepth 20000 in
theorem lkX12_422 : LkM RX12 422 (mdX12_isWalked) := tb_in (t8_in (List.mem_of_getElem? (i := 104) rfl)) rfl
set_option maxRecDepth 20000 in
theorem lkX12_425 : LkM RX12 425 (mdX12_turn) := tb_in (t8_in (List.mem_of_getElem? (i := 108) rfl)) rfl
set_option maxRecDepth 20000 in
theorem lkX12_428 : LkM RX12 428 (mdX12_ask) := tb_in (t8_in (List.mem_of_getElem? (i := 109) rfl)) rfl
set_option maxRecDepth 20000 in
theorem lkX12_431 : LkM RX12 431 (mdX12_follow) := tb_in (t8_in (List.mem_of_getElem? (i := 110) rfl)) rfl
set_option maxRecDepth 20000 in
theorem lkL_88 : LkM RL 88 (mdX12_day) := tb_in (t8_in (List.mem_of_getElem? (i := 111) rfl)) rfl
set_option maxRecDepth 20000 in
theorem lkX12_440 : LkM RX12 440 (mdX12_anew) := tb_in (t8_in (List.mem_of_getElem? (i := 115) rfl)) rfl
set_option maxRecDepth 20000 in
theorem lkX12_443 : LkM RX12 443 (mdX12_oneOfDay) := tb_in (t8_in (List.mem_of_getElem? (i := 119) rfl)) rfl
set_option maxRecDepth 20000 in
theorem lkX12_437 : LkM RX12 437 (mdX12_isAhead) := tb_in (t8_in (List.mem_of_getElem? (i := 123) rfl)) rfl
set_option maxRecDepth 20000 in
theorem lkL_96 : LkM RL 96 (mdX12_walker) := tb_in (t8_in (List.mem_of_getElem? (i := 127) rfl)) rfl
set_option maxRecDepth 20000 in
theorem lkL_100 : LkM RL 100 (mdX12_ofCorner) := tb_in (t8_in (List.mem_of_getElem? (i := 131) rfl)) rfl
set_option maxRecDepth 20000 in
theorem lkL_104 : LkM RL 104 (mdX12_ofTeller) := tb_in (t8_in (List.mem_of_getElem? (i := 135) rfl)) rfl
set_option maxRecDepth 20000 in
theorem lkL_108 : LkM RL 108 (mdX12_ofTelling) := tb_in (t8_in (List.mem_of_getElem? (i := 139) rfl)) rfl
set_option maxRecDepth 20000 in
theorem lkX12_446 : LkM RX12 446 (mdX12_slipOf) := tb_in (t8_in (List.mem_of_getElem? (i := 143) rfl)) rfl
set_option maxRecDepth 20000 in
theorem lkX12_299 : LkM RX12 299 (mdX12_tellerOf) := tb_in (t8_in (List.mem_of_getElem? (i := 147) rfl)) rfl
set_option maxRecDepth 20000 in
theorem lkX12_308 : LkM RX12 308 (mdX12_facingOf) := tb_in (t8_in (List.mem_of_getElem? (i := 151) rfl)) rfl
set_option maxRecDepth 20000 in
theorem lkL_112 : LkM RL 112 (mdX12_leads) := tb_in (t8_in (List.mem_of_getElem? (i := 155) rfl)) rfl
set_option maxRecDepth 20000 in
theorem lkX12_449 : LkM RX12 449 (mdX12_leadsOf) := tb_in (t8_in (List.mem_of_getElem? (i := 159) rfl)) rfl
set_option maxRecDepth 20000 in
theorem lkL_116 : LkM RL 116 (mdX12_likely) := tb_in (t8_in (List.mem_of_getElem? (i := 163) rfl)) rfl
set_option maxRecDepth 20000 in
theorem lkX12_455 : LkM RX12 455 (mdX12_findWays) := tb_in (t8_in (List.mem_of_getElem? (i := 167) rfl)) rfl
set_option maxRecDepth 20000 in
theorem lkX12_452 : LkM RX12 452 (mdX12_findWeights) := tb_in (t8_in (List.mem_of_getElem? (i := 171) rfl)) rfl
set_option maxRecDepth 20000 in
theorem lkX12_458 : LkM RX12 458 (mdX12_weightTo) := tb_in (t8_in (List.mem_of_getElem? (i := 175) rfl)) rfl
set_option maxRecDepth 20000 in
theorem lkL_121 : LkM RL 121 (mdX12_byAll) := tb_in (t8_in (List.mem_of_getElem? (i := 179) rfl)) rfl
set_option maxRecDepth 20000 in
theorem lkX12_471 : LkM RX12 471 (mdX12_findProducts) := tb_in (t8_in (List.mem_of_getElem? (i := 183) rfl)) rfl
set_option maxRecDepth 20000 in
theorem lkX12_465 : LkM RX12 465 (mdX12_bits) := tb_in (t8_in (List.mem_of_getElem? (i := 187) rfl)) rfl
set_option maxRecDepth 20000 in
theorem lkX12_476 : LkM RX12 476 (mdX12_part) := tb_in (t8_in (List.mem_of_getElem? (i := 191) rfl)) rfl
set_option maxRecDepth 20000 in
theorem lkX12_461 : LkM RX12 461 (mdX12_common) := tb_in (t8_in (List.mem_of_getElem? (i := 194) rfl)) rfl
set_option maxRecDepth 20000 in
theorem lkL_125 : LkM RL 125 (mdX12_clash) := tb_in (t8_in (List.mem_of_getElem? (i := 197) rfl)) rfl
set_option maxRecDepth 20000 in
theorem lkX12_480 : LkM RX12 480 (mdX12_findLeads) := tb_in (t8_in (List.mem_of_getElem? (i := 201) rfl)) rfl
set_option maxRecDepth 20000 in
theorem lkL_130 : LkM RL 130 (mdX12_wrong) := tb_in (t8_in (List.mem_of_getElem? (i := 205) rfl)) rfl
set_option maxRecDepth 20000 in
theorem lkL_187 : LkM RL 187 (mdX12_heard) := tb_in (t8_in (List.mem_of_getElem? (i := 209) rfl)) rfl
set_option maxRecDepth 20000 in
theorem lkL_183 : LkM RL 183 (mdX12_whose) := tb_in (t8_in (List.mem_of_getElem? (i := 213) rfl)) rfl
set_option maxRecDepth 20000 in
theorem lkL_134 : LkM RL 134 (mdX12_far) := tb_in (t8_in (List.mem_of_getElem? (i := 217) rfl)) rfl
set_option maxRecDepth 20000 in
theorem lkX12_487 : LkM RX12 487 (mdX12_findFar) := tb_in (t8_in (List.mem_of_getElem? (i := 221) rfl)) rfl
set_option maxRecDepth 20000 in
theorem lkX12_484 : LkM RX12 484 (mdX12_nearest) := tb_in (t8_in (List.mem_of_getElem? (i := 226) rfl)) rfl
set_option maxRecDepth 20000 in
theorem lkL_139 : LkM RL 139 (mdX12_see) := tb_in (t8_in (List.mem_of_getElem? (i := 230) rfl)) rfl
set_option maxRecDepth 20000 in
theorem lkX12_503 : LkM RX12 503 (mdX12_findOrder) := tb_in (t8_in (List.mem_of_getElem? (i := 234) rfl)) rfl
set_option maxRecDepth 20000 in
theorem lkX12_496 : LkM RX12 496 (mdX12_timeOf) := tb_in (t8_in (List.mem_of_getElem? (i := 238) rfl)) rfl
set_option maxRecDepth 20000 in
theorem lkX12_500 : LkM RX12 500 (mdX12_nextOrder) := tb_in (t9_in (List.mem_of_getElem? (i := 2) rfl)) rfl
set_option maxRecDepth 20000 in
theorem lkL_143 : LkM RL 143 (mdX12_orAsk) := tb_in (t9_in (List.mem_of_getElem? (i := 6) rfl)) rfl
set_option maxRecDepth 20000 in
theorem lkX12_506 : LkM RX12 506 (mdX12_timeByAsking) := tb_in (t9_in (List.mem_of_getElem? (i := 10) rfl)) rfl
set_option maxRecDepth 20000 in
theorem lkL_148 : LkM RL 148 (mdX12_safeSoFar) := tb_in (t9_in (List.mem_of_getElem? (i := 14) rfl)) rfl
set_option maxRecDepth 20000 in
theorem lkX12_513 : LkM RX12 513 (mdX12_safeOf) := tb_in (t9_in (List.mem_of_getElem? (i := 18) rfl)) rfl
set_option maxRecDepth 20000 in
theorem lkX12_510 : LkM RX12 510 (mdX12_stateOf) := tb_in (t9_in (List.mem_of_getElem? (i := 22) rfl)) rfl
set_option maxRecDepth 20000 in
theorem lkL_152 : LkM RL 152 (mdX12_howFar) := tb_in (t9_in (List.mem_of_getElem? (i := 27) rfl)) rfl
set_option maxRecDepth 20000 in
theorem lkL_156 : LkM RL 156 (mdX12_lost) := tb_in (t9_in (List.mem_of_getElem? (i := 31) rfl)) rfl
set_option maxRecDepth 20000 in
theorem lkL_161 : LkM RL 161 (mdX12_listen) := tb_in (t9_in (List.mem_of_getElem? (i := 35) rfl)) rfl
set_option maxRecDepth 20000 in
theorem lkX12_518 : LkM RX12 518 (mdX12_power) := tb_in (t9_in (List.mem_of_getElem? (i := 39) rfl)) rfl
set_option maxRecDepth 20000 in
theorem lkL_165 : LkM RL 165 (mdX12_tell) := tb_in (t9_in (List.mem_of_getElem? (i := 43) rfl)) rfl
set_option maxRecDepth 20000 in
theorem lkX12_530 : LkM RX12 530 (mdX12_findTelling) := tb_in (t9_in (List.mem_of_getElem? (i := 47) rfl)) rfl
set_option maxRecDepth 20000 in
theorem lkX12_524 : LkM RX12 524 (mdX12_turnOf) := tb_in (t9_in (List.mem_of_getElem? (i := 51) rfl)) rfl
set_option maxRecDepth 20000 in
theorem lkX12_527 : LkM RX12 527 (mdX12_leadsToGoal) := tb_in (t9_in (List.mem_of_getElem? (i := 54) rfl)) rfl
set_option maxRecDepth 20000 in
theorem lkL_169 : LkM RL 169 (mdX12_where) := tb_in (t9_in (List.mem_of_getElem? (i := 58) rfl)) rfl
set_option maxRecDepth 20000 in
theorem lkL_174 : LkM RL 174 (mdX12_map) := tb_in (t9_in (List.mem_of_getElem? (i := 62) rfl)) rfl
set_option maxRecDepth 20000 in
theorem lkL_178 : LkM RL 178 (mdX12_signs) := tb_in (t9_in (List.mem_of_getElem? (i := 66) rfl)) rfl
set_option maxRecDepth 20000 in
theorem lkX12_539 : LkM RX12 539 (mdX12_findShown) := tb_in (t9_in (List.mem_of_getElem? (i := 70) rfl)) rfl
set_option maxRecDepth 20000 in
theorem lkX12_542 : LkM RX12 542 (mdX12_areEnough) := tb_in (t9_in (List.mem_of_getElem? (i := 74) rfl)) rfl
set_option maxRecDepth 20000 in
theorem lkX12_536 : LkM RX12 536 (mdX12_comesToGoal) := tb_in (t9_in (List.mem_of_getElem? (i := 78) rfl)) rfl
set_option maxRecDepth 20000 in
theorem lkX12_533 : LkM RX12 533 (mdX12_directionFrom) := tb_in (t9_in (List.mem_of_getElem? (i := 82) rfl)) rfl
set_option maxRecDepth 20000 in
theorem lkL_191 : LkM RL 191 (mdX12_image) := tb_in (t9_in (List.mem_of_getElem? (i := 86) rfl)) rfl
set_option maxRecDepth 20000 in
theorem lkL_195 : LkM RL 195 (mdX12_back) := tb_in (t9_in (List.mem_of_getElem? (i := 90) rfl)) rfl
set_option maxRecDepth 20000 in
theorem lkL_199 : LkM RL 199 (mdX12_about) := tb_in (t9_in (List.mem_of_getElem? (i := 94) rfl)) rfl
theorem nkX6_81 : ∀ (A : Nat → Prop) (U : State) (H : Heap), Ext A U H → va_Nw (.methodLinkNest RX6 81 (mY mdX11_isDirection) "SecondLeft") U := fun _ _ _ h => h.1.1
theorem nkX6_84 : ∀ (A : Nat → Prop) (U : State) (H : Heap), Ext A U H → va_Nw (.methodLinkNest RX6 84 (mY mdX11_isSlip) "SecondLeft") U := fun _ _ _ h => h.1.2.1
theorem nkX9_39 : ∀ (A : Nat → Prop) (U : State) (H : Heap), Ext A U H → va_Nw (.methodLinkNest RX9 39 (mY mdX11_isDirection) "SecondLeft") U := fun _ _ _ h => h.1.2.2.1
theorem nkX2_57 : ∀ (A : Nat → Prop) (U : State) (H : Heap), Ext A U H → va_Nw (.methodLinkNest RX2 57 (mY mdX11_held) "SecondLeft") U := fun _ _ _ h => h.1.2.2.2
set_option maxRecDepth 20000 in
theorem kcX6_93 : Cond.constant RX6 93 (Int32.ofInt 1000000000) ∈ tblG := tb_in (t2_in (List.mem_of_getElem? (i := 239) rfl)) rfl
set_option maxRecDepth 20000 in
theorem kcX6_94 : Cond.constant RX6 94 (Int32.ofInt 1000000) ∈ tblG := tb_in (t3_in (List.mem_of_getElem? (i := 0) rfl)) rfl
set_option maxRecDepth 20000 in
theorem kcJ6_265 : Cond.constant RJ6 265 (Int32.ofInt 1431655765) ∈ tblG := tb_in (t5_in (List.mem_of_getElem? (i := 62) rfl)) rfl
set_option maxRecDepth 20000 in
theorem kcJ6_266 : Cond.constant RJ6 266 (Int32.ofInt 858993459) ∈ tblG := tb_in (t5_in (List.mem_of_getElem? (i := 63) rfl)) rfl
set_option maxRecDepth 20000 in
theorem kcJ6_267 : Cond.constant RJ6 267 (Int32.ofInt 252645135) ∈ tblG := tb_in (t5_in (List.mem_of_getElem? (i := 64) rfl)) rfl
set_option maxRecDepth 20000 in
theorem kcX3_59 : Cond.constant RX3 59 (Int32.ofInt 65536) ∈ tblG := tb_in (t6_in (List.mem_of_getElem? (i := 31) rfl)) rfl
set_option maxRecDepth 20000 in
theorem kcX12_95 : Cond.constant RX12 95 (Int32.ofInt 999999999) ∈ tblG := tb_in (t7_in (List.mem_of_getElem? (i := 23) rfl)) rfl
set_option maxRecDepth 20000 in
theorem kcX12_96 : Cond.constant RX12 96 (Int32.ofInt 999999) ∈ tblG := tb_in (t7_in (List.mem_of_getElem? (i := 24) rfl)) rfl
set_option maxRecDepth 20000 in
theorem kcX12_138 : Cond.constant RX12 138 (Int32.ofInt 99999) ∈ tblG := tb_in (t7_in (List.mem_of_getElem? (i := 63) rfl)) rfl
set_option maxRecDepth 20000 in
theorem kcX12_483 : Cond.constant RX12 483 (Int32.ofInt 1000000) ∈ tblG := tb_in (t8_in (List.mem_of_getElem? (i := 225) rfl)) rfl
set_option maxRecDepth 20000 in
theorem klX5_45 : Cond.constantLong RX5 45 (Int64.ofInt (-1000000)) ∈ tblG := tb_in (t4_in (List.mem_of_getElem? (i := 75) rfl)) rfl
set_option maxRecDepth 20000 in
theorem klX5_47 : Cond.constantLong RX5 47 (Int64.ofInt 1000000) ∈ tblG := tb_in (t4_in (List.mem_of_getElem? (i := 76) rfl)) rfl
set_option maxRecDepth 20000 in
theorem klX11_239 : Cond.constantLong RX11 239 (Int64.ofInt (-1)) ∈ tblG := tb_in (t5_in (List.mem_of_getElem? (i := 65) rfl)) rfl
set_option maxRecDepth 20000 in
theorem klX7_96 : Cond.constantLong RX7 96 (Int64.ofInt (-1)) ∈ tblG := tb_in (t5_in (List.mem_of_getElem? (i := 141) rfl)) rfl
set_option maxRecDepth 20000 in
theorem klX11_305 : Cond.constantLong RX11 305 (Int64.ofInt 1000) ∈ tblG := tb_in (t5_in (List.mem_of_getElem? (i := 173) rfl)) rfl
set_option maxRecDepth 20000 in
theorem klX11_320 : Cond.constantLong RX11 320 (Int64.ofInt 100) ∈ tblG := tb_in (t5_in (List.mem_of_getElem? (i := 191) rfl)) rfl
set_option maxRecDepth 20000 in
theorem klX12_146 : Cond.constantLong RX12 146 (Int64.ofInt 1152921504606846976) ∈ tblG := tb_in (t7_in (List.mem_of_getElem? (i := 67) rfl)) rfl
set_option maxRecDepth 20000 in
theorem klX12_281 : Cond.constantLong RX12 281 (Int64.ofInt 1000000) ∈ tblG := tb_in (t8_in (List.mem_of_getElem? (i := 14) rfl)) rfl
set_option maxRecDepth 20000 in
theorem klX12_283 : Cond.constantLong RX12 283 (Int64.ofInt (-1000000)) ∈ tblG := tb_in (t8_in (List.mem_of_getElem? (i := 15) rfl)) rfl
set_option maxRecDepth 20000 in
theorem klX12_474 : Cond.constantLong RX12 474 (Int64.ofInt (-1)) ∈ tblG := tb_in (t8_in (List.mem_of_getElem? (i := 190) rfl)) rfl
set_option maxRecDepth 20000 in
theorem klX12_516 : Cond.constantLong RX12 516 (Int64.ofInt 1000) ∈ tblG := tb_in (t9_in (List.mem_of_getElem? (i := 26) rfl)) rfl
set_option maxRecDepth 20000 in
theorem klX12_522 : Cond.constantLong RX12 522 (Int64.ofInt 100) ∈ tblG := tb_in (t9_in (List.mem_of_getElem? (i := 42) rfl)) rfl

