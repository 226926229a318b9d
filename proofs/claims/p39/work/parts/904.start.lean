/-! THE START (written by wip/whole/p63.py) -/
theorem t_lw {w : Cond} (h : w ∈ tables_1) : w ∈ lw_tbl := List.mem_append_right _ h
def tmW : Term := .string "SecondLeft$Reader" 107
def elW (j : Nat) : Cond := .eq (.elem (.field tmW "java/lang/String" "value" "[B") (.int (Int32.ofNat j))) (.int (wByt.getD j 0))
theorem elW_0 : ∀ j, 0 ≤ j → j < 25 → elW j ∈ flatC (Jvm.Cond.and given_1 narrow_1) := by
  intro j h1 h2
  rcases (show j = 0 ∨ j = 1 ∨ j = 2 ∨ j = 3 ∨ j = 4 ∨ j = 5 ∨ j = 6 ∨ j = 7 ∨ j = 8 ∨ j = 9 ∨ j = 10 ∨ j = 11 ∨ j = 12 ∨ j = 13 ∨ j = 14 ∨ j = 15 ∨ j = 16 ∨ j = 17 ∨ j = 18 ∨ j = 19 ∨ j = 20 ∨ j = 21 ∨ j = 22 ∨ j = 23 ∨ j = 24 by omega) with rfl | rfl | rfl | rfl | rfl | rfl | rfl | rfl | rfl | rfl | rfl | rfl | rfl | rfl | rfl | rfl | rfl | rfl | rfl | rfl | rfl | rfl | rfl | rfl | rfl
  · exact List.mem_of_getElem? (i := 13) rfl
  · exact List.mem_of_getElem? (i := 14) rfl
  · exact List.mem_of_getElem? (i := 15) rfl
  · exact List.mem_of_getElem? (i := 16) rfl
  · exact List.mem_of_getElem? (i := 17) rfl
  · exact List.mem_of_getElem? (i := 18) rfl
  · exact List.mem_of_getElem? (i := 19) rfl
  · exact List.mem_of_getElem? (i := 20) rfl
  · exact List.mem_of_getElem? (i := 21) rfl
  · exact List.mem_of_getElem? (i := 22) rfl
  · exact List.mem_of_getElem? (i := 23) rfl
  · exact List.mem_of_getElem? (i := 24) rfl
  · exact List.mem_of_getElem? (i := 25) rfl
  · exact List.mem_of_getElem? (i := 26) rfl
  · exact List.mem_of_getElem? (i := 27) rfl
  · exact List.mem_of_getElem? (i := 28) rfl
  · exact List.mem_of_getElem? (i := 29) rfl
  · exact List.mem_of_getElem? (i := 30) rfl
  · exact List.mem_of_getElem? (i := 31) rfl
  · exact List.mem_of_getElem? (i := 32) rfl
  · exact List.mem_of_getElem? (i := 33) rfl
  · exact List.mem_of_getElem? (i := 34) rfl
  · exact List.mem_of_getElem? (i := 35) rfl
  · exact List.mem_of_getElem? (i := 36) rfl
  · exact List.mem_of_getElem? (i := 37) rfl
theorem elW_25 : ∀ j, 25 ≤ j → j < 50 → elW j ∈ flatC (Jvm.Cond.and given_1 narrow_1) := by
  intro j h1 h2
  rcases (show j = 25 ∨ j = 26 ∨ j = 27 ∨ j = 28 ∨ j = 29 ∨ j = 30 ∨ j = 31 ∨ j = 32 ∨ j = 33 ∨ j = 34 ∨ j = 35 ∨ j = 36 ∨ j = 37 ∨ j = 38 ∨ j = 39 ∨ j = 40 ∨ j = 41 ∨ j = 42 ∨ j = 43 ∨ j = 44 ∨ j = 45 ∨ j = 46 ∨ j = 47 ∨ j = 48 ∨ j = 49 by omega) with rfl | rfl | rfl | rfl | rfl | rfl | rfl | rfl | rfl | rfl | rfl | rfl | rfl | rfl | rfl | rfl | rfl | rfl | rfl | rfl | rfl | rfl | rfl | rfl | rfl
  · exact List.mem_of_getElem? (i := 38) rfl
  · exact List.mem_of_getElem? (i := 39) rfl
  · exact List.mem_of_getElem? (i := 40) rfl
  · exact List.mem_of_getElem? (i := 41) rfl
  · exact List.mem_of_getElem? (i := 42) rfl
  · exact List.mem_of_getElem? (i := 43) rfl
  · exact List.mem_of_getElem? (i := 44) rfl
  · exact List.mem_of_getElem? (i := 45) rfl
  · exact List.mem_of_getElem? (i := 46) rfl
  · exact List.mem_of_getElem? (i := 47) rfl
  · exact List.mem_of_getElem? (i := 48) rfl
  · exact List.mem_of_getElem? (i := 49) rfl
  · exact List.mem_of_getElem? (i := 50) rfl
  · exact List.mem_of_getElem? (i := 51) rfl
  · exact List.mem_of_getElem? (i := 52) rfl
  · exact List.mem_of_getElem? (i := 53) rfl
  · exact List.mem_of_getElem? (i := 54) rfl
  · exact List.mem_of_getElem? (i := 55) rfl
  · exact List.mem_of_getElem? (i := 56) rfl
  · exact List.mem_of_getElem? (i := 57) rfl
  · exact List.mem_of_getElem? (i := 58) rfl
  · exact List.mem_of_getElem? (i := 59) rfl
  · exact List.mem_of_getElem? (i := 60) rfl
  · exact List.mem_of_getElem? (i := 61) rfl
  · exact List.mem_of_getElem? (i := 62) rfl
theorem elW_50 : ∀ j, 50 ≤ j → j < 75 → elW j ∈ flatC (Jvm.Cond.and given_1 narrow_1) := by
  intro j h1 h2
  rcases (show j = 50 ∨ j = 51 ∨ j = 52 ∨ j = 53 ∨ j = 54 ∨ j = 55 ∨ j = 56 ∨ j = 57 ∨ j = 58 ∨ j = 59 ∨ j = 60 ∨ j = 61 ∨ j = 62 ∨ j = 63 ∨ j = 64 ∨ j = 65 ∨ j = 66 ∨ j = 67 ∨ j = 68 ∨ j = 69 ∨ j = 70 ∨ j = 71 ∨ j = 72 ∨ j = 73 ∨ j = 74 by omega) with rfl | rfl | rfl | rfl | rfl | rfl | rfl | rfl | rfl | rfl | rfl | rfl | rfl | rfl | rfl | rfl | rfl | rfl | rfl | rfl | rfl | rfl | rfl | rfl | rfl
  · exact List.mem_of_getElem? (i := 63) rfl
  · exact List.mem_of_getElem? (i := 64) rfl
  · exact List.mem_of_getElem? (i := 65) rfl
  · exact List.mem_of_getElem? (i := 66) rfl
  · exact List.mem_of_getElem? (i := 67) rfl
  · exact List.mem_of_getElem? (i := 68) rfl
  · exact List.mem_of_getElem? (i := 69) rfl
  · exact List.mem_of_getElem? (i := 70) rfl
  · exact List.mem_of_getElem? (i := 71) rfl
  · exact List.mem_of_getElem? (i := 72) rfl
  · exact List.mem_of_getElem? (i := 73) rfl
  · exact List.mem_of_getElem? (i := 74) rfl
  · exact List.mem_of_getElem? (i := 75) rfl
  · exact List.mem_of_getElem? (i := 76) rfl
  · exact List.mem_of_getElem? (i := 77) rfl
  · exact List.mem_of_getElem? (i := 78) rfl
  · exact List.mem_of_getElem? (i := 79) rfl
  · exact List.mem_of_getElem? (i := 80) rfl
  · exact List.mem_of_getElem? (i := 81) rfl
  · exact List.mem_of_getElem? (i := 82) rfl
  · exact List.mem_of_getElem? (i := 83) rfl
  · exact List.mem_of_getElem? (i := 84) rfl
  · exact List.mem_of_getElem? (i := 85) rfl
  · exact List.mem_of_getElem? (i := 86) rfl
  · exact List.mem_of_getElem? (i := 87) rfl
theorem elW_75 : ∀ j, 75 ≤ j → j < 100 → elW j ∈ flatC (Jvm.Cond.and given_1 narrow_1) := by
  intro j h1 h2
  rcases (show j = 75 ∨ j = 76 ∨ j = 77 ∨ j = 78 ∨ j = 79 ∨ j = 80 ∨ j = 81 ∨ j = 82 ∨ j = 83 ∨ j = 84 ∨ j = 85 ∨ j = 86 ∨ j = 87 ∨ j = 88 ∨ j = 89 ∨ j = 90 ∨ j = 91 ∨ j = 92 ∨ j = 93 ∨ j = 94 ∨ j = 95 ∨ j = 96 ∨ j = 97 ∨ j = 98 ∨ j = 99 by omega) with rfl | rfl | rfl | rfl | rfl | rfl | rfl | rfl | rfl | rfl | rfl | rfl | rfl | rfl | rfl | rfl | rfl | rfl | rfl | rfl | rfl | rfl | rfl | rfl | rfl
  · exact List.mem_of_getElem? (i := 88) rfl
  · exact List.mem_of_getElem? (i := 89) rfl
  · exact List.mem_of_getElem? (i := 90) rfl
  · exact List.mem_of_getElem? (i := 91) rfl
  · exact List.mem_of_getElem? (i := 92) rfl
  · exact List.mem_of_getElem? (i := 93) rfl
  · exact List.mem_of_getElem? (i := 94) rfl
  · exact List.mem_of_getElem? (i := 95) rfl
  · exact List.mem_of_getElem? (i := 96) rfl
  · exact List.mem_of_getElem? (i := 97) rfl
  · exact List.mem_of_getElem? (i := 98) rfl
  · exact List.mem_of_getElem? (i := 99) rfl
  · exact List.mem_of_getElem? (i := 100) rfl
  · exact List.mem_of_getElem? (i := 101) rfl
  · exact List.mem_of_getElem? (i := 102) rfl
  · exact List.mem_of_getElem? (i := 103) rfl
  · exact List.mem_of_getElem? (i := 104) rfl
  · exact List.mem_of_getElem? (i := 105) rfl
  · exact List.mem_of_getElem? (i := 106) rfl
  · exact List.mem_of_getElem? (i := 107) rfl
  · exact List.mem_of_getElem? (i := 108) rfl
  · exact List.mem_of_getElem? (i := 109) rfl
  · exact List.mem_of_getElem? (i := 110) rfl
  · exact List.mem_of_getElem? (i := 111) rfl
  · exact List.mem_of_getElem? (i := 112) rfl
theorem elW_100 : ∀ j, 100 ≤ j → j < 125 → elW j ∈ flatC (Jvm.Cond.and given_1 narrow_1) := by
  intro j h1 h2
  rcases (show j = 100 ∨ j = 101 ∨ j = 102 ∨ j = 103 ∨ j = 104 ∨ j = 105 ∨ j = 106 ∨ j = 107 ∨ j = 108 ∨ j = 109 ∨ j = 110 ∨ j = 111 ∨ j = 112 ∨ j = 113 ∨ j = 114 ∨ j = 115 ∨ j = 116 ∨ j = 117 ∨ j = 118 ∨ j = 119 ∨ j = 120 ∨ j = 121 ∨ j = 122 ∨ j = 123 ∨ j = 124 by omega) with rfl | rfl | rfl | rfl | rfl | rfl | rfl | rfl | rfl | rfl | rfl | rfl | rfl | rfl | rfl | rfl | rfl | rfl | rfl | rfl | rfl | rfl | rfl | rfl | rfl
  · exact List.mem_of_getElem? (i := 113) rfl
  · exact List.mem_of_getElem? (i := 114) rfl
  · exact List.mem_of_getElem? (i := 115) rfl
  · exact List.mem_of_getElem? (i := 116) rfl
  · exact List.mem_of_getElem? (i := 117) rfl
  · exact List.mem_of_getElem? (i := 118) rfl
  · exact List.mem_of_getElem? (i := 119) rfl
  · exact List.mem_of_getElem? (i := 120) rfl
  · exact List.mem_of_getElem? (i := 121) rfl
  · exact List.mem_of_getElem? (i := 122) rfl
  · exact List.mem_of_getElem? (i := 123) rfl
  · exact List.mem_of_getElem? (i := 124) rfl
  · exact List.mem_of_getElem? (i := 125) rfl
  · exact List.mem_of_getElem? (i := 126) rfl
  · exact List.mem_of_getElem? (i := 127) rfl
  · exact List.mem_of_getElem? (i := 128) rfl
  · exact List.mem_of_getElem? (i := 129) rfl
  · exact List.mem_of_getElem? (i := 130) rfl
  · exact List.mem_of_getElem? (i := 131) rfl
  · exact List.mem_of_getElem? (i := 132) rfl
  · exact List.mem_of_getElem? (i := 133) rfl
  · exact List.mem_of_getElem? (i := 134) rfl
  · exact List.mem_of_getElem? (i := 135) rfl
  · exact List.mem_of_getElem? (i := 136) rfl
  · exact List.mem_of_getElem? (i := 137) rfl
theorem elW_125 : ∀ j, 125 ≤ j → j < 150 → elW j ∈ flatC (Jvm.Cond.and given_1 narrow_1) := by
  intro j h1 h2
  rcases (show j = 125 ∨ j = 126 ∨ j = 127 ∨ j = 128 ∨ j = 129 ∨ j = 130 ∨ j = 131 ∨ j = 132 ∨ j = 133 ∨ j = 134 ∨ j = 135 ∨ j = 136 ∨ j = 137 ∨ j = 138 ∨ j = 139 ∨ j = 140 ∨ j = 141 ∨ j = 142 ∨ j = 143 ∨ j = 144 ∨ j = 145 ∨ j = 146 ∨ j = 147 ∨ j = 148 ∨ j = 149 by omega) with rfl | rfl | rfl | rfl | rfl | rfl | rfl | rfl | rfl | rfl | rfl | rfl | rfl | rfl | rfl | rfl | rfl | rfl | rfl | rfl | rfl | rfl | rfl | rfl | rfl
  · exact List.mem_of_getElem? (i := 138) rfl
  · exact List.mem_of_getElem? (i := 139) rfl
  · exact List.mem_of_getElem? (i := 140) rfl
  · exact List.mem_of_getElem? (i := 141) rfl
  · exact List.mem_of_getElem? (i := 142) rfl
  · exact List.mem_of_getElem? (i := 143) rfl
  · exact List.mem_of_getElem? (i := 144) rfl
  · exact List.mem_of_getElem? (i := 145) rfl
  · exact List.mem_of_getElem? (i := 146) rfl
  · exact List.mem_of_getElem? (i := 147) rfl
  · exact List.mem_of_getElem? (i := 148) rfl
  · exact List.mem_of_getElem? (i := 149) rfl
  · exact List.mem_of_getElem? (i := 150) rfl
  · exact List.mem_of_getElem? (i := 151) rfl
  · exact List.mem_of_getElem? (i := 152) rfl
  · exact List.mem_of_getElem? (i := 153) rfl
  · exact List.mem_of_getElem? (i := 154) rfl
  · exact List.mem_of_getElem? (i := 155) rfl
  · exact List.mem_of_getElem? (i := 156) rfl
  · exact List.mem_of_getElem? (i := 157) rfl
  · exact List.mem_of_getElem? (i := 158) rfl
  · exact List.mem_of_getElem? (i := 159) rfl
  · exact List.mem_of_getElem? (i := 160) rfl
  · exact List.mem_of_getElem? (i := 161) rfl
  · exact List.mem_of_getElem? (i := 162) rfl
theorem elW_150 : ∀ j, 150 ≤ j → j < 175 → elW j ∈ flatC (Jvm.Cond.and given_1 narrow_1) := by
  intro j h1 h2
  rcases (show j = 150 ∨ j = 151 ∨ j = 152 ∨ j = 153 ∨ j = 154 ∨ j = 155 ∨ j = 156 ∨ j = 157 ∨ j = 158 ∨ j = 159 ∨ j = 160 ∨ j = 161 ∨ j = 162 ∨ j = 163 ∨ j = 164 ∨ j = 165 ∨ j = 166 ∨ j = 167 ∨ j = 168 ∨ j = 169 ∨ j = 170 ∨ j = 171 ∨ j = 172 ∨ j = 173 ∨ j = 174 by omega) with rfl | rfl | rfl | rfl | rfl | rfl | rfl | rfl | rfl | rfl | rfl | rfl | rfl | rfl | rfl | rfl | rfl | rfl | rfl | rfl | rfl | rfl | rfl | rfl | rfl
  · exact List.mem_of_getElem? (i := 163) rfl
  · exact List.mem_of_getElem? (i := 164) rfl
  · exact List.mem_of_getElem? (i := 165) rfl
  · exact List.mem_of_getElem? (i := 166) rfl
  · exact List.mem_of_getElem? (i := 167) rfl
  · exact List.mem_of_getElem? (i := 168) rfl
  · exact List.mem_of_getElem? (i := 169) rfl
  · exact List.mem_of_getElem? (i := 170) rfl
  · exact List.mem_of_getElem? (i := 171) rfl
  · exact List.mem_of_getElem? (i := 172) rfl
  · exact List.mem_of_getElem? (i := 173) rfl
  · exact List.mem_of_getElem? (i := 174) rfl
  · exact List.mem_of_getElem? (i := 175) rfl
  · exact List.mem_of_getElem? (i := 176) rfl
  · exact List.mem_of_getElem? (i := 177) rfl
  · exact List.mem_of_getElem? (i := 178) rfl
  · exact List.mem_of_getElem? (i := 179) rfl
  · exact List.mem_of_getElem? (i := 180) rfl
  · exact List.mem_of_getElem? (i := 181) rfl
  · exact List.mem_of_getElem? (i := 182) rfl
  · exact List.mem_of_getElem? (i := 183) rfl
  · exact List.mem_of_getElem? (i := 184) rfl
  · exact List.mem_of_getElem? (i := 185) rfl
  · exact List.mem_of_getElem? (i := 186) rfl
  · exact List.mem_of_getElem? (i := 187) rfl
theorem elW_175 : ∀ j, 175 ≤ j → j < 193 → elW j ∈ flatC (Jvm.Cond.and given_1 narrow_1) := by
  intro j h1 h2
  rcases (show j = 175 ∨ j = 176 ∨ j = 177 ∨ j = 178 ∨ j = 179 ∨ j = 180 ∨ j = 181 ∨ j = 182 ∨ j = 183 ∨ j = 184 ∨ j = 185 ∨ j = 186 ∨ j = 187 ∨ j = 188 ∨ j = 189 ∨ j = 190 ∨ j = 191 ∨ j = 192 by omega) with rfl | rfl | rfl | rfl | rfl | rfl | rfl | rfl | rfl | rfl | rfl | rfl | rfl | rfl | rfl | rfl | rfl | rfl
  · exact List.mem_of_getElem? (i := 188) rfl
  · exact List.mem_of_getElem? (i := 189) rfl
  · exact List.mem_of_getElem? (i := 190) rfl
  · exact List.mem_of_getElem? (i := 191) rfl
  · exact List.mem_of_getElem? (i := 192) rfl
  · exact List.mem_of_getElem? (i := 193) rfl
  · exact List.mem_of_getElem? (i := 194) rfl
  · exact List.mem_of_getElem? (i := 195) rfl
  · exact List.mem_of_getElem? (i := 196) rfl
  · exact List.mem_of_getElem? (i := 197) rfl
  · exact List.mem_of_getElem? (i := 198) rfl
  · exact List.mem_of_getElem? (i := 199) rfl
  · exact List.mem_of_getElem? (i := 200) rfl
  · exact List.mem_of_getElem? (i := 201) rfl
  · exact List.mem_of_getElem? (i := 202) rfl
  · exact List.mem_of_getElem? (i := 203) rfl
  · exact List.mem_of_getElem? (i := 204) rfl
  · exact List.mem_of_getElem? (i := 205) rfl
theorem elW_in (j : Nat) (h : j < 193) : elW j ∈ flatC (Jvm.Cond.and given_1 narrow_1) := by
  by_cases h25 : j < 25
  · exact elW_0 j (by omega) h25
  by_cases h50 : j < 50
  · exact elW_25 j (by omega) h50
  by_cases h75 : j < 75
  · exact elW_50 j (by omega) h75
  by_cases h100 : j < 100
  · exact elW_75 j (by omega) h100
  by_cases h125 : j < 125
  · exact elW_100 j (by omega) h125
  by_cases h150 : j < 150
  · exact elW_125 j (by omega) h150
  by_cases h175 : j < 175
  · exact elW_150 j (by omega) h175
  by_cases h193 : j < 193
  · exact elW_175 j (by omega) h193
  exact absurd h h193
theorem arK {s : State} {args : Array Value} {ty : FieldType} (h : (Cond.arrayClass ty).before args s = true) : ∃ cA, ArrOfT s cA ty ∧ s.vm.findClass ("[" ++ ty.toString) = some cA := by
  obtain ⟨c, k, comp, h1, h2, h3⟩ := Cond.arrayClass_spec h
  exact ⟨c, fun n z => ⟨fun k h => (by cases h), k, h2, comp, h3⟩, h1⟩
theorem arO {s : State} {args : Array Value} {C : String} (h : (Cond.arrayOver (.object C)).before args s = true) : ∃ cA, ArrOfT s cA (.object C) ∧ va_RA s cA (.object C) := by
  obtain ⟨comp, c, k, h1, h2, h3, h4, h5⟩ := Cond.arrayOver_spec h
  exact ⟨c, fun n z => ⟨fun k h => (by cases h), k, h3, comp, h4⟩, ⟨k, comp, h3, h4, h1, h5⟩⟩
theorem kn_at {s : State} {args : Array Value} (hts : ∀ w ∈ tblG, w.before args s = true) (ci : Nat) : ∃ y : ClassId × (Nat → Nat), ∀ q : vw_C, vwCl[ci]? = some q → u_Kn s q.1 q.2.1 q.2.2 y.1 y.2 := by
  match ci with
  | 0 => obtain ⟨c, iS, h⟩ := u_known hts inG0 (hts (.instantiable RX0 5) iaX0); exact ⟨(c, iS), fun q hq => by cases hq; exact h⟩
  | 1 => obtain ⟨c, iS, h⟩ := u_known hts inG1 (hts (.instantiable RX1 5) iaX1); exact ⟨(c, iS), fun q hq => by cases hq; exact h⟩
  | 2 => obtain ⟨c, iS, h⟩ := u_known hts inG2 (hts (.instantiable RX2 4) iaX2); exact ⟨(c, iS), fun q hq => by cases hq; exact h⟩
  | 3 => obtain ⟨c, iS, h⟩ := u_known hts inG3 (hts (.instantiable RX3 6) iaX3); exact ⟨(c, iS), fun q hq => by cases hq; exact h⟩
  | 4 => obtain ⟨c, iS, h⟩ := u_known hts inG4 (hts (.instantiable RX4 15) iaX4); exact ⟨(c, iS), fun q hq => by cases hq; exact h⟩
  | 5 => obtain ⟨c, iS, h⟩ := u_known hts inG5 (hts (.instantiable RX5 4) iaX5); exact ⟨(c, iS), fun q hq => by cases hq; exact h⟩
  | 6 => obtain ⟨c, iS, h⟩ := u_known hts inG6 (hts (.instantiable RX6 12) iaX6); exact ⟨(c, iS), fun q hq => by cases hq; exact h⟩
  | 7 => obtain ⟨c, iS, h⟩ := u_known hts inG7 (hts (.instantiable RX7 11) iaX7); exact ⟨(c, iS), fun q hq => by cases hq; exact h⟩
  | 8 => obtain ⟨c, iS, h⟩ := u_known hts inG8 (hts (.instantiable RX8 4) iaX8); exact ⟨(c, iS), fun q hq => by cases hq; exact h⟩
  | 9 => obtain ⟨c, iS, h⟩ := u_known hts inG9 (hts (.instantiable RX9 4) iaX9); exact ⟨(c, iS), fun q hq => by cases hq; exact h⟩
  | 10 => obtain ⟨c, iS, h⟩ := u_known hts inG10 (hts (.instantiable RX10 8) iaX10); exact ⟨(c, iS), fun q hq => by cases hq; exact h⟩
  | 11 => obtain ⟨c, iS, h⟩ := u_known hts inG11 (hts (.instantiable RX11 16) iaX11); exact ⟨(c, iS), fun q hq => by cases hq; exact h⟩
  | 12 => obtain ⟨c, iS, h⟩ := u_known hts inG12 (hts (.instantiable RX12 47) iaX12); exact ⟨(c, iS), fun q hq => by cases hq; exact h⟩
  | n + 13 => exact ⟨(0, fun _ => 0), fun q hq => by simp at hq⟩
theorem kn_all {s : State} {args : Array Value} (hts : ∀ w ∈ tblG, w.before args s = true) (hAO : va_AO "SecondLeft$Text" s) : ∃ (dC : Nat → ClassId) (dI : Nat → Nat → Nat) (dA : Nat → ClassId), va_K (dC, dI) vwCl (tysA dA) s := by
  obtain ⟨f, hf⟩ := Classical.axiomOfChoice (kn_at hts)
  obtain ⟨a0, u0, v0⟩ := arK (hts _ ay_I)
  obtain ⟨a1, u1, v1⟩ := arK (hts _ ay_J)
  obtain ⟨a2, u2, v2⟩ := arK (hts _ ay_Z)
  obtain ⟨a3, u3, v3⟩ := arO (va_AO.use (A := args) hAO)
  refine ⟨fun k => (f k).1, fun k => (f k).2, fun k => if k = 0 then a0 else if k = 1 then a1 else if k = 2 then a2 else a3, fun c q hq => hf c q hq, fun k q hk => ?_⟩
  match k, hk with
  | 0, hk => cases hk; exact ⟨u0, v0⟩
  | 1, hk => cases hk; exact ⟨u1, v1⟩
  | 2, hk => cases hk; exact ⟨u2, v2⟩
  | 3, hk => cases hk; exact ⟨u3, v3⟩
  | n + 4, hk => cases hk
theorem ext0 {b : Nat} {s : State} (hts : ∀ w ∈ lw_tbl, w.before #[Value.ref b] s = true) (hgv : (Jvm.Cond.and given_1 narrow_1).before #[Value.ref b] s = true) : Ext (fun q => s.heap.size ≤ q) s s.heap := by
  have hs := flat_of_before _ hgv
  have hA : ∀ a : Nat, a < s.heap.size → ¬ (fun q : Nat => s.heap.size ≤ q) a := fun _ h => Nat.not_le.mpr h
  refine ⟨⟨va_Nw.of rfl (hts nw0 (t_lw (t2_in (List.mem_of_getElem? (i := 201) rfl)))), va_Nw.of rfl (hts nw1 (t_lw (t2_in (List.mem_of_getElem? (i := 220) rfl)))), va_Nw.of rfl (hts nw2 (t_lw (t4_in (List.mem_of_getElem? (i := 7) rfl)))), va_Nw.of rfl (hts nw3 (t_lw (t4_in (List.mem_of_getElem? (i := 77) rfl))))⟩, va_AO.of (hts _ (t_lw (t1_in (List.mem_of_getElem? (i := 37) rfl)))), ?_, ?_, ?_, va_Nw.of rfl (hts nwC (t_lw (t3_in (List.mem_of_getElem? (i := 200) rfl))))⟩
  · obtain ⟨adK, adV, h1, h2⟩ := vk_Sof (args := #[Value.ref b]) (s := s) (N := 1) (tm := fun _ => tmW) (len := [wLen]) (byt := [wByt]) (A := fun q => s.heap.size ≤ q)
      (fun i hi => by obtain rfl : i = 0 := by omega
                      exact (by decide : wLen < 2 ^ 31))
      (fun i hi => (hs _ (List.mem_of_getElem? (i := 9) rfl)))
      (fun i hi => (hs _ (List.mem_of_getElem? (i := 10) rfl)))
      (fun i hi => (hs _ (List.mem_of_getElem? (i := 11) rfl)))
      (fun i hi => by obtain rfl : i = 0 := by omega
                      exact (hs _ (List.mem_of_getElem? (i := 12) rfl)))
      (fun i hi j hj => by obtain rfl : i = 0 := by omega
                           exact hs _ (elW_in j hj))
      (fun i j hi hj hij => absurd (by omega) hij) hA
    exact ⟨adK, adV, h1, vk_R.of (hts _ (t_lw (t3_in (List.mem_of_getElem? (i := 52) rfl)))) (h2 0 (by decide))⟩
  · exact va_Zof (hts _ (t_lw (t3_in (List.mem_of_getElem? (i := 62) rfl)))) (hts _ (t_lw (t1_in (List.mem_of_getElem? (i := 15) rfl)))) (va_eqi (hs _ (List.mem_of_getElem? (i := 4) rfl))) hA
  · exact va_Zqof (hts _ (t_lw (t3_in (List.mem_of_getElem? (i := 78) rfl)))) (hts _ (t_lw (t1_in (List.mem_of_getElem? (i := 17) rfl)))) (hs _ (List.mem_of_getElem? (i := 5) rfl)) hA
theorem cxl0 {p : Program} {s : State} {m : MethodId} {meth : Method} {c : Code} {b L : Nat} {xs : Nat → Int32} (C0 : lw_At p s m meth c b L xs) : ∃ (dC : Nat → ClassId) (dI : Nat → Nat → Nat) (dA : Nat → ClassId), CxL b p s m meth c dC dI dA := by
  obtain ⟨hx, hb, hr, hml, hown, hts, hX, hbl, hlocks, hgv⟩ := C0
  have E := ext0 hts hgv
  have htG : ∀ w ∈ tblG, w.before #[Value.ref b] s = true := fun w hw => hts w (tblG_in hw)
  obtain ⟨dC, dI, dA, hK⟩ := kn_all htG E.2.1
  exact ⟨dC, dI, dA, hx, hb, hr, hlocks, hml, hown, htG, hK, E⟩
theorem startN {p : Program} {e : Env} {s : State} {m : MethodId} {below : List Frame} {meth : Method} {c : Code} (l : Launch) {b L : Nat} {xs : Nat → Int32} (hL : L ≤ 3072) (C0 : lw_At p s m meth c b L xs) : W p l e room_1 s m #[Value.ref b] below meth c s.heap [] 0 0 (lw_Z below #[Value.ref b] s) (entryFrame m ([Value.ref b] : List Value).toArray 4) := by
  obtain ⟨dC, dI, dA, C⟩ := cxl0 C0
  obtain ⟨hx, hb, hr, hml, hown, hts, hX, hbl, hlocks, hgv⟩ := C0
  have hl := lv_entry ([.ref b]) (n := 4) (Nat.le_of_ble_eq_true rfl)
  rw [lg_entry_eq]
  generalize (lg_sl ([.ref b]) ++ List.replicate (4 - (lg_sl ([.ref b])).length) Slot.unset).toArray = ls at hl ⊢
  have hl : lv_has ls 4 (lvX b (fun _ => 0) [none, none, none, none]) := hl
  refine l_entry hL p e s m below meth c dC dI dA (fun _ => 0) s.heap [] ls C ⟨hX, hbl⟩ (fun v hv => by cases hv) (fun i v hv => ?_) ⟨okMe, fun k q h => (by cases h), fun i j p q h => (by cases h), fun k q h => (by cases h)⟩ va_S.rf hl
  match i, hv with
  | 0, hv => cases hv
  | 1, hv => cases hv
  | 2, hv => cases hv
  | 3, hv => cases hv
  | n + 4, hv => cases hv
